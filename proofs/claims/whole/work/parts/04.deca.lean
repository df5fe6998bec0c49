theorem dX0_init_0 : decode cX0_init 0 = .ok (.aload_n 0, 1) := by decide +kernel
theorem dX0_init_1 : decode cX0_init 1 = .ok (.invokespecial 3, 3) := by decide +kernel
theorem dX0_init_4 : decode cX0_init 4 = .ok (.aload_n 0, 1) := by decide +kernel
theorem dX0_init_5 : decode cX0_init 5 = .ok (.iload_n 1, 1) := by decide +kernel
theorem dX0_init_6 : decode cX0_init 6 = .ok (.putfield 9, 3) := by decide +kernel
theorem dX0_init_9 : decode cX0_init 9 = .ok (.return_, 1) := by decide +kernel
theorem dX0_tell_0 : decode cX0_tell 0 = .ok (.aload_n 0, 1) := by decide +kernel
theorem dX0_tell_1 : decode cX0_tell 1 = .ok (.iconst 0, 1) := by decide +kernel
theorem dX0_tell_2 : decode cX0_tell 2 = .ok (.putfield 15, 3) := by decide +kernel
theorem dX0_tell_5 : decode cX0_tell 5 = .ok (.aload_n 0, 1) := by decide +kernel
theorem dX0_tell_6 : decode cX0_tell 6 = .ok (.iload_n 1, 1) := by decide +kernel
theorem dX0_tell_7 : decode cX0_tell 7 = .ok (.putfield 18, 3) := by decide +kernel
theorem dX0_tell_10 : decode cX0_tell 10 = .ok (.aload_n 0, 1) := by decide +kernel
theorem dX0_tell_11 : decode cX0_tell 11 = .ok (.iload_n 2, 1) := by decide +kernel
theorem dX0_tell_12 : decode cX0_tell 12 = .ok (.putfield 21, 3) := by decide +kernel
theorem dX0_tell_15 : decode cX0_tell 15 = .ok (.aload_n 0, 1) := by decide +kernel
theorem dX0_tell_16 : decode cX0_tell 16 = .ok (.iload_n 3, 1) := by decide +kernel
theorem dX0_tell_17 : decode cX0_tell 17 = .ok (.putfield 24, 3) := by decide +kernel
theorem dX0_tell_20 : decode cX0_tell 20 = .ok (.aload_n 0, 1) := by decide +kernel
theorem dX0_tell_21 : decode cX0_tell 21 = .ok (.iload 4, 2) := by decide +kernel
theorem dX0_tell_23 : decode cX0_tell 23 = .ok (.putfield 27, 3) := by decide +kernel
theorem dX0_tell_26 : decode cX0_tell 26 = .ok (.aload_n 0, 1) := by decide +kernel
theorem dX0_tell_27 : decode cX0_tell 27 = .ok (.iconst 0, 1) := by decide +kernel
theorem dX0_tell_28 : decode cX0_tell 28 = .ok (.putfield 30, 3) := by decide +kernel
theorem dX0_tell_31 : decode cX0_tell 31 = .ok (.aload_n 0, 1) := by decide +kernel
theorem dX0_tell_32 : decode cX0_tell 32 = .ok (.iconst 0, 1) := by decide +kernel
theorem dX0_tell_33 : decode cX0_tell 33 = .ok (.putfield 34, 3) := by decide +kernel
theorem dX0_tell_36 : decode cX0_tell 36 = .ok (.aload_n 0, 1) := by decide +kernel
theorem dX0_tell_37 : decode cX0_tell 37 = .ok (.iconst (-1), 1) := by decide +kernel
theorem dX0_tell_38 : decode cX0_tell 38 = .ok (.putfield 37, 3) := by decide +kernel
theorem dX0_tell_41 : decode cX0_tell 41 = .ok (.aload_n 0, 1) := by decide +kernel
theorem dX0_tell_42 : decode cX0_tell 42 = .ok (.iconst (-1), 1) := by decide +kernel
theorem dX0_tell_43 : decode cX0_tell 43 = .ok (.putfield 40, 3) := by decide +kernel
theorem dX0_tell_46 : decode cX0_tell 46 = .ok (.aload_n 0, 1) := by decide +kernel
theorem dX0_tell_47 : decode cX0_tell 47 = .ok (.iconst (-1), 1) := by decide +kernel
theorem dX0_tell_48 : decode cX0_tell 48 = .ok (.putfield 43, 3) := by decide +kernel
theorem dX0_tell_51 : decode cX0_tell 51 = .ok (.aload_n 0, 1) := by decide +kernel
theorem dX0_tell_52 : decode cX0_tell 52 = .ok (.iconst (-1), 1) := by decide +kernel
theorem dX0_tell_53 : decode cX0_tell 53 = .ok (.putfield 46, 3) := by decide +kernel
theorem dX0_tell_56 : decode cX0_tell 56 = .ok (.aload_n 0, 1) := by decide +kernel
theorem dX0_tell_57 : decode cX0_tell 57 = .ok (.iconst 0, 1) := by decide +kernel
theorem dX0_tell_58 : decode cX0_tell 58 = .ok (.putfield 49, 3) := by decide +kernel
theorem dX0_tell_61 : decode cX0_tell 61 = .ok (.return_, 1) := by decide +kernel
theorem dX0_copyFrom_0 : decode cX0_copyFrom 0 = .ok (.aload_n 0, 1) := by decide +kernel
theorem dX0_copyFrom_1 : decode cX0_copyFrom 1 = .ok (.aload_n 1, 1) := by decide +kernel
theorem dX0_copyFrom_2 : decode cX0_copyFrom 2 = .ok (.getfield 15, 3) := by decide +kernel
theorem dX0_copyFrom_5 : decode cX0_copyFrom 5 = .ok (.putfield 15, 3) := by decide +kernel
theorem dX0_copyFrom_8 : decode cX0_copyFrom 8 = .ok (.aload_n 0, 1) := by decide +kernel
theorem dX0_copyFrom_9 : decode cX0_copyFrom 9 = .ok (.aload_n 1, 1) := by decide +kernel
theorem dX0_copyFrom_10 : decode cX0_copyFrom 10 = .ok (.getfield 18, 3) := by decide +kernel
theorem dX0_copyFrom_13 : decode cX0_copyFrom 13 = .ok (.putfield 18, 3) := by decide +kernel
theorem dX0_copyFrom_16 : decode cX0_copyFrom 16 = .ok (.aload_n 0, 1) := by decide +kernel
theorem dX0_copyFrom_17 : decode cX0_copyFrom 17 = .ok (.aload_n 1, 1) := by decide +kernel
theorem dX0_copyFrom_18 : decode cX0_copyFrom 18 = .ok (.getfield 21, 3) := by decide +kernel
theorem dX0_copyFrom_21 : decode cX0_copyFrom 21 = .ok (.putfield 21, 3) := by decide +kernel
theorem dX0_copyFrom_24 : decode cX0_copyFrom 24 = .ok (.aload_n 0, 1) := by decide +kernel
theorem dX0_copyFrom_25 : decode cX0_copyFrom 25 = .ok (.aload_n 1, 1) := by decide +kernel
theorem dX0_copyFrom_26 : decode cX0_copyFrom 26 = .ok (.getfield 24, 3) := by decide +kernel
theorem dX0_copyFrom_29 : decode cX0_copyFrom 29 = .ok (.putfield 24, 3) := by decide +kernel
theorem dX0_copyFrom_32 : decode cX0_copyFrom 32 = .ok (.aload_n 0, 1) := by decide +kernel
theorem dX0_copyFrom_33 : decode cX0_copyFrom 33 = .ok (.aload_n 1, 1) := by decide +kernel
theorem dX0_copyFrom_34 : decode cX0_copyFrom 34 = .ok (.getfield 27, 3) := by decide +kernel
theorem dX0_copyFrom_37 : decode cX0_copyFrom 37 = .ok (.putfield 27, 3) := by decide +kernel
theorem dX0_copyFrom_40 : decode cX0_copyFrom 40 = .ok (.aload_n 0, 1) := by decide +kernel
theorem dX0_copyFrom_41 : decode cX0_copyFrom 41 = .ok (.aload_n 1, 1) := by decide +kernel
theorem dX0_copyFrom_42 : decode cX0_copyFrom 42 = .ok (.getfield 30, 3) := by decide +kernel
theorem dX0_copyFrom_45 : decode cX0_copyFrom 45 = .ok (.putfield 30, 3) := by decide +kernel
theorem dX0_copyFrom_48 : decode cX0_copyFrom 48 = .ok (.aload_n 0, 1) := by decide +kernel
theorem dX0_copyFrom_49 : decode cX0_copyFrom 49 = .ok (.aload_n 1, 1) := by decide +kernel
theorem dX0_copyFrom_50 : decode cX0_copyFrom 50 = .ok (.getfield 34, 3) := by decide +kernel
theorem dX0_copyFrom_53 : decode cX0_copyFrom 53 = .ok (.putfield 34, 3) := by decide +kernel
theorem dX0_copyFrom_56 : decode cX0_copyFrom 56 = .ok (.aload_n 0, 1) := by decide +kernel
theorem dX0_copyFrom_57 : decode cX0_copyFrom 57 = .ok (.aload_n 1, 1) := by decide +kernel
theorem dX0_copyFrom_58 : decode cX0_copyFrom 58 = .ok (.getfield 37, 3) := by decide +kernel
theorem dX0_copyFrom_61 : decode cX0_copyFrom 61 = .ok (.putfield 37, 3) := by decide +kernel
theorem dX0_copyFrom_64 : decode cX0_copyFrom 64 = .ok (.aload_n 0, 1) := by decide +kernel
theorem dX0_copyFrom_65 : decode cX0_copyFrom 65 = .ok (.aload_n 1, 1) := by decide +kernel
theorem dX0_copyFrom_66 : decode cX0_copyFrom 66 = .ok (.getfield 40, 3) := by decide +kernel
theorem dX0_copyFrom_69 : decode cX0_copyFrom 69 = .ok (.putfield 40, 3) := by decide +kernel
theorem dX0_copyFrom_72 : decode cX0_copyFrom 72 = .ok (.aload_n 0, 1) := by decide +kernel
theorem dX0_copyFrom_73 : decode cX0_copyFrom 73 = .ok (.aload_n 1, 1) := by decide +kernel
theorem dX0_copyFrom_74 : decode cX0_copyFrom 74 = .ok (.getfield 43, 3) := by decide +kernel
theorem dX0_copyFrom_77 : decode cX0_copyFrom 77 = .ok (.putfield 43, 3) := by decide +kernel
theorem dX0_copyFrom_80 : decode cX0_copyFrom 80 = .ok (.aload_n 0, 1) := by decide +kernel
theorem dX0_copyFrom_81 : decode cX0_copyFrom 81 = .ok (.aload_n 1, 1) := by decide +kernel
theorem dX0_copyFrom_82 : decode cX0_copyFrom 82 = .ok (.getfield 46, 3) := by decide +kernel
theorem dX0_copyFrom_85 : decode cX0_copyFrom 85 = .ok (.putfield 46, 3) := by decide +kernel
theorem dX0_copyFrom_88 : decode cX0_copyFrom 88 = .ok (.aload_n 0, 1) := by decide +kernel
theorem dX0_copyFrom_89 : decode cX0_copyFrom 89 = .ok (.aload_n 1, 1) := by decide +kernel
theorem dX0_copyFrom_90 : decode cX0_copyFrom 90 = .ok (.getfield 49, 3) := by decide +kernel
theorem dX0_copyFrom_93 : decode cX0_copyFrom 93 = .ok (.putfield 49, 3) := by decide +kernel
theorem dX0_copyFrom_96 : decode cX0_copyFrom 96 = .ok (.return_, 1) := by decide +kernel
theorem dX0_isOver_0 : decode cX0_isOver 0 = .ok (.aload_n 0, 1) := by decide +kernel
theorem dX0_isOver_1 : decode cX0_isOver 1 = .ok (.getfield 15, 3) := by decide +kernel
theorem dX0_isOver_4 : decode cX0_isOver 4 = .ok (.bipush 6, 2) := by decide +kernel
theorem dX0_isOver_6 : decode cX0_isOver 6 = .ok (.if_icmp .lt 7, 3) := by decide +kernel
theorem dX0_isOver_9 : decode cX0_isOver 9 = .ok (.iconst 1, 1) := by decide +kernel
theorem dX0_isOver_10 : decode cX0_isOver 10 = .ok (.goto 4, 3) := by decide +kernel
theorem dX0_isOver_13 : decode cX0_isOver 13 = .ok (.iconst 0, 1) := by decide +kernel
theorem dX0_isOver_14 : decode cX0_isOver 14 = .ok (.ireturn, 1) := by decide +kernel
theorem dX0_beginToTalk_0 : decode cX0_beginToTalk 0 = .ok (.aload_n 0, 1) := by decide +kernel
theorem dX0_beginToTalk_1 : decode cX0_beginToTalk 1 = .ok (.iconst 5, 1) := by decide +kernel
theorem dX0_beginToTalk_2 : decode cX0_beginToTalk 2 = .ok (.putfield 15, 3) := by decide +kernel
theorem dX0_beginToTalk_5 : decode cX0_beginToTalk 5 = .ok (.aload_n 0, 1) := by decide +kernel
theorem dX0_beginToTalk_6 : decode cX0_beginToTalk 6 = .ok (.iload_n 1, 1) := by decide +kernel
theorem dX0_beginToTalk_7 : decode cX0_beginToTalk 7 = .ok (.putfield 43, 3) := by decide +kernel
theorem dX0_beginToTalk_10 : decode cX0_beginToTalk 10 = .ok (.aload_n 0, 1) := by decide +kernel
theorem dX0_beginToTalk_11 : decode cX0_beginToTalk 11 = .ok (.aload_n 0, 1) := by decide +kernel
theorem dX0_beginToTalk_12 : decode cX0_beginToTalk 12 = .ok (.getfield 24, 3) := by decide +kernel
theorem dX0_beginToTalk_15 : decode cX0_beginToTalk 15 = .ok (.putfield 49, 3) := by decide +kernel
theorem dX0_beginToTalk_18 : decode cX0_beginToTalk 18 = .ok (.return_, 1) := by decide +kernel
theorem dX0_end_0 : decode cX0_end 0 = .ok (.aload_n 0, 1) := by decide +kernel
theorem dX0_end_1 : decode cX0_end 1 = .ok (.iload_n 1, 1) := by decide +kernel
theorem dX0_end_2 : decode cX0_end 2 = .ok (.putfield 15, 3) := by decide +kernel
theorem dX0_end_5 : decode cX0_end 5 = .ok (.aload_n 0, 1) := by decide +kernel
theorem dX0_end_6 : decode cX0_end 6 = .ok (.iload_n 2, 1) := by decide +kernel
theorem dX0_end_7 : decode cX0_end 7 = .ok (.putfield 46, 3) := by decide +kernel
theorem dX0_end_10 : decode cX0_end 10 = .ok (.aload_n 0, 1) := by decide +kernel
theorem dX0_end_11 : decode cX0_end 11 = .ok (.iconst 0, 1) := by decide +kernel
theorem dX0_end_12 : decode cX0_end 12 = .ok (.putfield 49, 3) := by decide +kernel
theorem dX0_end_15 : decode cX0_end 15 = .ok (.return_, 1) := by decide +kernel
theorem dX1_init_0 : decode cX1_init 0 = .ok (.aload_n 0, 1) := by decide +kernel
theorem dX1_init_1 : decode cX1_init 1 = .ok (.invokespecial 3, 3) := by decide +kernel
theorem dX1_init_4 : decode cX1_init 4 = .ok (.aload_n 0, 1) := by decide +kernel
theorem dX1_init_5 : decode cX1_init 5 = .ok (.bipush 12, 2) := by decide +kernel
theorem dX1_init_7 : decode cX1_init 7 = .ok (.newarray .int, 2) := by decide +kernel
theorem dX1_init_9 : decode cX1_init 9 = .ok (.putfield 9, 3) := by decide +kernel
theorem dX1_init_12 : decode cX1_init 12 = .ok (.aload_n 0, 1) := by decide +kernel
theorem dX1_init_13 : decode cX1_init 13 = .ok (.iconst 5, 1) := by decide +kernel
theorem dX1_init_14 : decode cX1_init 14 = .ok (.anewarray 15, 3) := by decide +kernel
theorem dX1_init_17 : decode cX1_init 17 = .ok (.putfield 17, 3) := by decide +kernel
theorem dX1_init_20 : decode cX1_init 20 = .ok (.iconst 0, 1) := by decide +kernel
theorem dX1_init_21 : decode cX1_init 21 = .ok (.istore_n 1, 1) := by decide +kernel
theorem dX1_init_22 : decode cX1_init 22 = .ok (.iload_n 1, 1) := by decide +kernel
theorem dX1_init_23 : decode cX1_init 23 = .ok (.aload_n 0, 1) := by decide +kernel
theorem dX1_init_24 : decode cX1_init 24 = .ok (.getfield 17, 3) := by decide +kernel
theorem dX1_init_27 : decode cX1_init 27 = .ok (.arraylength, 1) := by decide +kernel
theorem dX1_init_28 : decode cX1_init 28 = .ok (.if_icmp .ge 23, 3) := by decide +kernel
theorem dX1_init_31 : decode cX1_init 31 = .ok (.aload_n 0, 1) := by decide +kernel
theorem dX1_init_32 : decode cX1_init 32 = .ok (.getfield 17, 3) := by decide +kernel
theorem dX1_init_35 : decode cX1_init 35 = .ok (.iload_n 1, 1) := by decide +kernel
theorem dX1_init_36 : decode cX1_init 36 = .ok (.new 15, 3) := by decide +kernel
theorem dX1_init_39 : decode cX1_init 39 = .ok (.dup, 1) := by decide +kernel
theorem dX1_init_40 : decode cX1_init 40 = .ok (.iload_n 1, 1) := by decide +kernel
theorem dX1_init_41 : decode cX1_init 41 = .ok (.invokespecial 21, 3) := by decide +kernel
theorem dX1_init_44 : decode cX1_init 44 = .ok (.aastore, 1) := by decide +kernel
theorem dX1_init_45 : decode cX1_init 45 = .ok (.iinc 1 1, 3) := by decide +kernel
theorem dX1_init_48 : decode cX1_init 48 = .ok (.goto (-26), 3) := by decide +kernel
theorem dX1_init_51 : decode cX1_init 51 = .ok (.aload_n 0, 1) := by decide +kernel
theorem dX1_init_52 : decode cX1_init 52 = .ok (.bipush 8, 2) := by decide +kernel
theorem dX1_init_54 : decode cX1_init 54 = .ok (.anewarray 24, 3) := by decide +kernel
theorem dX1_init_57 : decode cX1_init 57 = .ok (.putfield 26, 3) := by decide +kernel
theorem dX1_init_60 : decode cX1_init 60 = .ok (.iconst 0, 1) := by decide +kernel
theorem dX1_init_61 : decode cX1_init 61 = .ok (.istore_n 1, 1) := by decide +kernel
theorem dX1_init_62 : decode cX1_init 62 = .ok (.iload_n 1, 1) := by decide +kernel
theorem dX1_init_63 : decode cX1_init 63 = .ok (.aload_n 0, 1) := by decide +kernel
theorem dX1_init_64 : decode cX1_init 64 = .ok (.getfield 26, 3) := by decide +kernel
theorem dX1_init_67 : decode cX1_init 67 = .ok (.arraylength, 1) := by decide +kernel
theorem dX1_init_68 : decode cX1_init 68 = .ok (.if_icmp .ge 23, 3) := by decide +kernel
theorem dX1_init_71 : decode cX1_init 71 = .ok (.aload_n 0, 1) := by decide +kernel
theorem dX1_init_72 : decode cX1_init 72 = .ok (.getfield 26, 3) := by decide +kernel
theorem dX1_init_75 : decode cX1_init 75 = .ok (.iload_n 1, 1) := by decide +kernel
theorem dX1_init_76 : decode cX1_init 76 = .ok (.new 24, 3) := by decide +kernel
theorem dX1_init_79 : decode cX1_init 79 = .ok (.dup, 1) := by decide +kernel
theorem dX1_init_80 : decode cX1_init 80 = .ok (.iload_n 1, 1) := by decide +kernel
theorem dX1_init_81 : decode cX1_init 81 = .ok (.invokespecial 30, 3) := by decide +kernel
theorem dX1_init_84 : decode cX1_init 84 = .ok (.aastore, 1) := by decide +kernel
theorem dX1_init_85 : decode cX1_init 85 = .ok (.iinc 1 1, 3) := by decide +kernel
theorem dX1_init_88 : decode cX1_init 88 = .ok (.goto (-26), 3) := by decide +kernel
theorem dX1_init_91 : decode cX1_init 91 = .ok (.aload_n 0, 1) := by decide +kernel
theorem dX1_init_92 : decode cX1_init 92 = .ok (.iconst 4, 1) := by decide +kernel
theorem dX1_init_93 : decode cX1_init 93 = .ok (.anewarray 31, 3) := by decide +kernel
theorem dX1_init_96 : decode cX1_init 96 = .ok (.putfield 33, 3) := by decide +kernel
theorem dX1_init_99 : decode cX1_init 99 = .ok (.iconst 0, 1) := by decide +kernel
theorem dX1_init_100 : decode cX1_init 100 = .ok (.istore_n 1, 1) := by decide +kernel
theorem dX1_init_101 : decode cX1_init 101 = .ok (.iload_n 1, 1) := by decide +kernel
theorem dX1_init_102 : decode cX1_init 102 = .ok (.aload_n 0, 1) := by decide +kernel
theorem dX1_init_103 : decode cX1_init 103 = .ok (.getfield 33, 3) := by decide +kernel
theorem dX1_init_106 : decode cX1_init 106 = .ok (.arraylength, 1) := by decide +kernel
theorem dX1_init_107 : decode cX1_init 107 = .ok (.if_icmp .ge 23, 3) := by decide +kernel
theorem dX1_init_110 : decode cX1_init 110 = .ok (.aload_n 0, 1) := by decide +kernel
theorem dX1_init_111 : decode cX1_init 111 = .ok (.getfield 33, 3) := by decide +kernel
theorem dX1_init_114 : decode cX1_init 114 = .ok (.iload_n 1, 1) := by decide +kernel
theorem dX1_init_115 : decode cX1_init 115 = .ok (.new 31, 3) := by decide +kernel
theorem dX1_init_118 : decode cX1_init 118 = .ok (.dup, 1) := by decide +kernel
theorem dX1_init_119 : decode cX1_init 119 = .ok (.iload_n 1, 1) := by decide +kernel
theorem dX1_init_120 : decode cX1_init 120 = .ok (.invokespecial 37, 3) := by decide +kernel
theorem dX1_init_123 : decode cX1_init 123 = .ok (.aastore, 1) := by decide +kernel
theorem dX1_init_124 : decode cX1_init 124 = .ok (.iinc 1 1, 3) := by decide +kernel
theorem dX1_init_127 : decode cX1_init 127 = .ok (.goto (-26), 3) := by decide +kernel
theorem dX1_init_130 : decode cX1_init 130 = .ok (.aload_n 0, 1) := by decide +kernel
theorem dX1_init_131 : decode cX1_init 131 = .ok (.iconst 3, 1) := by decide +kernel
theorem dX1_init_132 : decode cX1_init 132 = .ok (.anewarray 38, 3) := by decide +kernel
theorem dX1_init_135 : decode cX1_init 135 = .ok (.putfield 40, 3) := by decide +kernel
theorem dX1_init_138 : decode cX1_init 138 = .ok (.iconst 0, 1) := by decide +kernel
theorem dX1_init_139 : decode cX1_init 139 = .ok (.istore_n 1, 1) := by decide +kernel
theorem dX1_init_140 : decode cX1_init 140 = .ok (.iload_n 1, 1) := by decide +kernel
theorem dX1_init_141 : decode cX1_init 141 = .ok (.aload_n 0, 1) := by decide +kernel
theorem dX1_init_142 : decode cX1_init 142 = .ok (.getfield 40, 3) := by decide +kernel
theorem dX1_init_145 : decode cX1_init 145 = .ok (.arraylength, 1) := by decide +kernel
theorem dX1_init_146 : decode cX1_init 146 = .ok (.if_icmp .ge 23, 3) := by decide +kernel
theorem dX1_init_149 : decode cX1_init 149 = .ok (.aload_n 0, 1) := by decide +kernel
theorem dX1_init_150 : decode cX1_init 150 = .ok (.getfield 40, 3) := by decide +kernel
theorem dX1_init_153 : decode cX1_init 153 = .ok (.iload_n 1, 1) := by decide +kernel
theorem dX1_init_154 : decode cX1_init 154 = .ok (.new 38, 3) := by decide +kernel
theorem dX1_init_157 : decode cX1_init 157 = .ok (.dup, 1) := by decide +kernel
theorem dX1_init_158 : decode cX1_init 158 = .ok (.iload_n 1, 1) := by decide +kernel
theorem dX1_init_159 : decode cX1_init 159 = .ok (.invokespecial 44, 3) := by decide +kernel
theorem dX1_init_162 : decode cX1_init 162 = .ok (.aastore, 1) := by decide +kernel
theorem dX1_init_163 : decode cX1_init 163 = .ok (.iinc 1 1, 3) := by decide +kernel
theorem dX1_init_166 : decode cX1_init 166 = .ok (.goto (-26), 3) := by decide +kernel
theorem dX1_init_169 : decode cX1_init 169 = .ok (.aload_n 0, 1) := by decide +kernel
theorem dX1_init_170 : decode cX1_init 170 = .ok (.bipush 40, 2) := by decide +kernel
theorem dX1_init_172 : decode cX1_init 172 = .ok (.anewarray 45, 3) := by decide +kernel
theorem dX1_init_175 : decode cX1_init 175 = .ok (.putfield 47, 3) := by decide +kernel
theorem dX1_init_178 : decode cX1_init 178 = .ok (.iconst 0, 1) := by decide +kernel
theorem dX1_init_179 : decode cX1_init 179 = .ok (.istore_n 1, 1) := by decide +kernel
theorem dX1_init_180 : decode cX1_init 180 = .ok (.iload_n 1, 1) := by decide +kernel
theorem dX1_init_181 : decode cX1_init 181 = .ok (.aload_n 0, 1) := by decide +kernel
theorem dX1_init_182 : decode cX1_init 182 = .ok (.getfield 47, 3) := by decide +kernel
theorem dX1_init_185 : decode cX1_init 185 = .ok (.arraylength, 1) := by decide +kernel
theorem dX1_init_186 : decode cX1_init 186 = .ok (.if_icmp .ge 23, 3) := by decide +kernel
theorem dX1_init_189 : decode cX1_init 189 = .ok (.aload_n 0, 1) := by decide +kernel
theorem dX1_init_190 : decode cX1_init 190 = .ok (.getfield 47, 3) := by decide +kernel
theorem dX1_init_193 : decode cX1_init 193 = .ok (.iload_n 1, 1) := by decide +kernel
theorem dX1_init_194 : decode cX1_init 194 = .ok (.new 45, 3) := by decide +kernel
theorem dX1_init_197 : decode cX1_init 197 = .ok (.dup, 1) := by decide +kernel
theorem dX1_init_198 : decode cX1_init 198 = .ok (.iload_n 1, 1) := by decide +kernel
theorem dX1_init_199 : decode cX1_init 199 = .ok (.invokespecial 51, 3) := by decide +kernel
theorem dX1_init_202 : decode cX1_init 202 = .ok (.aastore, 1) := by decide +kernel
theorem dX1_init_203 : decode cX1_init 203 = .ok (.iinc 1 1, 3) := by decide +kernel
theorem dX1_init_206 : decode cX1_init 206 = .ok (.goto (-26), 3) := by decide +kernel
theorem dX1_init_209 : decode cX1_init 209 = .ok (.aload_n 0, 1) := by decide +kernel
theorem dX1_init_210 : decode cX1_init 210 = .ok (.invokevirtual 52, 3) := by decide +kernel
theorem dX1_init_213 : decode cX1_init 213 = .ok (.return_, 1) := by decide +kernel
theorem dX1_clear_0 : decode cX1_clear 0 = .ok (.aload_n 0, 1) := by decide +kernel
theorem dX1_clear_1 : decode cX1_clear 1 = .ok (.iconst 1, 1) := by decide +kernel
theorem dX1_clear_2 : decode cX1_clear 2 = .ok (.putfield 55, 3) := by decide +kernel
theorem dX1_clear_5 : decode cX1_clear 5 = .ok (.aload_n 0, 1) := by decide +kernel
theorem dX1_clear_6 : decode cX1_clear 6 = .ok (.iconst 1, 1) := by decide +kernel
theorem dX1_clear_7 : decode cX1_clear 7 = .ok (.putfield 59, 3) := by decide +kernel
theorem dX1_clear_10 : decode cX1_clear 10 = .ok (.aload_n 0, 1) := by decide +kernel
theorem dX1_clear_11 : decode cX1_clear 11 = .ok (.iconst 0, 1) := by decide +kernel
theorem dX1_clear_12 : decode cX1_clear 12 = .ok (.putfield 62, 3) := by decide +kernel
theorem dX1_clear_15 : decode cX1_clear 15 = .ok (.aload_n 0, 1) := by decide +kernel
theorem dX1_clear_16 : decode cX1_clear 16 = .ok (.iconst 0, 1) := by decide +kernel
theorem dX1_clear_17 : decode cX1_clear 17 = .ok (.putfield 65, 3) := by decide +kernel
theorem dX1_clear_20 : decode cX1_clear 20 = .ok (.aload_n 0, 1) := by decide +kernel
theorem dX1_clear_21 : decode cX1_clear 21 = .ok (.iconst 0, 1) := by decide +kernel
theorem dX1_clear_22 : decode cX1_clear 22 = .ok (.putfield 68, 3) := by decide +kernel
theorem dX1_clear_25 : decode cX1_clear 25 = .ok (.aload_n 0, 1) := by decide +kernel
theorem dX1_clear_26 : decode cX1_clear 26 = .ok (.iconst 0, 1) := by decide +kernel
theorem dX1_clear_27 : decode cX1_clear 27 = .ok (.putfield 71, 3) := by decide +kernel
theorem dX1_clear_30 : decode cX1_clear 30 = .ok (.aload_n 0, 1) := by decide +kernel
theorem dX1_clear_31 : decode cX1_clear 31 = .ok (.iconst 0, 1) := by decide +kernel
theorem dX1_clear_32 : decode cX1_clear 32 = .ok (.putfield 74, 3) := by decide +kernel
theorem dX1_clear_35 : decode cX1_clear 35 = .ok (.aload_n 0, 1) := by decide +kernel
theorem dX1_clear_36 : decode cX1_clear 36 = .ok (.bipush 40, 2) := by decide +kernel
theorem dX1_clear_38 : decode cX1_clear 38 = .ok (.putfield 77, 3) := by decide +kernel
theorem dX1_clear_41 : decode cX1_clear 41 = .ok (.aload_n 0, 1) := by decide +kernel
theorem dX1_clear_42 : decode cX1_clear 42 = .ok (.iconst 5, 1) := by decide +kernel
theorem dX1_clear_43 : decode cX1_clear 43 = .ok (.putfield 80, 3) := by decide +kernel
theorem dX1_clear_46 : decode cX1_clear 46 = .ok (.aload_n 0, 1) := by decide +kernel
theorem dX1_clear_47 : decode cX1_clear 47 = .ok (.iconst 2, 1) := by decide +kernel
theorem dX1_clear_48 : decode cX1_clear 48 = .ok (.putfield 83, 3) := by decide +kernel
theorem dX1_clear_51 : decode cX1_clear 51 = .ok (.aload_n 0, 1) := by decide +kernel
theorem dX1_clear_52 : decode cX1_clear 52 = .ok (.iconst 0, 1) := by decide +kernel
theorem dX1_clear_53 : decode cX1_clear 53 = .ok (.putfield 86, 3) := by decide +kernel
theorem dX1_clear_56 : decode cX1_clear 56 = .ok (.aload_n 0, 1) := by decide +kernel
theorem dX1_clear_57 : decode cX1_clear 57 = .ok (.iconst 0, 1) := by decide +kernel
theorem dX1_clear_58 : decode cX1_clear 58 = .ok (.putfield 89, 3) := by decide +kernel
theorem dX1_clear_61 : decode cX1_clear 61 = .ok (.aload_n 0, 1) := by decide +kernel
theorem dX1_clear_62 : decode cX1_clear 62 = .ok (.iconst 0, 1) := by decide +kernel
theorem dX1_clear_63 : decode cX1_clear 63 = .ok (.putfield 92, 3) := by decide +kernel
theorem dX1_clear_66 : decode cX1_clear 66 = .ok (.aload_n 0, 1) := by decide +kernel
theorem dX1_clear_67 : decode cX1_clear 67 = .ok (.getfield 33, 3) := by decide +kernel
theorem dX1_clear_70 : decode cX1_clear 70 = .ok (.astore_n 1, 1) := by decide +kernel
theorem dX1_clear_71 : decode cX1_clear 71 = .ok (.aload_n 1, 1) := by decide +kernel
theorem dX1_clear_72 : decode cX1_clear 72 = .ok (.arraylength, 1) := by decide +kernel
theorem dX1_clear_73 : decode cX1_clear 73 = .ok (.istore_n 2, 1) := by decide +kernel
theorem dX1_clear_74 : decode cX1_clear 74 = .ok (.iconst 0, 1) := by decide +kernel
theorem dX1_clear_75 : decode cX1_clear 75 = .ok (.istore_n 3, 1) := by decide +kernel
theorem dX1_clear_76 : decode cX1_clear 76 = .ok (.iload_n 3, 1) := by decide +kernel
theorem dX1_clear_77 : decode cX1_clear 77 = .ok (.iload_n 2, 1) := by decide +kernel
theorem dX1_clear_78 : decode cX1_clear 78 = .ok (.if_icmp .ge 20, 3) := by decide +kernel
theorem dX1_clear_81 : decode cX1_clear 81 = .ok (.aload_n 1, 1) := by decide +kernel
theorem dX1_clear_82 : decode cX1_clear 82 = .ok (.iload_n 3, 1) := by decide +kernel
theorem dX1_clear_83 : decode cX1_clear 83 = .ok (.aaload, 1) := by decide +kernel
theorem dX1_clear_84 : decode cX1_clear 84 = .ok (.astore 4, 2) := by decide +kernel
theorem dX1_clear_86 : decode cX1_clear 86 = .ok (.aload 4, 2) := by decide +kernel
theorem dX1_clear_88 : decode cX1_clear 88 = .ok (.iconst (-1), 1) := by decide +kernel
theorem dX1_clear_89 : decode cX1_clear 89 = .ok (.invokevirtual 96, 3) := by decide +kernel
theorem dX1_clear_92 : decode cX1_clear 92 = .ok (.iinc 3 1, 3) := by decide +kernel
theorem dX1_clear_95 : decode cX1_clear 95 = .ok (.goto (-19), 3) := by decide +kernel
theorem dX1_clear_98 : decode cX1_clear 98 = .ok (.aload_n 0, 1) := by decide +kernel
theorem dX1_clear_99 : decode cX1_clear 99 = .ok (.getfield 40, 3) := by decide +kernel
theorem dX1_clear_102 : decode cX1_clear 102 = .ok (.astore_n 1, 1) := by decide +kernel
theorem dX1_clear_103 : decode cX1_clear 103 = .ok (.aload_n 1, 1) := by decide +kernel
theorem dX1_clear_104 : decode cX1_clear 104 = .ok (.arraylength, 1) := by decide +kernel
theorem dX1_clear_105 : decode cX1_clear 105 = .ok (.istore_n 2, 1) := by decide +kernel
theorem dX1_clear_106 : decode cX1_clear 106 = .ok (.iconst 0, 1) := by decide +kernel
theorem dX1_clear_107 : decode cX1_clear 107 = .ok (.istore_n 3, 1) := by decide +kernel
theorem dX1_clear_108 : decode cX1_clear 108 = .ok (.iload_n 3, 1) := by decide +kernel
theorem dX1_clear_109 : decode cX1_clear 109 = .ok (.iload_n 2, 1) := by decide +kernel
theorem dX1_clear_110 : decode cX1_clear 110 = .ok (.if_icmp .ge 21, 3) := by decide +kernel
theorem dX1_clear_113 : decode cX1_clear 113 = .ok (.aload_n 1, 1) := by decide +kernel
theorem dX1_clear_114 : decode cX1_clear 114 = .ok (.iload_n 3, 1) := by decide +kernel
theorem dX1_clear_115 : decode cX1_clear 115 = .ok (.aaload, 1) := by decide +kernel
theorem dX1_clear_116 : decode cX1_clear 116 = .ok (.astore 4, 2) := by decide +kernel
theorem dX1_clear_118 : decode cX1_clear 118 = .ok (.aload 4, 2) := by decide +kernel
theorem dX1_clear_120 : decode cX1_clear 120 = .ok (.iconst (-1), 1) := by decide +kernel
theorem dX1_clear_121 : decode cX1_clear 121 = .ok (.iconst 0, 1) := by decide +kernel
theorem dX1_clear_122 : decode cX1_clear 122 = .ok (.invokevirtual 99, 3) := by decide +kernel
theorem dX1_clear_125 : decode cX1_clear 125 = .ok (.iinc 3 1, 3) := by decide +kernel
theorem dX1_clear_128 : decode cX1_clear 128 = .ok (.goto (-20), 3) := by decide +kernel
theorem dX1_clear_131 : decode cX1_clear 131 = .ok (.aload_n 0, 1) := by decide +kernel
theorem dX1_clear_132 : decode cX1_clear 132 = .ok (.getfield 47, 3) := by decide +kernel
theorem dX1_clear_135 : decode cX1_clear 135 = .ok (.astore_n 1, 1) := by decide +kernel
theorem dX1_clear_136 : decode cX1_clear 136 = .ok (.aload_n 1, 1) := by decide +kernel
theorem dX1_clear_137 : decode cX1_clear 137 = .ok (.arraylength, 1) := by decide +kernel
theorem dX1_clear_138 : decode cX1_clear 138 = .ok (.istore_n 2, 1) := by decide +kernel
theorem dX1_clear_139 : decode cX1_clear 139 = .ok (.iconst 0, 1) := by decide +kernel
theorem dX1_clear_140 : decode cX1_clear 140 = .ok (.istore_n 3, 1) := by decide +kernel
theorem dX1_clear_141 : decode cX1_clear 141 = .ok (.iload_n 3, 1) := by decide +kernel
theorem dX1_clear_142 : decode cX1_clear 142 = .ok (.iload_n 2, 1) := by decide +kernel
theorem dX1_clear_143 : decode cX1_clear 143 = .ok (.if_icmp .ge 20, 3) := by decide +kernel
theorem dX1_clear_146 : decode cX1_clear 146 = .ok (.aload_n 1, 1) := by decide +kernel
theorem dX1_clear_147 : decode cX1_clear 147 = .ok (.iload_n 3, 1) := by decide +kernel
theorem dX1_clear_148 : decode cX1_clear 148 = .ok (.aaload, 1) := by decide +kernel
theorem dX1_clear_149 : decode cX1_clear 149 = .ok (.astore 4, 2) := by decide +kernel
theorem dX1_clear_151 : decode cX1_clear 151 = .ok (.aload 4, 2) := by decide +kernel
theorem dX1_clear_153 : decode cX1_clear 153 = .ok (.iconst (-1), 1) := by decide +kernel
theorem dX1_clear_154 : decode cX1_clear 154 = .ok (.putfield 102, 3) := by decide +kernel
theorem dX1_clear_157 : decode cX1_clear 157 = .ok (.iinc 3 1, 3) := by decide +kernel
theorem dX1_clear_160 : decode cX1_clear 160 = .ok (.goto (-19), 3) := by decide +kernel
theorem dX1_clear_163 : decode cX1_clear 163 = .ok (.return_, 1) := by decide +kernel
theorem dX1_copyFrom_0 : decode cX1_copyFrom 0 = .ok (.aload_n 0, 1) := by decide +kernel
theorem dX1_copyFrom_1 : decode cX1_copyFrom 1 = .ok (.aload_n 1, 1) := by decide +kernel
theorem dX1_copyFrom_2 : decode cX1_copyFrom 2 = .ok (.getfield 55, 3) := by decide +kernel
theorem dX1_copyFrom_5 : decode cX1_copyFrom 5 = .ok (.putfield 55, 3) := by decide +kernel
theorem dX1_copyFrom_8 : decode cX1_copyFrom 8 = .ok (.aload_n 0, 1) := by decide +kernel
theorem dX1_copyFrom_9 : decode cX1_copyFrom 9 = .ok (.aload_n 1, 1) := by decide +kernel
theorem dX1_copyFrom_10 : decode cX1_copyFrom 10 = .ok (.getfield 59, 3) := by decide +kernel
theorem dX1_copyFrom_13 : decode cX1_copyFrom 13 = .ok (.putfield 59, 3) := by decide +kernel
theorem dX1_copyFrom_16 : decode cX1_copyFrom 16 = .ok (.aload_n 0, 1) := by decide +kernel
theorem dX1_copyFrom_17 : decode cX1_copyFrom 17 = .ok (.aload_n 1, 1) := by decide +kernel
theorem dX1_copyFrom_18 : decode cX1_copyFrom 18 = .ok (.getfield 62, 3) := by decide +kernel
theorem dX1_copyFrom_21 : decode cX1_copyFrom 21 = .ok (.putfield 62, 3) := by decide +kernel
theorem dX1_copyFrom_24 : decode cX1_copyFrom 24 = .ok (.aload_n 0, 1) := by decide +kernel
theorem dX1_copyFrom_25 : decode cX1_copyFrom 25 = .ok (.aload_n 1, 1) := by decide +kernel
theorem dX1_copyFrom_26 : decode cX1_copyFrom 26 = .ok (.getfield 65, 3) := by decide +kernel
theorem dX1_copyFrom_29 : decode cX1_copyFrom 29 = .ok (.putfield 65, 3) := by decide +kernel
theorem dX1_copyFrom_32 : decode cX1_copyFrom 32 = .ok (.aload_n 0, 1) := by decide +kernel
theorem dX1_copyFrom_33 : decode cX1_copyFrom 33 = .ok (.aload_n 1, 1) := by decide +kernel
theorem dX1_copyFrom_34 : decode cX1_copyFrom 34 = .ok (.getfield 68, 3) := by decide +kernel
theorem dX1_copyFrom_37 : decode cX1_copyFrom 37 = .ok (.putfield 68, 3) := by decide +kernel
theorem dX1_copyFrom_40 : decode cX1_copyFrom 40 = .ok (.aload_n 0, 1) := by decide +kernel
theorem dX1_copyFrom_41 : decode cX1_copyFrom 41 = .ok (.aload_n 1, 1) := by decide +kernel
theorem dX1_copyFrom_42 : decode cX1_copyFrom 42 = .ok (.getfield 71, 3) := by decide +kernel
theorem dX1_copyFrom_45 : decode cX1_copyFrom 45 = .ok (.putfield 71, 3) := by decide +kernel
theorem dX1_copyFrom_48 : decode cX1_copyFrom 48 = .ok (.aload_n 0, 1) := by decide +kernel
theorem dX1_copyFrom_49 : decode cX1_copyFrom 49 = .ok (.aload_n 1, 1) := by decide +kernel
theorem dX1_copyFrom_50 : decode cX1_copyFrom 50 = .ok (.getfield 74, 3) := by decide +kernel
theorem dX1_copyFrom_53 : decode cX1_copyFrom 53 = .ok (.putfield 74, 3) := by decide +kernel
theorem dX1_copyFrom_56 : decode cX1_copyFrom 56 = .ok (.aload_n 0, 1) := by decide +kernel
theorem dX1_copyFrom_57 : decode cX1_copyFrom 57 = .ok (.aload_n 1, 1) := by decide +kernel
theorem dX1_copyFrom_58 : decode cX1_copyFrom 58 = .ok (.getfield 77, 3) := by decide +kernel
theorem dX1_copyFrom_61 : decode cX1_copyFrom 61 = .ok (.putfield 77, 3) := by decide +kernel
theorem dX1_copyFrom_64 : decode cX1_copyFrom 64 = .ok (.aload_n 0, 1) := by decide +kernel
theorem dX1_copyFrom_65 : decode cX1_copyFrom 65 = .ok (.aload_n 1, 1) := by decide +kernel
theorem dX1_copyFrom_66 : decode cX1_copyFrom 66 = .ok (.getfield 80, 3) := by decide +kernel
theorem dX1_copyFrom_69 : decode cX1_copyFrom 69 = .ok (.putfield 80, 3) := by decide +kernel
theorem dX1_copyFrom_72 : decode cX1_copyFrom 72 = .ok (.aload_n 0, 1) := by decide +kernel
theorem dX1_copyFrom_73 : decode cX1_copyFrom 73 = .ok (.aload_n 1, 1) := by decide +kernel
theorem dX1_copyFrom_74 : decode cX1_copyFrom 74 = .ok (.getfield 83, 3) := by decide +kernel
theorem dX1_copyFrom_77 : decode cX1_copyFrom 77 = .ok (.putfield 83, 3) := by decide +kernel
theorem dX1_copyFrom_80 : decode cX1_copyFrom 80 = .ok (.aload_n 0, 1) := by decide +kernel
theorem dX1_copyFrom_81 : decode cX1_copyFrom 81 = .ok (.aload_n 1, 1) := by decide +kernel
theorem dX1_copyFrom_82 : decode cX1_copyFrom 82 = .ok (.getfield 86, 3) := by decide +kernel
theorem dX1_copyFrom_85 : decode cX1_copyFrom 85 = .ok (.putfield 86, 3) := by decide +kernel
theorem dX1_copyFrom_88 : decode cX1_copyFrom 88 = .ok (.aload_n 0, 1) := by decide +kernel
theorem dX1_copyFrom_89 : decode cX1_copyFrom 89 = .ok (.aload_n 1, 1) := by decide +kernel
theorem dX1_copyFrom_90 : decode cX1_copyFrom 90 = .ok (.getfield 89, 3) := by decide +kernel
theorem dX1_copyFrom_93 : decode cX1_copyFrom 93 = .ok (.putfield 89, 3) := by decide +kernel
theorem dX1_copyFrom_96 : decode cX1_copyFrom 96 = .ok (.aload_n 0, 1) := by decide +kernel
theorem dX1_copyFrom_97 : decode cX1_copyFrom 97 = .ok (.aload_n 1, 1) := by decide +kernel
theorem dX1_copyFrom_98 : decode cX1_copyFrom 98 = .ok (.getfield 92, 3) := by decide +kernel
theorem dX1_copyFrom_101 : decode cX1_copyFrom 101 = .ok (.putfield 92, 3) := by decide +kernel
theorem dX1_copyFrom_104 : decode cX1_copyFrom 104 = .ok (.iconst 0, 1) := by decide +kernel
theorem dX1_copyFrom_105 : decode cX1_copyFrom 105 = .ok (.istore_n 2, 1) := by decide +kernel
theorem dX1_copyFrom_106 : decode cX1_copyFrom 106 = .ok (.iload_n 2, 1) := by decide +kernel
theorem dX1_copyFrom_107 : decode cX1_copyFrom 107 = .ok (.aload_n 0, 1) := by decide +kernel
theorem dX1_copyFrom_108 : decode cX1_copyFrom 108 = .ok (.getfield 9, 3) := by decide +kernel
theorem dX1_copyFrom_111 : decode cX1_copyFrom 111 = .ok (.arraylength, 1) := by decide +kernel
theorem dX1_copyFrom_112 : decode cX1_copyFrom 112 = .ok (.if_icmp .ge 30, 3) := by decide +kernel
theorem dX1_copyFrom_115 : decode cX1_copyFrom 115 = .ok (.iload_n 2, 1) := by decide +kernel
theorem dX1_copyFrom_116 : decode cX1_copyFrom 116 = .ok (.aload_n 1, 1) := by decide +kernel
theorem dX1_copyFrom_117 : decode cX1_copyFrom 117 = .ok (.getfield 9, 3) := by decide +kernel
theorem dX1_copyFrom_120 : decode cX1_copyFrom 120 = .ok (.arraylength, 1) := by decide +kernel
theorem dX1_copyFrom_121 : decode cX1_copyFrom 121 = .ok (.if_icmp .ge 21, 3) := by decide +kernel
theorem dX1_copyFrom_124 : decode cX1_copyFrom 124 = .ok (.aload_n 0, 1) := by decide +kernel
theorem dX1_copyFrom_125 : decode cX1_copyFrom 125 = .ok (.getfield 9, 3) := by decide +kernel
theorem dX1_copyFrom_128 : decode cX1_copyFrom 128 = .ok (.iload_n 2, 1) := by decide +kernel
theorem dX1_copyFrom_129 : decode cX1_copyFrom 129 = .ok (.aload_n 1, 1) := by decide +kernel
theorem dX1_copyFrom_130 : decode cX1_copyFrom 130 = .ok (.getfield 9, 3) := by decide +kernel
theorem dX1_copyFrom_133 : decode cX1_copyFrom 133 = .ok (.iload_n 2, 1) := by decide +kernel
theorem dX1_copyFrom_134 : decode cX1_copyFrom 134 = .ok (.iaload, 1) := by decide +kernel
theorem dX1_copyFrom_135 : decode cX1_copyFrom 135 = .ok (.iastore, 1) := by decide +kernel
theorem dX1_copyFrom_136 : decode cX1_copyFrom 136 = .ok (.iinc 2 1, 3) := by decide +kernel
theorem dX1_copyFrom_139 : decode cX1_copyFrom 139 = .ok (.goto (-33), 3) := by decide +kernel
theorem dX1_copyFrom_142 : decode cX1_copyFrom 142 = .ok (.iconst 0, 1) := by decide +kernel
theorem dX1_copyFrom_143 : decode cX1_copyFrom 143 = .ok (.istore_n 2, 1) := by decide +kernel
theorem dX1_copyFrom_144 : decode cX1_copyFrom 144 = .ok (.iload_n 2, 1) := by decide +kernel
theorem dX1_copyFrom_145 : decode cX1_copyFrom 145 = .ok (.aload_n 0, 1) := by decide +kernel
theorem dX1_copyFrom_146 : decode cX1_copyFrom 146 = .ok (.getfield 17, 3) := by decide +kernel
theorem dX1_copyFrom_149 : decode cX1_copyFrom 149 = .ok (.arraylength, 1) := by decide +kernel
theorem dX1_copyFrom_150 : decode cX1_copyFrom 150 = .ok (.if_icmp .ge 33, 3) := by decide +kernel
theorem dX1_copyFrom_153 : decode cX1_copyFrom 153 = .ok (.iload_n 2, 1) := by decide +kernel
theorem dX1_copyFrom_154 : decode cX1_copyFrom 154 = .ok (.aload_n 1, 1) := by decide +kernel
theorem dX1_copyFrom_155 : decode cX1_copyFrom 155 = .ok (.getfield 17, 3) := by decide +kernel
theorem dX1_copyFrom_158 : decode cX1_copyFrom 158 = .ok (.arraylength, 1) := by decide +kernel
theorem dX1_copyFrom_159 : decode cX1_copyFrom 159 = .ok (.if_icmp .ge 24, 3) := by decide +kernel
theorem dX1_copyFrom_162 : decode cX1_copyFrom 162 = .ok (.aload_n 0, 1) := by decide +kernel
theorem dX1_copyFrom_163 : decode cX1_copyFrom 163 = .ok (.getfield 17, 3) := by decide +kernel
theorem dX1_copyFrom_166 : decode cX1_copyFrom 166 = .ok (.iload_n 2, 1) := by decide +kernel
theorem dX1_copyFrom_167 : decode cX1_copyFrom 167 = .ok (.aaload, 1) := by decide +kernel
theorem dX1_copyFrom_168 : decode cX1_copyFrom 168 = .ok (.aload_n 1, 1) := by decide +kernel
theorem dX1_copyFrom_169 : decode cX1_copyFrom 169 = .ok (.getfield 17, 3) := by decide +kernel
theorem dX1_copyFrom_172 : decode cX1_copyFrom 172 = .ok (.iload_n 2, 1) := by decide +kernel
theorem dX1_copyFrom_173 : decode cX1_copyFrom 173 = .ok (.aaload, 1) := by decide +kernel
theorem dX1_copyFrom_174 : decode cX1_copyFrom 174 = .ok (.invokevirtual 105, 3) := by decide +kernel
theorem dX1_copyFrom_177 : decode cX1_copyFrom 177 = .ok (.iinc 2 1, 3) := by decide +kernel
theorem dX1_copyFrom_180 : decode cX1_copyFrom 180 = .ok (.goto (-36), 3) := by decide +kernel
theorem dX1_copyFrom_183 : decode cX1_copyFrom 183 = .ok (.iconst 0, 1) := by decide +kernel
theorem dX1_copyFrom_184 : decode cX1_copyFrom 184 = .ok (.istore_n 2, 1) := by decide +kernel
theorem dX1_copyFrom_185 : decode cX1_copyFrom 185 = .ok (.iload_n 2, 1) := by decide +kernel
theorem dX1_copyFrom_186 : decode cX1_copyFrom 186 = .ok (.aload_n 0, 1) := by decide +kernel
theorem dX1_copyFrom_187 : decode cX1_copyFrom 187 = .ok (.getfield 26, 3) := by decide +kernel
theorem dX1_copyFrom_190 : decode cX1_copyFrom 190 = .ok (.arraylength, 1) := by decide +kernel
theorem dX1_copyFrom_191 : decode cX1_copyFrom 191 = .ok (.if_icmp .ge 33, 3) := by decide +kernel
theorem dX1_copyFrom_194 : decode cX1_copyFrom 194 = .ok (.iload_n 2, 1) := by decide +kernel
theorem dX1_copyFrom_195 : decode cX1_copyFrom 195 = .ok (.aload_n 1, 1) := by decide +kernel
theorem dX1_copyFrom_196 : decode cX1_copyFrom 196 = .ok (.getfield 26, 3) := by decide +kernel
theorem dX1_copyFrom_199 : decode cX1_copyFrom 199 = .ok (.arraylength, 1) := by decide +kernel
theorem dX1_copyFrom_200 : decode cX1_copyFrom 200 = .ok (.if_icmp .ge 24, 3) := by decide +kernel
theorem dX1_copyFrom_203 : decode cX1_copyFrom 203 = .ok (.aload_n 0, 1) := by decide +kernel
theorem dX1_copyFrom_204 : decode cX1_copyFrom 204 = .ok (.getfield 26, 3) := by decide +kernel
theorem dX1_copyFrom_207 : decode cX1_copyFrom 207 = .ok (.iload_n 2, 1) := by decide +kernel
theorem dX1_copyFrom_208 : decode cX1_copyFrom 208 = .ok (.aaload, 1) := by decide +kernel
theorem dX1_copyFrom_209 : decode cX1_copyFrom 209 = .ok (.aload_n 1, 1) := by decide +kernel
theorem dX1_copyFrom_210 : decode cX1_copyFrom 210 = .ok (.getfield 26, 3) := by decide +kernel
theorem dX1_copyFrom_213 : decode cX1_copyFrom 213 = .ok (.iload_n 2, 1) := by decide +kernel
theorem dX1_copyFrom_214 : decode cX1_copyFrom 214 = .ok (.aaload, 1) := by decide +kernel
theorem dX1_copyFrom_215 : decode cX1_copyFrom 215 = .ok (.invokevirtual 109, 3) := by decide +kernel
theorem dX1_copyFrom_218 : decode cX1_copyFrom 218 = .ok (.iinc 2 1, 3) := by decide +kernel
theorem dX1_copyFrom_221 : decode cX1_copyFrom 221 = .ok (.goto (-36), 3) := by decide +kernel
theorem dX1_copyFrom_224 : decode cX1_copyFrom 224 = .ok (.iconst 0, 1) := by decide +kernel
theorem dX1_copyFrom_225 : decode cX1_copyFrom 225 = .ok (.istore_n 2, 1) := by decide +kernel
theorem dX1_copyFrom_226 : decode cX1_copyFrom 226 = .ok (.iload_n 2, 1) := by decide +kernel
theorem dX1_copyFrom_227 : decode cX1_copyFrom 227 = .ok (.aload_n 0, 1) := by decide +kernel
theorem dX1_copyFrom_228 : decode cX1_copyFrom 228 = .ok (.getfield 33, 3) := by decide +kernel
theorem dX1_copyFrom_231 : decode cX1_copyFrom 231 = .ok (.arraylength, 1) := by decide +kernel
theorem dX1_copyFrom_232 : decode cX1_copyFrom 232 = .ok (.if_icmp .ge 33, 3) := by decide +kernel
theorem dX1_copyFrom_235 : decode cX1_copyFrom 235 = .ok (.iload_n 2, 1) := by decide +kernel
theorem dX1_copyFrom_236 : decode cX1_copyFrom 236 = .ok (.aload_n 1, 1) := by decide +kernel
theorem dX1_copyFrom_237 : decode cX1_copyFrom 237 = .ok (.getfield 33, 3) := by decide +kernel
theorem dX1_copyFrom_240 : decode cX1_copyFrom 240 = .ok (.arraylength, 1) := by decide +kernel
theorem dX1_copyFrom_241 : decode cX1_copyFrom 241 = .ok (.if_icmp .ge 24, 3) := by decide +kernel
theorem dX1_copyFrom_244 : decode cX1_copyFrom 244 = .ok (.aload_n 0, 1) := by decide +kernel
theorem dX1_copyFrom_245 : decode cX1_copyFrom 245 = .ok (.getfield 33, 3) := by decide +kernel
theorem dX1_copyFrom_248 : decode cX1_copyFrom 248 = .ok (.iload_n 2, 1) := by decide +kernel
theorem dX1_copyFrom_249 : decode cX1_copyFrom 249 = .ok (.aaload, 1) := by decide +kernel
theorem dX1_copyFrom_250 : decode cX1_copyFrom 250 = .ok (.aload_n 1, 1) := by decide +kernel
theorem dX1_copyFrom_251 : decode cX1_copyFrom 251 = .ok (.getfield 33, 3) := by decide +kernel
theorem dX1_copyFrom_254 : decode cX1_copyFrom 254 = .ok (.iload_n 2, 1) := by decide +kernel
theorem dX1_copyFrom_255 : decode cX1_copyFrom 255 = .ok (.aaload, 1) := by decide +kernel
theorem dX1_copyFrom_256 : decode cX1_copyFrom 256 = .ok (.invokevirtual 112, 3) := by decide +kernel
theorem dX1_copyFrom_259 : decode cX1_copyFrom 259 = .ok (.iinc 2 1, 3) := by decide +kernel
theorem dX1_copyFrom_262 : decode cX1_copyFrom 262 = .ok (.goto (-36), 3) := by decide +kernel
theorem dX1_copyFrom_265 : decode cX1_copyFrom 265 = .ok (.iconst 0, 1) := by decide +kernel
theorem dX1_copyFrom_266 : decode cX1_copyFrom 266 = .ok (.istore_n 2, 1) := by decide +kernel
theorem dX1_copyFrom_267 : decode cX1_copyFrom 267 = .ok (.iload_n 2, 1) := by decide +kernel
theorem dX1_copyFrom_268 : decode cX1_copyFrom 268 = .ok (.aload_n 0, 1) := by decide +kernel
theorem dX1_copyFrom_269 : decode cX1_copyFrom 269 = .ok (.getfield 40, 3) := by decide +kernel
theorem dX1_copyFrom_272 : decode cX1_copyFrom 272 = .ok (.arraylength, 1) := by decide +kernel
theorem dX1_copyFrom_273 : decode cX1_copyFrom 273 = .ok (.if_icmp .ge 33, 3) := by decide +kernel
theorem dX1_copyFrom_276 : decode cX1_copyFrom 276 = .ok (.iload_n 2, 1) := by decide +kernel
theorem dX1_copyFrom_277 : decode cX1_copyFrom 277 = .ok (.aload_n 1, 1) := by decide +kernel
theorem dX1_copyFrom_278 : decode cX1_copyFrom 278 = .ok (.getfield 40, 3) := by decide +kernel
theorem dX1_copyFrom_281 : decode cX1_copyFrom 281 = .ok (.arraylength, 1) := by decide +kernel
theorem dX1_copyFrom_282 : decode cX1_copyFrom 282 = .ok (.if_icmp .ge 24, 3) := by decide +kernel
theorem dX1_copyFrom_285 : decode cX1_copyFrom 285 = .ok (.aload_n 0, 1) := by decide +kernel
theorem dX1_copyFrom_286 : decode cX1_copyFrom 286 = .ok (.getfield 40, 3) := by decide +kernel
theorem dX1_copyFrom_289 : decode cX1_copyFrom 289 = .ok (.iload_n 2, 1) := by decide +kernel
theorem dX1_copyFrom_290 : decode cX1_copyFrom 290 = .ok (.aaload, 1) := by decide +kernel
theorem dX1_copyFrom_291 : decode cX1_copyFrom 291 = .ok (.aload_n 1, 1) := by decide +kernel
theorem dX1_copyFrom_292 : decode cX1_copyFrom 292 = .ok (.getfield 40, 3) := by decide +kernel
theorem dX1_copyFrom_295 : decode cX1_copyFrom 295 = .ok (.iload_n 2, 1) := by decide +kernel
theorem dX1_copyFrom_296 : decode cX1_copyFrom 296 = .ok (.aaload, 1) := by decide +kernel
theorem dX1_copyFrom_297 : decode cX1_copyFrom 297 = .ok (.invokevirtual 115, 3) := by decide +kernel
theorem dX1_copyFrom_300 : decode cX1_copyFrom 300 = .ok (.iinc 2 1, 3) := by decide +kernel
theorem dX1_copyFrom_303 : decode cX1_copyFrom 303 = .ok (.goto (-36), 3) := by decide +kernel
theorem dX1_copyFrom_306 : decode cX1_copyFrom 306 = .ok (.iconst 0, 1) := by decide +kernel
theorem dX1_copyFrom_307 : decode cX1_copyFrom 307 = .ok (.istore_n 2, 1) := by decide +kernel
theorem dX1_copyFrom_308 : decode cX1_copyFrom 308 = .ok (.iload_n 2, 1) := by decide +kernel
theorem dX1_copyFrom_309 : decode cX1_copyFrom 309 = .ok (.aload_n 0, 1) := by decide +kernel
theorem dX1_copyFrom_310 : decode cX1_copyFrom 310 = .ok (.getfield 47, 3) := by decide +kernel
theorem dX1_copyFrom_313 : decode cX1_copyFrom 313 = .ok (.arraylength, 1) := by decide +kernel
theorem dX1_copyFrom_314 : decode cX1_copyFrom 314 = .ok (.if_icmp .ge 33, 3) := by decide +kernel
theorem dX1_copyFrom_317 : decode cX1_copyFrom 317 = .ok (.iload_n 2, 1) := by decide +kernel
theorem dX1_copyFrom_318 : decode cX1_copyFrom 318 = .ok (.aload_n 1, 1) := by decide +kernel
theorem dX1_copyFrom_319 : decode cX1_copyFrom 319 = .ok (.getfield 47, 3) := by decide +kernel
theorem dX1_copyFrom_322 : decode cX1_copyFrom 322 = .ok (.arraylength, 1) := by decide +kernel
theorem dX1_copyFrom_323 : decode cX1_copyFrom 323 = .ok (.if_icmp .ge 24, 3) := by decide +kernel
theorem dX1_copyFrom_326 : decode cX1_copyFrom 326 = .ok (.aload_n 0, 1) := by decide +kernel
theorem dX1_copyFrom_327 : decode cX1_copyFrom 327 = .ok (.getfield 47, 3) := by decide +kernel
theorem dX1_copyFrom_330 : decode cX1_copyFrom 330 = .ok (.iload_n 2, 1) := by decide +kernel
theorem dX1_copyFrom_331 : decode cX1_copyFrom 331 = .ok (.aaload, 1) := by decide +kernel
theorem dX1_copyFrom_332 : decode cX1_copyFrom 332 = .ok (.aload_n 1, 1) := by decide +kernel
theorem dX1_copyFrom_333 : decode cX1_copyFrom 333 = .ok (.getfield 47, 3) := by decide +kernel
theorem dX1_copyFrom_336 : decode cX1_copyFrom 336 = .ok (.iload_n 2, 1) := by decide +kernel
theorem dX1_copyFrom_337 : decode cX1_copyFrom 337 = .ok (.aaload, 1) := by decide +kernel
theorem dX1_copyFrom_338 : decode cX1_copyFrom 338 = .ok (.invokevirtual 118, 3) := by decide +kernel
theorem dX1_copyFrom_341 : decode cX1_copyFrom 341 = .ok (.iinc 2 1, 3) := by decide +kernel
theorem dX1_copyFrom_344 : decode cX1_copyFrom 344 = .ok (.goto (-36), 3) := by decide +kernel
theorem dX1_copyFrom_347 : decode cX1_copyFrom 347 = .ok (.return_, 1) := by decide +kernel
theorem dX1_tellSize_0 : decode cX1_tellSize 0 = .ok (.aload_n 0, 1) := by decide +kernel
theorem dX1_tellSize_1 : decode cX1_tellSize 1 = .ok (.invokevirtual 52, 3) := by decide +kernel
theorem dX1_tellSize_4 : decode cX1_tellSize 4 = .ok (.aload_n 0, 1) := by decide +kernel
theorem dX1_tellSize_5 : decode cX1_tellSize 5 = .ok (.iload_n 1, 1) := by decide +kernel
theorem dX1_tellSize_6 : decode cX1_tellSize 6 = .ok (.putfield 55, 3) := by decide +kernel
theorem dX1_tellSize_9 : decode cX1_tellSize 9 = .ok (.aload_n 0, 1) := by decide +kernel
theorem dX1_tellSize_10 : decode cX1_tellSize 10 = .ok (.iload_n 2, 1) := by decide +kernel
theorem dX1_tellSize_11 : decode cX1_tellSize 11 = .ok (.putfield 59, 3) := by decide +kernel
theorem dX1_tellSize_14 : decode cX1_tellSize 14 = .ok (.return_, 1) := by decide +kernel
theorem dX1_tellLine_0 : decode cX1_tellLine 0 = .ok (.aload_n 0, 1) := by decide +kernel
theorem dX1_tellLine_1 : decode cX1_tellLine 1 = .ok (.getfield 62, 3) := by decide +kernel
theorem dX1_tellLine_4 : decode cX1_tellLine 4 = .ok (.ifCond .lt 35, 3) := by decide +kernel
theorem dX1_tellLine_7 : decode cX1_tellLine 7 = .ok (.aload_n 0, 1) := by decide +kernel
theorem dX1_tellLine_8 : decode cX1_tellLine 8 = .ok (.getfield 62, 3) := by decide +kernel
theorem dX1_tellLine_11 : decode cX1_tellLine 11 = .ok (.aload_n 0, 1) := by decide +kernel
theorem dX1_tellLine_12 : decode cX1_tellLine 12 = .ok (.getfield 9, 3) := by decide +kernel
theorem dX1_tellLine_15 : decode cX1_tellLine 15 = .ok (.arraylength, 1) := by decide +kernel
theorem dX1_tellLine_16 : decode cX1_tellLine 16 = .ok (.if_icmp .ge 23, 3) := by decide +kernel
theorem dX1_tellLine_19 : decode cX1_tellLine 19 = .ok (.aload_n 0, 1) := by decide +kernel
theorem dX1_tellLine_20 : decode cX1_tellLine 20 = .ok (.getfield 9, 3) := by decide +kernel
theorem dX1_tellLine_23 : decode cX1_tellLine 23 = .ok (.aload_n 0, 1) := by decide +kernel
theorem dX1_tellLine_24 : decode cX1_tellLine 24 = .ok (.getfield 62, 3) := by decide +kernel
theorem dX1_tellLine_27 : decode cX1_tellLine 27 = .ok (.iload_n 1, 1) := by decide +kernel
theorem dX1_tellLine_28 : decode cX1_tellLine 28 = .ok (.iastore, 1) := by decide +kernel
theorem dX1_tellLine_29 : decode cX1_tellLine 29 = .ok (.aload_n 0, 1) := by decide +kernel
theorem dX1_tellLine_30 : decode cX1_tellLine 30 = .ok (.dup, 1) := by decide +kernel
theorem dX1_tellLine_31 : decode cX1_tellLine 31 = .ok (.getfield 62, 3) := by decide +kernel
theorem dX1_tellLine_34 : decode cX1_tellLine 34 = .ok (.iconst 1, 1) := by decide +kernel
theorem dX1_tellLine_35 : decode cX1_tellLine 35 = .ok (.iadd, 1) := by decide +kernel
theorem dX1_tellLine_36 : decode cX1_tellLine 36 = .ok (.putfield 62, 3) := by decide +kernel
theorem dX1_tellLine_39 : decode cX1_tellLine 39 = .ok (.return_, 1) := by decide +kernel
theorem dX1_tellGroup_0 : decode cX1_tellGroup 0 = .ok (.aload_n 0, 1) := by decide +kernel
theorem dX1_tellGroup_1 : decode cX1_tellGroup 1 = .ok (.getfield 65, 3) := by decide +kernel
theorem dX1_tellGroup_4 : decode cX1_tellGroup 4 = .ok (.ifCond .lt 41, 3) := by decide +kernel
theorem dX1_tellGroup_7 : decode cX1_tellGroup 7 = .ok (.aload_n 0, 1) := by decide +kernel
theorem dX1_tellGroup_8 : decode cX1_tellGroup 8 = .ok (.getfield 65, 3) := by decide +kernel
theorem dX1_tellGroup_11 : decode cX1_tellGroup 11 = .ok (.aload_n 0, 1) := by decide +kernel
theorem dX1_tellGroup_12 : decode cX1_tellGroup 12 = .ok (.getfield 17, 3) := by decide +kernel
theorem dX1_tellGroup_15 : decode cX1_tellGroup 15 = .ok (.arraylength, 1) := by decide +kernel
theorem dX1_tellGroup_16 : decode cX1_tellGroup 16 = .ok (.if_icmp .ge 29, 3) := by decide +kernel
theorem dX1_tellGroup_19 : decode cX1_tellGroup 19 = .ok (.aload_n 0, 1) := by decide +kernel
theorem dX1_tellGroup_20 : decode cX1_tellGroup 20 = .ok (.getfield 17, 3) := by decide +kernel
theorem dX1_tellGroup_23 : decode cX1_tellGroup 23 = .ok (.aload_n 0, 1) := by decide +kernel
theorem dX1_tellGroup_24 : decode cX1_tellGroup 24 = .ok (.getfield 65, 3) := by decide +kernel
theorem dX1_tellGroup_27 : decode cX1_tellGroup 27 = .ok (.aaload, 1) := by decide +kernel
theorem dX1_tellGroup_28 : decode cX1_tellGroup 28 = .ok (.lload_n 1, 1) := by decide +kernel
theorem dX1_tellGroup_29 : decode cX1_tellGroup 29 = .ok (.iload_n 3, 1) := by decide +kernel
theorem dX1_tellGroup_30 : decode cX1_tellGroup 30 = .ok (.iload 4, 2) := by decide +kernel
theorem dX1_tellGroup_32 : decode cX1_tellGroup 32 = .ok (.invokevirtual 121, 3) := by decide +kernel
theorem dX1_tellGroup_35 : decode cX1_tellGroup 35 = .ok (.aload_n 0, 1) := by decide +kernel
theorem dX1_tellGroup_36 : decode cX1_tellGroup 36 = .ok (.dup, 1) := by decide +kernel
theorem dX1_tellGroup_37 : decode cX1_tellGroup 37 = .ok (.getfield 65, 3) := by decide +kernel
theorem dX1_tellGroup_40 : decode cX1_tellGroup 40 = .ok (.iconst 1, 1) := by decide +kernel
theorem dX1_tellGroup_41 : decode cX1_tellGroup 41 = .ok (.iadd, 1) := by decide +kernel
theorem dX1_tellGroup_42 : decode cX1_tellGroup 42 = .ok (.putfield 65, 3) := by decide +kernel
theorem dX1_tellGroup_45 : decode cX1_tellGroup 45 = .ok (.return_, 1) := by decide +kernel
theorem dX1_tellRoute_0 : decode cX1_tellRoute 0 = .ok (.aload_n 0, 1) := by decide +kernel
theorem dX1_tellRoute_1 : decode cX1_tellRoute 1 = .ok (.getfield 68, 3) := by decide +kernel
theorem dX1_tellRoute_4 : decode cX1_tellRoute 4 = .ok (.ifCond .lt 15, 3) := by decide +kernel
theorem dX1_tellRoute_7 : decode cX1_tellRoute 7 = .ok (.aload_n 0, 1) := by decide +kernel
theorem dX1_tellRoute_8 : decode cX1_tellRoute 8 = .ok (.getfield 68, 3) := by decide +kernel
theorem dX1_tellRoute_11 : decode cX1_tellRoute 11 = .ok (.aload_n 0, 1) := by decide +kernel
theorem dX1_tellRoute_12 : decode cX1_tellRoute 12 = .ok (.getfield 26, 3) := by decide +kernel
theorem dX1_tellRoute_15 : decode cX1_tellRoute 15 = .ok (.arraylength, 1) := by decide +kernel
theorem dX1_tellRoute_16 : decode cX1_tellRoute 16 = .ok (.if_icmp .lt 5, 3) := by decide +kernel
theorem dX1_tellRoute_19 : decode cX1_tellRoute 19 = .ok (.aconst_null, 1) := by decide +kernel
theorem dX1_tellRoute_20 : decode cX1_tellRoute 20 = .ok (.areturn, 1) := by decide +kernel
theorem dX1_tellRoute_21 : decode cX1_tellRoute 21 = .ok (.aload_n 0, 1) := by decide +kernel
theorem dX1_tellRoute_22 : decode cX1_tellRoute 22 = .ok (.getfield 26, 3) := by decide +kernel
theorem dX1_tellRoute_25 : decode cX1_tellRoute 25 = .ok (.aload_n 0, 1) := by decide +kernel
theorem dX1_tellRoute_26 : decode cX1_tellRoute 26 = .ok (.getfield 68, 3) := by decide +kernel
theorem dX1_tellRoute_29 : decode cX1_tellRoute 29 = .ok (.aaload, 1) := by decide +kernel
theorem dX1_tellRoute_30 : decode cX1_tellRoute 30 = .ok (.astore_n 3, 1) := by decide +kernel
theorem dX1_tellRoute_31 : decode cX1_tellRoute 31 = .ok (.aload_n 3, 1) := by decide +kernel
theorem dX1_tellRoute_32 : decode cX1_tellRoute 32 = .ok (.iload_n 1, 1) := by decide +kernel
theorem dX1_tellRoute_33 : decode cX1_tellRoute 33 = .ok (.iload_n 2, 1) := by decide +kernel
theorem dX1_tellRoute_34 : decode cX1_tellRoute 34 = .ok (.invokevirtual 125, 3) := by decide +kernel
theorem dX1_tellRoute_37 : decode cX1_tellRoute 37 = .ok (.aload_n 0, 1) := by decide +kernel
theorem dX1_tellRoute_38 : decode cX1_tellRoute 38 = .ok (.dup, 1) := by decide +kernel
theorem dX1_tellRoute_39 : decode cX1_tellRoute 39 = .ok (.getfield 68, 3) := by decide +kernel
theorem dX1_tellRoute_42 : decode cX1_tellRoute 42 = .ok (.iconst 1, 1) := by decide +kernel
theorem dX1_tellRoute_43 : decode cX1_tellRoute 43 = .ok (.iadd, 1) := by decide +kernel
theorem dX1_tellRoute_44 : decode cX1_tellRoute 44 = .ok (.putfield 68, 3) := by decide +kernel
theorem dX1_tellRoute_47 : decode cX1_tellRoute 47 = .ok (.aload_n 3, 1) := by decide +kernel
theorem dX1_tellRoute_48 : decode cX1_tellRoute 48 = .ok (.areturn, 1) := by decide +kernel
theorem dX1_tellCall_0 : decode cX1_tellCall 0 = .ok (.aload_n 0, 1) := by decide +kernel
theorem dX1_tellCall_1 : decode cX1_tellCall 1 = .ok (.getfield 71, 3) := by decide +kernel
theorem dX1_tellCall_4 : decode cX1_tellCall 4 = .ok (.ifCond .lt 15, 3) := by decide +kernel
theorem dX1_tellCall_7 : decode cX1_tellCall 7 = .ok (.aload_n 0, 1) := by decide +kernel
theorem dX1_tellCall_8 : decode cX1_tellCall 8 = .ok (.getfield 71, 3) := by decide +kernel
theorem dX1_tellCall_11 : decode cX1_tellCall 11 = .ok (.aload_n 0, 1) := by decide +kernel
theorem dX1_tellCall_12 : decode cX1_tellCall 12 = .ok (.getfield 47, 3) := by decide +kernel
theorem dX1_tellCall_15 : decode cX1_tellCall 15 = .ok (.arraylength, 1) := by decide +kernel
theorem dX1_tellCall_16 : decode cX1_tellCall 16 = .ok (.if_icmp .lt 5, 3) := by decide +kernel
theorem dX1_tellCall_19 : decode cX1_tellCall 19 = .ok (.iconst (-1), 1) := by decide +kernel
theorem dX1_tellCall_20 : decode cX1_tellCall 20 = .ok (.ireturn, 1) := by decide +kernel
theorem dX1_tellCall_21 : decode cX1_tellCall 21 = .ok (.aload_n 0, 1) := by decide +kernel
theorem dX1_tellCall_22 : decode cX1_tellCall 22 = .ok (.getfield 47, 3) := by decide +kernel
theorem dX1_tellCall_25 : decode cX1_tellCall 25 = .ok (.aload_n 0, 1) := by decide +kernel
theorem dX1_tellCall_26 : decode cX1_tellCall 26 = .ok (.getfield 71, 3) := by decide +kernel
theorem dX1_tellCall_29 : decode cX1_tellCall 29 = .ok (.aaload, 1) := by decide +kernel
theorem dX1_tellCall_30 : decode cX1_tellCall 30 = .ok (.astore 5, 2) := by decide +kernel
theorem dX1_tellCall_32 : decode cX1_tellCall 32 = .ok (.aload 5, 2) := by decide +kernel
theorem dX1_tellCall_34 : decode cX1_tellCall 34 = .ok (.iload_n 1, 1) := by decide +kernel
theorem dX1_tellCall_35 : decode cX1_tellCall 35 = .ok (.iload_n 2, 1) := by decide +kernel
theorem dX1_tellCall_36 : decode cX1_tellCall 36 = .ok (.iload_n 3, 1) := by decide +kernel
theorem dX1_tellCall_37 : decode cX1_tellCall 37 = .ok (.iload 4, 2) := by decide +kernel
theorem dX1_tellCall_39 : decode cX1_tellCall 39 = .ok (.invokevirtual 127, 3) := by decide +kernel
theorem dX1_tellCall_42 : decode cX1_tellCall 42 = .ok (.aload_n 0, 1) := by decide +kernel
theorem dX1_tellCall_43 : decode cX1_tellCall 43 = .ok (.dup, 1) := by decide +kernel
theorem dX1_tellCall_44 : decode cX1_tellCall 44 = .ok (.getfield 71, 3) := by decide +kernel
theorem dX1_tellCall_47 : decode cX1_tellCall 47 = .ok (.iconst 1, 1) := by decide +kernel
theorem dX1_tellCall_48 : decode cX1_tellCall 48 = .ok (.iadd, 1) := by decide +kernel
theorem dX1_tellCall_49 : decode cX1_tellCall 49 = .ok (.putfield 71, 3) := by decide +kernel
theorem dX1_tellCall_52 : decode cX1_tellCall 52 = .ok (.aload 5, 2) := by decide +kernel
theorem dX1_tellCall_54 : decode cX1_tellCall 54 = .ok (.getfield 130, 3) := by decide +kernel
theorem dX1_tellCall_57 : decode cX1_tellCall 57 = .ok (.ireturn, 1) := by decide +kernel
theorem dX1_setRule_0 : decode cX1_setRule 0 = .ok (.iload_n 1, 1) := by decide +kernel
theorem dX1_setRule_1 : decode cX1_setRule 1 = .ok (.lookupswitch 53 #[(19, 27), (20, 40)], 27) := by decide +kernel
theorem dX1_setRule_28 : decode cX1_setRule 28 = .ok (.aload_n 0, 1) := by decide +kernel
theorem dX1_setRule_29 : decode cX1_setRule 29 = .ok (.getfield 77, 3) := by decide +kernel
theorem dX1_setRule_32 : decode cX1_setRule 32 = .ok (.istore_n 3, 1) := by decide +kernel
theorem dX1_setRule_33 : decode cX1_setRule 33 = .ok (.aload_n 0, 1) := by decide +kernel
theorem dX1_setRule_34 : decode cX1_setRule 34 = .ok (.iload_n 2, 1) := by decide +kernel
theorem dX1_setRule_35 : decode cX1_setRule 35 = .ok (.putfield 77, 3) := by decide +kernel
theorem dX1_setRule_38 : decode cX1_setRule 38 = .ok (.goto 26, 3) := by decide +kernel
theorem dX1_setRule_41 : decode cX1_setRule 41 = .ok (.aload_n 0, 1) := by decide +kernel
theorem dX1_setRule_42 : decode cX1_setRule 42 = .ok (.getfield 80, 3) := by decide +kernel
theorem dX1_setRule_45 : decode cX1_setRule 45 = .ok (.istore_n 3, 1) := by decide +kernel
theorem dX1_setRule_46 : decode cX1_setRule 46 = .ok (.aload_n 0, 1) := by decide +kernel
theorem dX1_setRule_47 : decode cX1_setRule 47 = .ok (.iload_n 2, 1) := by decide +kernel
theorem dX1_setRule_48 : decode cX1_setRule 48 = .ok (.putfield 80, 3) := by decide +kernel
theorem dX1_setRule_51 : decode cX1_setRule 51 = .ok (.goto 13, 3) := by decide +kernel
theorem dX1_setRule_54 : decode cX1_setRule 54 = .ok (.aload_n 0, 1) := by decide +kernel
theorem dX1_setRule_55 : decode cX1_setRule 55 = .ok (.getfield 83, 3) := by decide +kernel
theorem dX1_setRule_58 : decode cX1_setRule 58 = .ok (.istore_n 3, 1) := by decide +kernel
theorem dX1_setRule_59 : decode cX1_setRule 59 = .ok (.aload_n 0, 1) := by decide +kernel
theorem dX1_setRule_60 : decode cX1_setRule 60 = .ok (.iload_n 2, 1) := by decide +kernel
theorem dX1_setRule_61 : decode cX1_setRule 61 = .ok (.putfield 83, 3) := by decide +kernel
theorem dX1_setRule_64 : decode cX1_setRule 64 = .ok (.iload_n 3, 1) := by decide +kernel
theorem dX1_setRule_65 : decode cX1_setRule 65 = .ok (.ireturn, 1) := by decide +kernel
theorem dX1_hasLine_0 : decode cX1_hasLine 0 = .ok (.iload_n 1, 1) := by decide +kernel
theorem dX1_hasLine_1 : decode cX1_hasLine 1 = .ok (.ifCond .lt 15, 3) := by decide +kernel
theorem dX1_hasLine_4 : decode cX1_hasLine 4 = .ok (.iload_n 1, 1) := by decide +kernel
theorem dX1_hasLine_5 : decode cX1_hasLine 5 = .ok (.aload_n 0, 1) := by decide +kernel
theorem dX1_hasLine_6 : decode cX1_hasLine 6 = .ok (.getfield 62, 3) := by decide +kernel
theorem dX1_hasLine_9 : decode cX1_hasLine 9 = .ok (.if_icmp .ge 7, 3) := by decide +kernel
theorem dX1_hasLine_12 : decode cX1_hasLine 12 = .ok (.iconst 1, 1) := by decide +kernel
theorem dX1_hasLine_13 : decode cX1_hasLine 13 = .ok (.goto 4, 3) := by decide +kernel
theorem dX1_hasLine_16 : decode cX1_hasLine 16 = .ok (.iconst 0, 1) := by decide +kernel
theorem dX1_hasLine_17 : decode cX1_hasLine 17 = .ok (.ireturn, 1) := by decide +kernel
theorem dX1_groupAt_0 : decode cX1_groupAt 0 = .ok (.iload_n 1, 1) := by decide +kernel
theorem dX1_groupAt_1 : decode cX1_groupAt 1 = .ok (.ifCond .lt 29, 3) := by decide +kernel
theorem dX1_groupAt_4 : decode cX1_groupAt 4 = .ok (.iload_n 1, 1) := by decide +kernel
theorem dX1_groupAt_5 : decode cX1_groupAt 5 = .ok (.aload_n 0, 1) := by decide +kernel
theorem dX1_groupAt_6 : decode cX1_groupAt 6 = .ok (.getfield 65, 3) := by decide +kernel
theorem dX1_groupAt_9 : decode cX1_groupAt 9 = .ok (.if_icmp .ge 21, 3) := by decide +kernel
theorem dX1_groupAt_12 : decode cX1_groupAt 12 = .ok (.iload_n 1, 1) := by decide +kernel
theorem dX1_groupAt_13 : decode cX1_groupAt 13 = .ok (.aload_n 0, 1) := by decide +kernel
theorem dX1_groupAt_14 : decode cX1_groupAt 14 = .ok (.getfield 17, 3) := by decide +kernel
theorem dX1_groupAt_17 : decode cX1_groupAt 17 = .ok (.arraylength, 1) := by decide +kernel
theorem dX1_groupAt_18 : decode cX1_groupAt 18 = .ok (.if_icmp .ge 12, 3) := by decide +kernel
theorem dX1_groupAt_21 : decode cX1_groupAt 21 = .ok (.aload_n 0, 1) := by decide +kernel
theorem dX1_groupAt_22 : decode cX1_groupAt 22 = .ok (.getfield 17, 3) := by decide +kernel
theorem dX1_groupAt_25 : decode cX1_groupAt 25 = .ok (.iload_n 1, 1) := by decide +kernel
theorem dX1_groupAt_26 : decode cX1_groupAt 26 = .ok (.aaload, 1) := by decide +kernel
theorem dX1_groupAt_27 : decode cX1_groupAt 27 = .ok (.goto 4, 3) := by decide +kernel
theorem dX1_groupAt_30 : decode cX1_groupAt 30 = .ok (.aconst_null, 1) := by decide +kernel
theorem dX1_groupAt_31 : decode cX1_groupAt 31 = .ok (.areturn, 1) := by decide +kernel
theorem dX1_registerAt_0 : decode cX1_registerAt 0 = .ok (.iload_n 1, 1) := by decide +kernel
theorem dX1_registerAt_1 : decode cX1_registerAt 1 = .ok (.ifCond .lt 29, 3) := by decide +kernel
theorem dX1_registerAt_4 : decode cX1_registerAt 4 = .ok (.iload_n 1, 1) := by decide +kernel
theorem dX1_registerAt_5 : decode cX1_registerAt 5 = .ok (.aload_n 0, 1) := by decide +kernel
theorem dX1_registerAt_6 : decode cX1_registerAt 6 = .ok (.getfield 55, 3) := by decide +kernel
theorem dX1_registerAt_9 : decode cX1_registerAt 9 = .ok (.if_icmp .ge 21, 3) := by decide +kernel
theorem dX1_registerAt_12 : decode cX1_registerAt 12 = .ok (.iload_n 1, 1) := by decide +kernel
theorem dX1_registerAt_13 : decode cX1_registerAt 13 = .ok (.aload_n 0, 1) := by decide +kernel
theorem dX1_registerAt_14 : decode cX1_registerAt 14 = .ok (.getfield 33, 3) := by decide +kernel
theorem dX1_registerAt_17 : decode cX1_registerAt 17 = .ok (.arraylength, 1) := by decide +kernel
theorem dX1_registerAt_18 : decode cX1_registerAt 18 = .ok (.if_icmp .ge 12, 3) := by decide +kernel
theorem dX1_registerAt_21 : decode cX1_registerAt 21 = .ok (.aload_n 0, 1) := by decide +kernel
theorem dX1_registerAt_22 : decode cX1_registerAt 22 = .ok (.getfield 33, 3) := by decide +kernel
theorem dX1_registerAt_25 : decode cX1_registerAt 25 = .ok (.iload_n 1, 1) := by decide +kernel
theorem dX1_registerAt_26 : decode cX1_registerAt 26 = .ok (.aaload, 1) := by decide +kernel
theorem dX1_registerAt_27 : decode cX1_registerAt 27 = .ok (.goto 4, 3) := by decide +kernel
theorem dX1_registerAt_30 : decode cX1_registerAt 30 = .ok (.aconst_null, 1) := by decide +kernel
theorem dX1_registerAt_31 : decode cX1_registerAt 31 = .ok (.areturn, 1) := by decide +kernel
theorem dX1_markerAt_0 : decode cX1_markerAt 0 = .ok (.iload_n 1, 1) := by decide +kernel
theorem dX1_markerAt_1 : decode cX1_markerAt 1 = .ok (.ifCond .lt 29, 3) := by decide +kernel
theorem dX1_markerAt_4 : decode cX1_markerAt 4 = .ok (.iload_n 1, 1) := by decide +kernel
theorem dX1_markerAt_5 : decode cX1_markerAt 5 = .ok (.aload_n 0, 1) := by decide +kernel
theorem dX1_markerAt_6 : decode cX1_markerAt 6 = .ok (.getfield 59, 3) := by decide +kernel
theorem dX1_markerAt_9 : decode cX1_markerAt 9 = .ok (.if_icmp .ge 21, 3) := by decide +kernel
theorem dX1_markerAt_12 : decode cX1_markerAt 12 = .ok (.iload_n 1, 1) := by decide +kernel
theorem dX1_markerAt_13 : decode cX1_markerAt 13 = .ok (.aload_n 0, 1) := by decide +kernel
theorem dX1_markerAt_14 : decode cX1_markerAt 14 = .ok (.getfield 40, 3) := by decide +kernel
theorem dX1_markerAt_17 : decode cX1_markerAt 17 = .ok (.arraylength, 1) := by decide +kernel
theorem dX1_markerAt_18 : decode cX1_markerAt 18 = .ok (.if_icmp .ge 12, 3) := by decide +kernel
theorem dX1_markerAt_21 : decode cX1_markerAt 21 = .ok (.aload_n 0, 1) := by decide +kernel
theorem dX1_markerAt_22 : decode cX1_markerAt 22 = .ok (.getfield 40, 3) := by decide +kernel
theorem dX1_markerAt_25 : decode cX1_markerAt 25 = .ok (.iload_n 1, 1) := by decide +kernel
theorem dX1_markerAt_26 : decode cX1_markerAt 26 = .ok (.aaload, 1) := by decide +kernel
theorem dX1_markerAt_27 : decode cX1_markerAt 27 = .ok (.goto 4, 3) := by decide +kernel
theorem dX1_markerAt_30 : decode cX1_markerAt 30 = .ok (.aconst_null, 1) := by decide +kernel
theorem dX1_markerAt_31 : decode cX1_markerAt 31 = .ok (.areturn, 1) := by decide +kernel
theorem dX1_callAt_0 : decode cX1_callAt 0 = .ok (.iload_n 1, 1) := by decide +kernel
theorem dX1_callAt_1 : decode cX1_callAt 1 = .ok (.ifCond .lt 29, 3) := by decide +kernel
theorem dX1_callAt_4 : decode cX1_callAt 4 = .ok (.iload_n 1, 1) := by decide +kernel
theorem dX1_callAt_5 : decode cX1_callAt 5 = .ok (.aload_n 0, 1) := by decide +kernel
theorem dX1_callAt_6 : decode cX1_callAt 6 = .ok (.getfield 71, 3) := by decide +kernel
theorem dX1_callAt_9 : decode cX1_callAt 9 = .ok (.if_icmp .ge 21, 3) := by decide +kernel
theorem dX1_callAt_12 : decode cX1_callAt 12 = .ok (.iload_n 1, 1) := by decide +kernel
theorem dX1_callAt_13 : decode cX1_callAt 13 = .ok (.aload_n 0, 1) := by decide +kernel
theorem dX1_callAt_14 : decode cX1_callAt 14 = .ok (.getfield 47, 3) := by decide +kernel
theorem dX1_callAt_17 : decode cX1_callAt 17 = .ok (.arraylength, 1) := by decide +kernel
theorem dX1_callAt_18 : decode cX1_callAt 18 = .ok (.if_icmp .ge 12, 3) := by decide +kernel
theorem dX1_callAt_21 : decode cX1_callAt 21 = .ok (.aload_n 0, 1) := by decide +kernel
theorem dX1_callAt_22 : decode cX1_callAt 22 = .ok (.getfield 47, 3) := by decide +kernel
theorem dX1_callAt_25 : decode cX1_callAt 25 = .ok (.iload_n 1, 1) := by decide +kernel
theorem dX1_callAt_26 : decode cX1_callAt 26 = .ok (.aaload, 1) := by decide +kernel
theorem dX1_callAt_27 : decode cX1_callAt 27 = .ok (.goto 4, 3) := by decide +kernel
theorem dX1_callAt_30 : decode cX1_callAt 30 = .ok (.aconst_null, 1) := by decide +kernel
theorem dX1_callAt_31 : decode cX1_callAt 31 = .ok (.areturn, 1) := by decide +kernel
theorem dX1_lineWith_0 : decode cX1_lineWith 0 = .ok (.iconst 0, 1) := by decide +kernel
theorem dX1_lineWith_1 : decode cX1_lineWith 1 = .ok (.istore_n 2, 1) := by decide +kernel
theorem dX1_lineWith_2 : decode cX1_lineWith 2 = .ok (.iload_n 2, 1) := by decide +kernel
theorem dX1_lineWith_3 : decode cX1_lineWith 3 = .ok (.aload_n 0, 1) := by decide +kernel
theorem dX1_lineWith_4 : decode cX1_lineWith 4 = .ok (.getfield 62, 3) := by decide +kernel
theorem dX1_lineWith_7 : decode cX1_lineWith 7 = .ok (.if_icmp .ge 30, 3) := by decide +kernel
theorem dX1_lineWith_10 : decode cX1_lineWith 10 = .ok (.iload_n 2, 1) := by decide +kernel
theorem dX1_lineWith_11 : decode cX1_lineWith 11 = .ok (.aload_n 0, 1) := by decide +kernel
theorem dX1_lineWith_12 : decode cX1_lineWith 12 = .ok (.getfield 9, 3) := by decide +kernel
theorem dX1_lineWith_15 : decode cX1_lineWith 15 = .ok (.arraylength, 1) := by decide +kernel
theorem dX1_lineWith_16 : decode cX1_lineWith 16 = .ok (.if_icmp .ge 21, 3) := by decide +kernel
theorem dX1_lineWith_19 : decode cX1_lineWith 19 = .ok (.aload_n 0, 1) := by decide +kernel
theorem dX1_lineWith_20 : decode cX1_lineWith 20 = .ok (.getfield 9, 3) := by decide +kernel
theorem dX1_lineWith_23 : decode cX1_lineWith 23 = .ok (.iload_n 2, 1) := by decide +kernel
theorem dX1_lineWith_24 : decode cX1_lineWith 24 = .ok (.iaload, 1) := by decide +kernel
theorem dX1_lineWith_25 : decode cX1_lineWith 25 = .ok (.iload_n 1, 1) := by decide +kernel
theorem dX1_lineWith_26 : decode cX1_lineWith 26 = .ok (.if_icmp .ne 5, 3) := by decide +kernel
theorem dX1_lineWith_29 : decode cX1_lineWith 29 = .ok (.iload_n 2, 1) := by decide +kernel
theorem dX1_lineWith_30 : decode cX1_lineWith 30 = .ok (.ireturn, 1) := by decide +kernel
theorem dX1_lineWith_31 : decode cX1_lineWith 31 = .ok (.iinc 2 1, 3) := by decide +kernel
theorem dX1_lineWith_34 : decode cX1_lineWith 34 = .ok (.goto (-32), 3) := by decide +kernel
theorem dX1_lineWith_37 : decode cX1_lineWith 37 = .ok (.iconst (-1), 1) := by decide +kernel
theorem dX1_lineWith_38 : decode cX1_lineWith 38 = .ok (.ireturn, 1) := by decide +kernel
theorem dX1_groupNamed_0 : decode cX1_groupNamed 0 = .ok (.aload_n 0, 1) := by decide +kernel
theorem dX1_groupNamed_1 : decode cX1_groupNamed 1 = .ok (.getfield 17, 3) := by decide +kernel
theorem dX1_groupNamed_4 : decode cX1_groupNamed 4 = .ok (.astore_n 3, 1) := by decide +kernel
theorem dX1_groupNamed_5 : decode cX1_groupNamed 5 = .ok (.aload_n 3, 1) := by decide +kernel
theorem dX1_groupNamed_6 : decode cX1_groupNamed 6 = .ok (.arraylength, 1) := by decide +kernel
theorem dX1_groupNamed_7 : decode cX1_groupNamed 7 = .ok (.istore 4, 2) := by decide +kernel
theorem dX1_groupNamed_9 : decode cX1_groupNamed 9 = .ok (.iconst 0, 1) := by decide +kernel
theorem dX1_groupNamed_10 : decode cX1_groupNamed 10 = .ok (.istore 5, 2) := by decide +kernel
theorem dX1_groupNamed_12 : decode cX1_groupNamed 12 = .ok (.iload 5, 2) := by decide +kernel
theorem dX1_groupNamed_14 : decode cX1_groupNamed 14 = .ok (.iload 4, 2) := by decide +kernel
theorem dX1_groupNamed_16 : decode cX1_groupNamed 16 = .ok (.if_icmp .ge 43, 3) := by decide +kernel
theorem dX1_groupNamed_19 : decode cX1_groupNamed 19 = .ok (.aload_n 3, 1) := by decide +kernel
theorem dX1_groupNamed_20 : decode cX1_groupNamed 20 = .ok (.iload 5, 2) := by decide +kernel
theorem dX1_groupNamed_22 : decode cX1_groupNamed 22 = .ok (.aaload, 1) := by decide +kernel
theorem dX1_groupNamed_23 : decode cX1_groupNamed 23 = .ok (.astore 6, 2) := by decide +kernel
theorem dX1_groupNamed_25 : decode cX1_groupNamed 25 = .ok (.aload 6, 2) := by decide +kernel
theorem dX1_groupNamed_27 : decode cX1_groupNamed 27 = .ok (.getfield 133, 3) := by decide +kernel
theorem dX1_groupNamed_30 : decode cX1_groupNamed 30 = .ok (.aload_n 0, 1) := by decide +kernel
theorem dX1_groupNamed_31 : decode cX1_groupNamed 31 = .ok (.getfield 65, 3) := by decide +kernel
theorem dX1_groupNamed_34 : decode cX1_groupNamed 34 = .ok (.if_icmp .ge 19, 3) := by decide +kernel
theorem dX1_groupNamed_37 : decode cX1_groupNamed 37 = .ok (.aload 6, 2) := by decide +kernel
theorem dX1_groupNamed_39 : decode cX1_groupNamed 39 = .ok (.getfield 134, 3) := by decide +kernel
theorem dX1_groupNamed_42 : decode cX1_groupNamed 42 = .ok (.lload_n 1, 1) := by decide +kernel
theorem dX1_groupNamed_43 : decode cX1_groupNamed 43 = .ok (.lcmp, 1) := by decide +kernel
theorem dX1_groupNamed_44 : decode cX1_groupNamed 44 = .ok (.ifCond .ne 9, 3) := by decide +kernel
theorem dX1_groupNamed_47 : decode cX1_groupNamed 47 = .ok (.aload 6, 2) := by decide +kernel
theorem dX1_groupNamed_49 : decode cX1_groupNamed 49 = .ok (.getfield 133, 3) := by decide +kernel
theorem dX1_groupNamed_52 : decode cX1_groupNamed 52 = .ok (.ireturn, 1) := by decide +kernel
theorem dX1_groupNamed_53 : decode cX1_groupNamed 53 = .ok (.iinc 5 1, 3) := by decide +kernel
theorem dX1_groupNamed_56 : decode cX1_groupNamed 56 = .ok (.goto (-44), 3) := by decide +kernel
theorem dX1_groupNamed_59 : decode cX1_groupNamed 59 = .ok (.iconst (-1), 1) := by decide +kernel
theorem dX1_groupNamed_60 : decode cX1_groupNamed 60 = .ok (.ireturn, 1) := by decide +kernel
theorem dX1_hasPrefix_0 : decode cX1_hasPrefix 0 = .ok (.aload_n 0, 1) := by decide +kernel
theorem dX1_hasPrefix_1 : decode cX1_hasPrefix 1 = .ok (.getfield 26, 3) := by decide +kernel
theorem dX1_hasPrefix_4 : decode cX1_hasPrefix 4 = .ok (.astore_n 2, 1) := by decide +kernel
theorem dX1_hasPrefix_5 : decode cX1_hasPrefix 5 = .ok (.aload_n 2, 1) := by decide +kernel
theorem dX1_hasPrefix_6 : decode cX1_hasPrefix 6 = .ok (.arraylength, 1) := by decide +kernel
theorem dX1_hasPrefix_7 : decode cX1_hasPrefix 7 = .ok (.istore_n 3, 1) := by decide +kernel
theorem dX1_hasPrefix_8 : decode cX1_hasPrefix 8 = .ok (.iconst 0, 1) := by decide +kernel
theorem dX1_hasPrefix_9 : decode cX1_hasPrefix 9 = .ok (.istore 4, 2) := by decide +kernel
theorem dX1_hasPrefix_11 : decode cX1_hasPrefix 11 = .ok (.iload 4, 2) := by decide +kernel
theorem dX1_hasPrefix_13 : decode cX1_hasPrefix 13 = .ok (.iload_n 3, 1) := by decide +kernel
theorem dX1_hasPrefix_14 : decode cX1_hasPrefix 14 = .ok (.if_icmp .ge 38, 3) := by decide +kernel
theorem dX1_hasPrefix_17 : decode cX1_hasPrefix 17 = .ok (.aload_n 2, 1) := by decide +kernel
theorem dX1_hasPrefix_18 : decode cX1_hasPrefix 18 = .ok (.iload 4, 2) := by decide +kernel
theorem dX1_hasPrefix_20 : decode cX1_hasPrefix 20 = .ok (.aaload, 1) := by decide +kernel
theorem dX1_hasPrefix_21 : decode cX1_hasPrefix 21 = .ok (.astore 5, 2) := by decide +kernel
theorem dX1_hasPrefix_23 : decode cX1_hasPrefix 23 = .ok (.aload 5, 2) := by decide +kernel
theorem dX1_hasPrefix_25 : decode cX1_hasPrefix 25 = .ok (.getfield 138, 3) := by decide +kernel
theorem dX1_hasPrefix_28 : decode cX1_hasPrefix 28 = .ok (.aload_n 0, 1) := by decide +kernel
theorem dX1_hasPrefix_29 : decode cX1_hasPrefix 29 = .ok (.getfield 68, 3) := by decide +kernel
theorem dX1_hasPrefix_32 : decode cX1_hasPrefix 32 = .ok (.if_icmp .ge 14, 3) := by decide +kernel
theorem dX1_hasPrefix_35 : decode cX1_hasPrefix 35 = .ok (.aload 5, 2) := by decide +kernel
theorem dX1_hasPrefix_37 : decode cX1_hasPrefix 37 = .ok (.getfield 139, 3) := by decide +kernel
theorem dX1_hasPrefix_40 : decode cX1_hasPrefix 40 = .ok (.iload_n 1, 1) := by decide +kernel
theorem dX1_hasPrefix_41 : decode cX1_hasPrefix 41 = .ok (.if_icmp .ne 5, 3) := by decide +kernel
theorem dX1_hasPrefix_44 : decode cX1_hasPrefix 44 = .ok (.iconst 1, 1) := by decide +kernel
theorem dX1_hasPrefix_45 : decode cX1_hasPrefix 45 = .ok (.ireturn, 1) := by decide +kernel
theorem dX1_hasPrefix_46 : decode cX1_hasPrefix 46 = .ok (.iinc 4 1, 3) := by decide +kernel
theorem dX1_hasPrefix_49 : decode cX1_hasPrefix 49 = .ok (.goto (-38), 3) := by decide +kernel
theorem dX1_hasPrefix_52 : decode cX1_hasPrefix 52 = .ok (.iconst 0, 1) := by decide +kernel
theorem dX1_hasPrefix_53 : decode cX1_hasPrefix 53 = .ok (.ireturn, 1) := by decide +kernel
theorem dX1_routeFor_0 : decode cX1_routeFor 0 = .ok (.iload_n 1, 1) := by decide +kernel
theorem dX1_routeFor_1 : decode cX1_routeFor 1 = .ok (.istore_n 2, 1) := by decide +kernel
theorem dX1_routeFor_2 : decode cX1_routeFor 2 = .ok (.iload_n 2, 1) := by decide +kernel
theorem dX1_routeFor_3 : decode cX1_routeFor 3 = .ok (.bipush 10, 2) := by decide +kernel
theorem dX1_routeFor_5 : decode cX1_routeFor 5 = .ok (.if_icmp .lt 66, 3) := by decide +kernel
theorem dX1_routeFor_8 : decode cX1_routeFor 8 = .ok (.aload_n 0, 1) := by decide +kernel
theorem dX1_routeFor_9 : decode cX1_routeFor 9 = .ok (.getfield 26, 3) := by decide +kernel
theorem dX1_routeFor_12 : decode cX1_routeFor 12 = .ok (.astore_n 3, 1) := by decide +kernel
theorem dX1_routeFor_13 : decode cX1_routeFor 13 = .ok (.aload_n 3, 1) := by decide +kernel
theorem dX1_routeFor_14 : decode cX1_routeFor 14 = .ok (.arraylength, 1) := by decide +kernel
theorem dX1_routeFor_15 : decode cX1_routeFor 15 = .ok (.istore 4, 2) := by decide +kernel
theorem dX1_routeFor_17 : decode cX1_routeFor 17 = .ok (.iconst 0, 1) := by decide +kernel
theorem dX1_routeFor_18 : decode cX1_routeFor 18 = .ok (.istore 5, 2) := by decide +kernel
theorem dX1_routeFor_20 : decode cX1_routeFor 20 = .ok (.iload 5, 2) := by decide +kernel
theorem dX1_routeFor_22 : decode cX1_routeFor 22 = .ok (.iload 4, 2) := by decide +kernel
theorem dX1_routeFor_24 : decode cX1_routeFor 24 = .ok (.if_icmp .ge 39, 3) := by decide +kernel
theorem dX1_routeFor_27 : decode cX1_routeFor 27 = .ok (.aload_n 3, 1) := by decide +kernel
theorem dX1_routeFor_28 : decode cX1_routeFor 28 = .ok (.iload 5, 2) := by decide +kernel
theorem dX1_routeFor_30 : decode cX1_routeFor 30 = .ok (.aaload, 1) := by decide +kernel
theorem dX1_routeFor_31 : decode cX1_routeFor 31 = .ok (.astore 6, 2) := by decide +kernel
theorem dX1_routeFor_33 : decode cX1_routeFor 33 = .ok (.aload 6, 2) := by decide +kernel
theorem dX1_routeFor_35 : decode cX1_routeFor 35 = .ok (.getfield 138, 3) := by decide +kernel
theorem dX1_routeFor_38 : decode cX1_routeFor 38 = .ok (.aload_n 0, 1) := by decide +kernel
theorem dX1_routeFor_39 : decode cX1_routeFor 39 = .ok (.getfield 68, 3) := by decide +kernel
theorem dX1_routeFor_42 : decode cX1_routeFor 42 = .ok (.if_icmp .ge 15, 3) := by decide +kernel
theorem dX1_routeFor_45 : decode cX1_routeFor 45 = .ok (.aload 6, 2) := by decide +kernel
theorem dX1_routeFor_47 : decode cX1_routeFor 47 = .ok (.getfield 139, 3) := by decide +kernel
theorem dX1_routeFor_50 : decode cX1_routeFor 50 = .ok (.iload_n 2, 1) := by decide +kernel
theorem dX1_routeFor_51 : decode cX1_routeFor 51 = .ok (.if_icmp .ne 6, 3) := by decide +kernel
theorem dX1_routeFor_54 : decode cX1_routeFor 54 = .ok (.aload 6, 2) := by decide +kernel
theorem dX1_routeFor_56 : decode cX1_routeFor 56 = .ok (.areturn, 1) := by decide +kernel
theorem dX1_routeFor_57 : decode cX1_routeFor 57 = .ok (.iinc 5 1, 3) := by decide +kernel
theorem dX1_routeFor_60 : decode cX1_routeFor 60 = .ok (.goto (-40), 3) := by decide +kernel
theorem dX1_routeFor_63 : decode cX1_routeFor 63 = .ok (.iload_n 2, 1) := by decide +kernel
theorem dX1_routeFor_64 : decode cX1_routeFor 64 = .ok (.bipush 10, 2) := by decide +kernel
theorem dX1_routeFor_66 : decode cX1_routeFor 66 = .ok (.idiv, 1) := by decide +kernel
theorem dX1_routeFor_67 : decode cX1_routeFor 67 = .ok (.istore_n 2, 1) := by decide +kernel
theorem dX1_routeFor_68 : decode cX1_routeFor 68 = .ok (.goto (-66), 3) := by decide +kernel
theorem dX1_routeFor_71 : decode cX1_routeFor 71 = .ok (.aconst_null, 1) := by decide +kernel
theorem dX1_routeFor_72 : decode cX1_routeFor 72 = .ok (.areturn, 1) := by decide +kernel
theorem dX1_routeIndexFor_0 : decode cX1_routeIndexFor 0 = .ok (.aload_n 0, 1) := by decide +kernel
theorem dX1_routeIndexFor_1 : decode cX1_routeIndexFor 1 = .ok (.iload_n 1, 1) := by decide +kernel
theorem dX1_routeIndexFor_2 : decode cX1_routeIndexFor 2 = .ok (.invokevirtual 142, 3) := by decide +kernel
theorem dX1_routeIndexFor_5 : decode cX1_routeIndexFor 5 = .ok (.astore_n 2, 1) := by decide +kernel
theorem dX1_routeIndexFor_6 : decode cX1_routeIndexFor 6 = .ok (.aload_n 2, 1) := by decide +kernel
theorem dX1_routeIndexFor_7 : decode cX1_routeIndexFor 7 = .ok (.ifnonnull 7, 3) := by decide +kernel
theorem dX1_routeIndexFor_10 : decode cX1_routeIndexFor 10 = .ok (.iconst (-1), 1) := by decide +kernel
theorem dX1_routeIndexFor_11 : decode cX1_routeIndexFor 11 = .ok (.goto 7, 3) := by decide +kernel
theorem dX1_routeIndexFor_14 : decode cX1_routeIndexFor 14 = .ok (.aload_n 2, 1) := by decide +kernel
theorem dX1_routeIndexFor_15 : decode cX1_routeIndexFor 15 = .ok (.getfield 138, 3) := by decide +kernel
theorem dX1_routeIndexFor_18 : decode cX1_routeIndexFor 18 = .ok (.ireturn, 1) := by decide +kernel
theorem dX1_isComplete_0 : decode cX1_isComplete 0 = .ok (.aload_n 0, 1) := by decide +kernel
theorem dX1_isComplete_1 : decode cX1_isComplete 1 = .ok (.iload_n 1, 1) := by decide +kernel
theorem dX1_isComplete_2 : decode cX1_isComplete 2 = .ok (.invokevirtual 146, 3) := by decide +kernel
theorem dX1_isComplete_5 : decode cX1_isComplete 5 = .ok (.iconst (-1), 1) := by decide +kernel
theorem dX1_isComplete_6 : decode cX1_isComplete 6 = .ok (.if_icmp .eq 5, 3) := by decide +kernel
theorem dX1_isComplete_9 : decode cX1_isComplete 9 = .ok (.iconst 1, 1) := by decide +kernel
theorem dX1_isComplete_10 : decode cX1_isComplete 10 = .ok (.ireturn, 1) := by decide +kernel
theorem dX1_isComplete_11 : decode cX1_isComplete 11 = .ok (.aload_n 0, 1) := by decide +kernel
theorem dX1_isComplete_12 : decode cX1_isComplete 12 = .ok (.iload_n 1, 1) := by decide +kernel
theorem dX1_isComplete_13 : decode cX1_isComplete 13 = .ok (.invokevirtual 142, 3) := by decide +kernel
theorem dX1_isComplete_16 : decode cX1_isComplete 16 = .ok (.astore_n 2, 1) := by decide +kernel
theorem dX1_isComplete_17 : decode cX1_isComplete 17 = .ok (.aload_n 2, 1) := by decide +kernel
theorem dX1_isComplete_18 : decode cX1_isComplete 18 = .ok (.ifnull 18, 3) := by decide +kernel
theorem dX1_isComplete_21 : decode cX1_isComplete 21 = .ok (.aload_n 2, 1) := by decide +kernel
theorem dX1_isComplete_22 : decode cX1_isComplete 22 = .ok (.getfield 150, 3) := by decide +kernel
theorem dX1_isComplete_25 : decode cX1_isComplete 25 = .ok (.iload_n 1, 1) := by decide +kernel
theorem dX1_isComplete_26 : decode cX1_isComplete 26 = .ok (.invokestatic 153, 3) := by decide +kernel
theorem dX1_isComplete_29 : decode cX1_isComplete 29 = .ok (.if_icmp .ne 7, 3) := by decide +kernel
theorem dX1_isComplete_32 : decode cX1_isComplete 32 = .ok (.iconst 1, 1) := by decide +kernel
theorem dX1_isComplete_33 : decode cX1_isComplete 33 = .ok (.goto 4, 3) := by decide +kernel
theorem dX1_isComplete_36 : decode cX1_isComplete 36 = .ok (.iconst 0, 1) := by decide +kernel
theorem dX1_isComplete_37 : decode cX1_isComplete 37 = .ok (.ireturn, 1) := by decide +kernel
theorem dX1_groupFor_0 : decode cX1_groupFor 0 = .ok (.aload_n 0, 1) := by decide +kernel
theorem dX1_groupFor_1 : decode cX1_groupFor 1 = .ok (.iload_n 1, 1) := by decide +kernel
theorem dX1_groupFor_2 : decode cX1_groupFor 2 = .ok (.invokevirtual 142, 3) := by decide +kernel
theorem dX1_groupFor_5 : decode cX1_groupFor 5 = .ok (.astore_n 2, 1) := by decide +kernel
theorem dX1_groupFor_6 : decode cX1_groupFor 6 = .ok (.aload_n 2, 1) := by decide +kernel
theorem dX1_groupFor_7 : decode cX1_groupFor 7 = .ok (.ifnull 20, 3) := by decide +kernel
theorem dX1_groupFor_10 : decode cX1_groupFor 10 = .ok (.aload_n 0, 1) := by decide +kernel
theorem dX1_groupFor_11 : decode cX1_groupFor 11 = .ok (.iload_n 1, 1) := by decide +kernel
theorem dX1_groupFor_12 : decode cX1_groupFor 12 = .ok (.invokevirtual 146, 3) := by decide +kernel
theorem dX1_groupFor_15 : decode cX1_groupFor 15 = .ok (.iconst (-1), 1) := by decide +kernel
theorem dX1_groupFor_16 : decode cX1_groupFor 16 = .ok (.if_icmp .ne 11, 3) := by decide +kernel
theorem dX1_groupFor_19 : decode cX1_groupFor 19 = .ok (.aload_n 0, 1) := by decide +kernel
theorem dX1_groupFor_20 : decode cX1_groupFor 20 = .ok (.iload_n 1, 1) := by decide +kernel
theorem dX1_groupFor_21 : decode cX1_groupFor 21 = .ok (.invokevirtual 158, 3) := by decide +kernel
theorem dX1_groupFor_24 : decode cX1_groupFor 24 = .ok (.ifCond .ne 5, 3) := by decide +kernel
theorem dX1_groupFor_27 : decode cX1_groupFor 27 = .ok (.iconst (-1), 1) := by decide +kernel
theorem dX1_groupFor_28 : decode cX1_groupFor 28 = .ok (.ireturn, 1) := by decide +kernel
theorem dX1_groupFor_29 : decode cX1_groupFor 29 = .ok (.aload_n 2, 1) := by decide +kernel
theorem dX1_groupFor_30 : decode cX1_groupFor 30 = .ok (.aload_n 0, 1) := by decide +kernel
theorem dX1_groupFor_31 : decode cX1_groupFor 31 = .ok (.aload_n 2, 1) := by decide +kernel
theorem dX1_groupFor_32 : decode cX1_groupFor 32 = .ok (.invokevirtual 162, 3) := by decide +kernel
theorem dX1_groupFor_35 : decode cX1_groupFor 35 = .ok (.invokevirtual 166, 3) := by decide +kernel
theorem dX1_groupFor_38 : decode cX1_groupFor 38 = .ok (.ireturn, 1) := by decide +kernel
theorem dX1_countIn_0 : decode cX1_countIn 0 = .ok (.iconst 0, 1) := by decide +kernel
theorem dX1_countIn_1 : decode cX1_countIn 1 = .ok (.istore_n 2, 1) := by decide +kernel
theorem dX1_countIn_2 : decode cX1_countIn 2 = .ok (.aload_n 0, 1) := by decide +kernel
theorem dX1_countIn_3 : decode cX1_countIn 3 = .ok (.getfield 47, 3) := by decide +kernel
theorem dX1_countIn_6 : decode cX1_countIn 6 = .ok (.astore_n 3, 1) := by decide +kernel
theorem dX1_countIn_7 : decode cX1_countIn 7 = .ok (.aload_n 3, 1) := by decide +kernel
theorem dX1_countIn_8 : decode cX1_countIn 8 = .ok (.arraylength, 1) := by decide +kernel
theorem dX1_countIn_9 : decode cX1_countIn 9 = .ok (.istore 4, 2) := by decide +kernel
theorem dX1_countIn_11 : decode cX1_countIn 11 = .ok (.iconst 0, 1) := by decide +kernel
theorem dX1_countIn_12 : decode cX1_countIn 12 = .ok (.istore 5, 2) := by decide +kernel
theorem dX1_countIn_14 : decode cX1_countIn 14 = .ok (.iload 5, 2) := by decide +kernel
theorem dX1_countIn_16 : decode cX1_countIn 16 = .ok (.iload 4, 2) := by decide +kernel
theorem dX1_countIn_18 : decode cX1_countIn 18 = .ok (.if_icmp .ge 27, 3) := by decide +kernel
theorem dX1_countIn_21 : decode cX1_countIn 21 = .ok (.aload_n 3, 1) := by decide +kernel
theorem dX1_countIn_22 : decode cX1_countIn 22 = .ok (.iload 5, 2) := by decide +kernel
theorem dX1_countIn_24 : decode cX1_countIn 24 = .ok (.aaload, 1) := by decide +kernel
theorem dX1_countIn_25 : decode cX1_countIn 25 = .ok (.astore 6, 2) := by decide +kernel
theorem dX1_countIn_27 : decode cX1_countIn 27 = .ok (.aload 6, 2) := by decide +kernel
theorem dX1_countIn_29 : decode cX1_countIn 29 = .ok (.getfield 102, 3) := by decide +kernel
theorem dX1_countIn_32 : decode cX1_countIn 32 = .ok (.iload_n 1, 1) := by decide +kernel
theorem dX1_countIn_33 : decode cX1_countIn 33 = .ok (.if_icmp .ne 6, 3) := by decide +kernel
theorem dX1_countIn_36 : decode cX1_countIn 36 = .ok (.iinc 2 1, 3) := by decide +kernel
theorem dX1_countIn_39 : decode cX1_countIn 39 = .ok (.iinc 5 1, 3) := by decide +kernel
theorem dX1_countIn_42 : decode cX1_countIn 42 = .ok (.goto (-28), 3) := by decide +kernel
theorem dX1_countIn_45 : decode cX1_countIn 45 = .ok (.iload_n 2, 1) := by decide +kernel
theorem dX1_countIn_46 : decode cX1_countIn 46 = .ok (.ireturn, 1) := by decide +kernel
theorem dX1_callFrom_0 : decode cX1_callFrom 0 = .ok (.aload_n 0, 1) := by decide +kernel
theorem dX1_callFrom_1 : decode cX1_callFrom 1 = .ok (.getfield 47, 3) := by decide +kernel
theorem dX1_callFrom_4 : decode cX1_callFrom 4 = .ok (.astore_n 2, 1) := by decide +kernel
theorem dX1_callFrom_5 : decode cX1_callFrom 5 = .ok (.aload_n 2, 1) := by decide +kernel
theorem dX1_callFrom_6 : decode cX1_callFrom 6 = .ok (.arraylength, 1) := by decide +kernel
theorem dX1_callFrom_7 : decode cX1_callFrom 7 = .ok (.istore_n 3, 1) := by decide +kernel
theorem dX1_callFrom_8 : decode cX1_callFrom 8 = .ok (.iconst 0, 1) := by decide +kernel
theorem dX1_callFrom_9 : decode cX1_callFrom 9 = .ok (.istore 4, 2) := by decide +kernel
theorem dX1_callFrom_11 : decode cX1_callFrom 11 = .ok (.iload 4, 2) := by decide +kernel
theorem dX1_callFrom_13 : decode cX1_callFrom 13 = .ok (.iload_n 3, 1) := by decide +kernel
theorem dX1_callFrom_14 : decode cX1_callFrom 14 = .ok (.if_icmp .ge 48, 3) := by decide +kernel
theorem dX1_callFrom_17 : decode cX1_callFrom 17 = .ok (.aload_n 2, 1) := by decide +kernel
theorem dX1_callFrom_18 : decode cX1_callFrom 18 = .ok (.iload 4, 2) := by decide +kernel
theorem dX1_callFrom_20 : decode cX1_callFrom 20 = .ok (.aaload, 1) := by decide +kernel
theorem dX1_callFrom_21 : decode cX1_callFrom 21 = .ok (.astore 5, 2) := by decide +kernel
theorem dX1_callFrom_23 : decode cX1_callFrom 23 = .ok (.aload 5, 2) := by decide +kernel
theorem dX1_callFrom_25 : decode cX1_callFrom 25 = .ok (.getfield 102, 3) := by decide +kernel
theorem dX1_callFrom_28 : decode cX1_callFrom 28 = .ok (.iconst 1, 1) := by decide +kernel
theorem dX1_callFrom_29 : decode cX1_callFrom 29 = .ok (.if_icmp .lt 27, 3) := by decide +kernel
theorem dX1_callFrom_32 : decode cX1_callFrom 32 = .ok (.aload 5, 2) := by decide +kernel
theorem dX1_callFrom_34 : decode cX1_callFrom 34 = .ok (.getfield 102, 3) := by decide +kernel
theorem dX1_callFrom_37 : decode cX1_callFrom 37 = .ok (.iconst 5, 1) := by decide +kernel
theorem dX1_callFrom_38 : decode cX1_callFrom 38 = .ok (.if_icmp .gt 18, 3) := by decide +kernel
theorem dX1_callFrom_41 : decode cX1_callFrom 41 = .ok (.aload 5, 2) := by decide +kernel
theorem dX1_callFrom_43 : decode cX1_callFrom 43 = .ok (.getfield 169, 3) := by decide +kernel
theorem dX1_callFrom_46 : decode cX1_callFrom 46 = .ok (.iload_n 1, 1) := by decide +kernel
theorem dX1_callFrom_47 : decode cX1_callFrom 47 = .ok (.if_icmp .ne 9, 3) := by decide +kernel
theorem dX1_callFrom_50 : decode cX1_callFrom 50 = .ok (.aload 5, 2) := by decide +kernel
theorem dX1_callFrom_52 : decode cX1_callFrom 52 = .ok (.getfield 130, 3) := by decide +kernel
theorem dX1_callFrom_55 : decode cX1_callFrom 55 = .ok (.ireturn, 1) := by decide +kernel
theorem dX1_callFrom_56 : decode cX1_callFrom 56 = .ok (.iinc 4 1, 3) := by decide +kernel
theorem dX1_callFrom_59 : decode cX1_callFrom 59 = .ok (.goto (-48), 3) := by decide +kernel
theorem dX1_callFrom_62 : decode cX1_callFrom 62 = .ok (.iconst (-1), 1) := by decide +kernel
theorem dX1_callFrom_63 : decode cX1_callFrom 63 = .ok (.ireturn, 1) := by decide +kernel
theorem dX1_callTo_0 : decode cX1_callTo 0 = .ok (.aload_n 0, 1) := by decide +kernel
theorem dX1_callTo_1 : decode cX1_callTo 1 = .ok (.getfield 47, 3) := by decide +kernel
theorem dX1_callTo_4 : decode cX1_callTo 4 = .ok (.astore_n 2, 1) := by decide +kernel
theorem dX1_callTo_5 : decode cX1_callTo 5 = .ok (.aload_n 2, 1) := by decide +kernel
theorem dX1_callTo_6 : decode cX1_callTo 6 = .ok (.arraylength, 1) := by decide +kernel
theorem dX1_callTo_7 : decode cX1_callTo 7 = .ok (.istore_n 3, 1) := by decide +kernel
theorem dX1_callTo_8 : decode cX1_callTo 8 = .ok (.iconst 0, 1) := by decide +kernel
theorem dX1_callTo_9 : decode cX1_callTo 9 = .ok (.istore 4, 2) := by decide +kernel
theorem dX1_callTo_11 : decode cX1_callTo 11 = .ok (.iload 4, 2) := by decide +kernel
theorem dX1_callTo_13 : decode cX1_callTo 13 = .ok (.iload_n 3, 1) := by decide +kernel
theorem dX1_callTo_14 : decode cX1_callTo 14 = .ok (.if_icmp .ge 39, 3) := by decide +kernel
theorem dX1_callTo_17 : decode cX1_callTo 17 = .ok (.aload_n 2, 1) := by decide +kernel
theorem dX1_callTo_18 : decode cX1_callTo 18 = .ok (.iload 4, 2) := by decide +kernel
theorem dX1_callTo_20 : decode cX1_callTo 20 = .ok (.aaload, 1) := by decide +kernel
theorem dX1_callTo_21 : decode cX1_callTo 21 = .ok (.astore 5, 2) := by decide +kernel
theorem dX1_callTo_23 : decode cX1_callTo 23 = .ok (.aload 5, 2) := by decide +kernel
theorem dX1_callTo_25 : decode cX1_callTo 25 = .ok (.getfield 102, 3) := by decide +kernel
theorem dX1_callTo_28 : decode cX1_callTo 28 = .ok (.iconst 5, 1) := by decide +kernel
theorem dX1_callTo_29 : decode cX1_callTo 29 = .ok (.if_icmp .ne 18, 3) := by decide +kernel
theorem dX1_callTo_32 : decode cX1_callTo 32 = .ok (.aload 5, 2) := by decide +kernel
theorem dX1_callTo_34 : decode cX1_callTo 34 = .ok (.getfield 172, 3) := by decide +kernel
theorem dX1_callTo_37 : decode cX1_callTo 37 = .ok (.iload_n 1, 1) := by decide +kernel
theorem dX1_callTo_38 : decode cX1_callTo 38 = .ok (.if_icmp .ne 9, 3) := by decide +kernel
theorem dX1_callTo_41 : decode cX1_callTo 41 = .ok (.aload 5, 2) := by decide +kernel
theorem dX1_callTo_43 : decode cX1_callTo 43 = .ok (.getfield 130, 3) := by decide +kernel
theorem dX1_callTo_46 : decode cX1_callTo 46 = .ok (.ireturn, 1) := by decide +kernel
theorem dX1_callTo_47 : decode cX1_callTo 47 = .ok (.iinc 4 1, 3) := by decide +kernel
theorem dX1_callTo_50 : decode cX1_callTo 50 = .ok (.goto (-39), 3) := by decide +kernel
theorem dX1_callTo_53 : decode cX1_callTo 53 = .ok (.iconst (-1), 1) := by decide +kernel
theorem dX1_callTo_54 : decode cX1_callTo 54 = .ok (.ireturn, 1) := by decide +kernel
theorem dX1_isBusy_0 : decode cX1_isBusy 0 = .ok (.aload_n 0, 1) := by decide +kernel
theorem dX1_isBusy_1 : decode cX1_isBusy 1 = .ok (.iload_n 1, 1) := by decide +kernel
theorem dX1_isBusy_2 : decode cX1_isBusy 2 = .ok (.invokevirtual 175, 3) := by decide +kernel
theorem dX1_isBusy_5 : decode cX1_isBusy 5 = .ok (.iconst (-1), 1) := by decide +kernel
theorem dX1_isBusy_6 : decode cX1_isBusy 6 = .ok (.if_icmp .ne 12, 3) := by decide +kernel
theorem dX1_isBusy_9 : decode cX1_isBusy 9 = .ok (.aload_n 0, 1) := by decide +kernel
theorem dX1_isBusy_10 : decode cX1_isBusy 10 = .ok (.iload_n 1, 1) := by decide +kernel
theorem dX1_isBusy_11 : decode cX1_isBusy 11 = .ok (.invokevirtual 178, 3) := by decide +kernel
theorem dX1_isBusy_14 : decode cX1_isBusy 14 = .ok (.iconst (-1), 1) := by decide +kernel
theorem dX1_isBusy_15 : decode cX1_isBusy 15 = .ok (.if_icmp .eq 7, 3) := by decide +kernel
theorem dX1_isBusy_18 : decode cX1_isBusy 18 = .ok (.iconst 1, 1) := by decide +kernel
theorem dX1_isBusy_19 : decode cX1_isBusy 19 = .ok (.goto 4, 3) := by decide +kernel
theorem dX1_isBusy_22 : decode cX1_isBusy 22 = .ok (.iconst 0, 1) := by decide +kernel
theorem dX1_isBusy_23 : decode cX1_isBusy 23 = .ok (.ireturn, 1) := by decide +kernel
theorem dX1_busyLines_0 : decode cX1_busyLines 0 = .ok (.iconst 0, 1) := by decide +kernel
theorem dX1_busyLines_1 : decode cX1_busyLines 1 = .ok (.istore_n 1, 1) := by decide +kernel
theorem dX1_busyLines_2 : decode cX1_busyLines 2 = .ok (.iconst 0, 1) := by decide +kernel
theorem dX1_busyLines_3 : decode cX1_busyLines 3 = .ok (.istore_n 2, 1) := by decide +kernel
theorem dX1_busyLines_4 : decode cX1_busyLines 4 = .ok (.iload_n 2, 1) := by decide +kernel
theorem dX1_busyLines_5 : decode cX1_busyLines 5 = .ok (.aload_n 0, 1) := by decide +kernel
theorem dX1_busyLines_6 : decode cX1_busyLines 6 = .ok (.getfield 62, 3) := by decide +kernel
theorem dX1_busyLines_9 : decode cX1_busyLines 9 = .ok (.if_icmp .ge 20, 3) := by decide +kernel
theorem dX1_busyLines_12 : decode cX1_busyLines 12 = .ok (.aload_n 0, 1) := by decide +kernel
theorem dX1_busyLines_13 : decode cX1_busyLines 13 = .ok (.iload_n 2, 1) := by decide +kernel
theorem dX1_busyLines_14 : decode cX1_busyLines 14 = .ok (.invokevirtual 181, 3) := by decide +kernel
theorem dX1_busyLines_17 : decode cX1_busyLines 17 = .ok (.ifCond .eq 6, 3) := by decide +kernel
theorem dX1_busyLines_20 : decode cX1_busyLines 20 = .ok (.iinc 1 1, 3) := by decide +kernel
theorem dX1_busyLines_23 : decode cX1_busyLines 23 = .ok (.iinc 2 1, 3) := by decide +kernel
theorem dX1_busyLines_26 : decode cX1_busyLines 26 = .ok (.goto (-22), 3) := by decide +kernel
theorem dX1_busyLines_29 : decode cX1_busyLines 29 = .ok (.iload_n 1, 1) := by decide +kernel
theorem dX1_busyLines_30 : decode cX1_busyLines 30 = .ok (.ireturn, 1) := by decide +kernel
theorem dX1_cameFrom_0 : decode cX1_cameFrom 0 = .ok (.iconst 0, 1) := by decide +kernel
theorem dX1_cameFrom_1 : decode cX1_cameFrom 1 = .ok (.istore_n 2, 1) := by decide +kernel
theorem dX1_cameFrom_2 : decode cX1_cameFrom 2 = .ok (.aload_n 0, 1) := by decide +kernel
theorem dX1_cameFrom_3 : decode cX1_cameFrom 3 = .ok (.getfield 47, 3) := by decide +kernel
theorem dX1_cameFrom_6 : decode cX1_cameFrom 6 = .ok (.astore_n 3, 1) := by decide +kernel
theorem dX1_cameFrom_7 : decode cX1_cameFrom 7 = .ok (.aload_n 3, 1) := by decide +kernel
theorem dX1_cameFrom_8 : decode cX1_cameFrom 8 = .ok (.arraylength, 1) := by decide +kernel
theorem dX1_cameFrom_9 : decode cX1_cameFrom 9 = .ok (.istore 4, 2) := by decide +kernel
theorem dX1_cameFrom_11 : decode cX1_cameFrom 11 = .ok (.iconst 0, 1) := by decide +kernel
theorem dX1_cameFrom_12 : decode cX1_cameFrom 12 = .ok (.istore 5, 2) := by decide +kernel
theorem dX1_cameFrom_14 : decode cX1_cameFrom 14 = .ok (.iload 5, 2) := by decide +kernel
theorem dX1_cameFrom_16 : decode cX1_cameFrom 16 = .ok (.iload 4, 2) := by decide +kernel
theorem dX1_cameFrom_18 : decode cX1_cameFrom 18 = .ok (.if_icmp .ge 44, 3) := by decide +kernel
theorem dX1_cameFrom_21 : decode cX1_cameFrom 21 = .ok (.aload_n 3, 1) := by decide +kernel
theorem dX1_cameFrom_22 : decode cX1_cameFrom 22 = .ok (.iload 5, 2) := by decide +kernel
theorem dX1_cameFrom_24 : decode cX1_cameFrom 24 = .ok (.aaload, 1) := by decide +kernel
theorem dX1_cameFrom_25 : decode cX1_cameFrom 25 = .ok (.astore 6, 2) := by decide +kernel
theorem dX1_cameFrom_27 : decode cX1_cameFrom 27 = .ok (.aload 6, 2) := by decide +kernel
theorem dX1_cameFrom_29 : decode cX1_cameFrom 29 = .ok (.getfield 102, 3) := by decide +kernel
theorem dX1_cameFrom_32 : decode cX1_cameFrom 32 = .ok (.iconst (-1), 1) := by decide +kernel
theorem dX1_cameFrom_33 : decode cX1_cameFrom 33 = .ok (.if_icmp .eq 23, 3) := by decide +kernel
theorem dX1_cameFrom_36 : decode cX1_cameFrom 36 = .ok (.aload 6, 2) := by decide +kernel
theorem dX1_cameFrom_38 : decode cX1_cameFrom 38 = .ok (.getfield 184, 3) := by decide +kernel
theorem dX1_cameFrom_41 : decode cX1_cameFrom 41 = .ok (.ifCond .eq 15, 3) := by decide +kernel
theorem dX1_cameFrom_44 : decode cX1_cameFrom 44 = .ok (.aload 6, 2) := by decide +kernel
theorem dX1_cameFrom_46 : decode cX1_cameFrom 46 = .ok (.getfield 169, 3) := by decide +kernel
theorem dX1_cameFrom_49 : decode cX1_cameFrom 49 = .ok (.iload_n 1, 1) := by decide +kernel
theorem dX1_cameFrom_50 : decode cX1_cameFrom 50 = .ok (.if_icmp .ne 6, 3) := by decide +kernel
theorem dX1_cameFrom_53 : decode cX1_cameFrom 53 = .ok (.iinc 2 1, 3) := by decide +kernel
theorem dX1_cameFrom_56 : decode cX1_cameFrom 56 = .ok (.iinc 5 1, 3) := by decide +kernel
theorem dX1_cameFrom_59 : decode cX1_cameFrom 59 = .ok (.goto (-45), 3) := by decide +kernel
theorem dX1_cameFrom_62 : decode cX1_cameFrom 62 = .ok (.iload_n 2, 1) := by decide +kernel
theorem dX1_cameFrom_63 : decode cX1_cameFrom 63 = .ok (.ireturn, 1) := by decide +kernel
theorem dX1_endedWellFrom_0 : decode cX1_endedWellFrom 0 = .ok (.iconst 0, 1) := by decide +kernel
theorem dX1_endedWellFrom_1 : decode cX1_endedWellFrom 1 = .ok (.istore_n 2, 1) := by decide +kernel
theorem dX1_endedWellFrom_2 : decode cX1_endedWellFrom 2 = .ok (.aload_n 0, 1) := by decide +kernel
theorem dX1_endedWellFrom_3 : decode cX1_endedWellFrom 3 = .ok (.getfield 47, 3) := by decide +kernel
theorem dX1_endedWellFrom_6 : decode cX1_endedWellFrom 6 = .ok (.astore_n 3, 1) := by decide +kernel
theorem dX1_endedWellFrom_7 : decode cX1_endedWellFrom 7 = .ok (.aload_n 3, 1) := by decide +kernel
theorem dX1_endedWellFrom_8 : decode cX1_endedWellFrom 8 = .ok (.arraylength, 1) := by decide +kernel
theorem dX1_endedWellFrom_9 : decode cX1_endedWellFrom 9 = .ok (.istore 4, 2) := by decide +kernel
theorem dX1_endedWellFrom_11 : decode cX1_endedWellFrom 11 = .ok (.iconst 0, 1) := by decide +kernel
theorem dX1_endedWellFrom_12 : decode cX1_endedWellFrom 12 = .ok (.istore 5, 2) := by decide +kernel
theorem dX1_endedWellFrom_14 : decode cX1_endedWellFrom 14 = .ok (.iload 5, 2) := by decide +kernel
theorem dX1_endedWellFrom_16 : decode cX1_endedWellFrom 16 = .ok (.iload 4, 2) := by decide +kernel
theorem dX1_endedWellFrom_18 : decode cX1_endedWellFrom 18 = .ok (.if_icmp .ge 37, 3) := by decide +kernel
theorem dX1_endedWellFrom_21 : decode cX1_endedWellFrom 21 = .ok (.aload_n 3, 1) := by decide +kernel
theorem dX1_endedWellFrom_22 : decode cX1_endedWellFrom 22 = .ok (.iload 5, 2) := by decide +kernel
theorem dX1_endedWellFrom_24 : decode cX1_endedWellFrom 24 = .ok (.aaload, 1) := by decide +kernel
theorem dX1_endedWellFrom_25 : decode cX1_endedWellFrom 25 = .ok (.astore 6, 2) := by decide +kernel
theorem dX1_endedWellFrom_27 : decode cX1_endedWellFrom 27 = .ok (.aload 6, 2) := by decide +kernel
theorem dX1_endedWellFrom_29 : decode cX1_endedWellFrom 29 = .ok (.getfield 102, 3) := by decide +kernel
theorem dX1_endedWellFrom_32 : decode cX1_endedWellFrom 32 = .ok (.bipush 6, 2) := by decide +kernel
theorem dX1_endedWellFrom_34 : decode cX1_endedWellFrom 34 = .ok (.if_icmp .ne 15, 3) := by decide +kernel
theorem dX1_endedWellFrom_37 : decode cX1_endedWellFrom 37 = .ok (.aload 6, 2) := by decide +kernel
theorem dX1_endedWellFrom_39 : decode cX1_endedWellFrom 39 = .ok (.getfield 169, 3) := by decide +kernel
theorem dX1_endedWellFrom_42 : decode cX1_endedWellFrom 42 = .ok (.iload_n 1, 1) := by decide +kernel
theorem dX1_endedWellFrom_43 : decode cX1_endedWellFrom 43 = .ok (.if_icmp .ne 6, 3) := by decide +kernel
theorem dX1_endedWellFrom_46 : decode cX1_endedWellFrom 46 = .ok (.iinc 2 1, 3) := by decide +kernel
theorem dX1_endedWellFrom_49 : decode cX1_endedWellFrom 49 = .ok (.iinc 5 1, 3) := by decide +kernel
theorem dX1_endedWellFrom_52 : decode cX1_endedWellFrom 52 = .ok (.goto (-38), 3) := by decide +kernel
theorem dX1_endedWellFrom_55 : decode cX1_endedWellFrom 55 = .ok (.iload_n 2, 1) := by decide +kernel
theorem dX1_endedWellFrom_56 : decode cX1_endedWellFrom 56 = .ok (.ireturn, 1) := by decide +kernel
theorem dX1_busyTrunks_0 : decode cX1_busyTrunks 0 = .ok (.iconst 0, 1) := by decide +kernel
theorem dX1_busyTrunks_1 : decode cX1_busyTrunks 1 = .ok (.istore_n 2, 1) := by decide +kernel
theorem dX1_busyTrunks_2 : decode cX1_busyTrunks 2 = .ok (.aload_n 0, 1) := by decide +kernel
theorem dX1_busyTrunks_3 : decode cX1_busyTrunks 3 = .ok (.getfield 47, 3) := by decide +kernel
theorem dX1_busyTrunks_6 : decode cX1_busyTrunks 6 = .ok (.astore_n 3, 1) := by decide +kernel
theorem dX1_busyTrunks_7 : decode cX1_busyTrunks 7 = .ok (.aload_n 3, 1) := by decide +kernel
theorem dX1_busyTrunks_8 : decode cX1_busyTrunks 8 = .ok (.arraylength, 1) := by decide +kernel
theorem dX1_busyTrunks_9 : decode cX1_busyTrunks 9 = .ok (.istore 4, 2) := by decide +kernel
theorem dX1_busyTrunks_11 : decode cX1_busyTrunks 11 = .ok (.iconst 0, 1) := by decide +kernel
theorem dX1_busyTrunks_12 : decode cX1_busyTrunks 12 = .ok (.istore 5, 2) := by decide +kernel
theorem dX1_busyTrunks_14 : decode cX1_busyTrunks 14 = .ok (.iload 5, 2) := by decide +kernel
theorem dX1_busyTrunks_16 : decode cX1_busyTrunks 16 = .ok (.iload 4, 2) := by decide +kernel
theorem dX1_busyTrunks_18 : decode cX1_busyTrunks 18 = .ok (.if_icmp .ge 36, 3) := by decide +kernel
theorem dX1_busyTrunks_21 : decode cX1_busyTrunks 21 = .ok (.aload_n 3, 1) := by decide +kernel
theorem dX1_busyTrunks_22 : decode cX1_busyTrunks 22 = .ok (.iload 5, 2) := by decide +kernel
theorem dX1_busyTrunks_24 : decode cX1_busyTrunks 24 = .ok (.aaload, 1) := by decide +kernel
theorem dX1_busyTrunks_25 : decode cX1_busyTrunks 25 = .ok (.astore 6, 2) := by decide +kernel
theorem dX1_busyTrunks_27 : decode cX1_busyTrunks 27 = .ok (.aload 6, 2) := by decide +kernel
theorem dX1_busyTrunks_29 : decode cX1_busyTrunks 29 = .ok (.getfield 102, 3) := by decide +kernel
theorem dX1_busyTrunks_32 : decode cX1_busyTrunks 32 = .ok (.iconst 5, 1) := by decide +kernel
theorem dX1_busyTrunks_33 : decode cX1_busyTrunks 33 = .ok (.if_icmp .ne 15, 3) := by decide +kernel
theorem dX1_busyTrunks_36 : decode cX1_busyTrunks 36 = .ok (.aload 6, 2) := by decide +kernel
theorem dX1_busyTrunks_38 : decode cX1_busyTrunks 38 = .ok (.getfield 187, 3) := by decide +kernel
theorem dX1_busyTrunks_41 : decode cX1_busyTrunks 41 = .ok (.iload_n 1, 1) := by decide +kernel
theorem dX1_busyTrunks_42 : decode cX1_busyTrunks 42 = .ok (.if_icmp .ne 6, 3) := by decide +kernel
theorem dX1_busyTrunks_45 : decode cX1_busyTrunks 45 = .ok (.iinc 2 1, 3) := by decide +kernel
theorem dX1_busyTrunks_48 : decode cX1_busyTrunks 48 = .ok (.iinc 5 1, 3) := by decide +kernel
theorem dX1_busyTrunks_51 : decode cX1_busyTrunks 51 = .ok (.goto (-37), 3) := by decide +kernel
theorem dX1_busyTrunks_54 : decode cX1_busyTrunks 54 = .ok (.iload_n 2, 1) := by decide +kernel
theorem dX1_busyTrunks_55 : decode cX1_busyTrunks 55 = .ok (.ireturn, 1) := by decide +kernel
theorem dX1_allOverflows_0 : decode cX1_allOverflows 0 = .ok (.iconst 0, 1) := by decide +kernel
theorem dX1_allOverflows_1 : decode cX1_allOverflows 1 = .ok (.istore_n 1, 1) := by decide +kernel
theorem dX1_allOverflows_2 : decode cX1_allOverflows 2 = .ok (.aload_n 0, 1) := by decide +kernel
theorem dX1_allOverflows_3 : decode cX1_allOverflows 3 = .ok (.getfield 17, 3) := by decide +kernel
theorem dX1_allOverflows_6 : decode cX1_allOverflows 6 = .ok (.astore_n 2, 1) := by decide +kernel
theorem dX1_allOverflows_7 : decode cX1_allOverflows 7 = .ok (.aload_n 2, 1) := by decide +kernel
theorem dX1_allOverflows_8 : decode cX1_allOverflows 8 = .ok (.arraylength, 1) := by decide +kernel
theorem dX1_allOverflows_9 : decode cX1_allOverflows 9 = .ok (.istore_n 3, 1) := by decide +kernel
theorem dX1_allOverflows_10 : decode cX1_allOverflows 10 = .ok (.iconst 0, 1) := by decide +kernel
theorem dX1_allOverflows_11 : decode cX1_allOverflows 11 = .ok (.istore 4, 2) := by decide +kernel
theorem dX1_allOverflows_13 : decode cX1_allOverflows 13 = .ok (.iload 4, 2) := by decide +kernel
theorem dX1_allOverflows_15 : decode cX1_allOverflows 15 = .ok (.iload_n 3, 1) := by decide +kernel
theorem dX1_allOverflows_16 : decode cX1_allOverflows 16 = .ok (.if_icmp .ge 35, 3) := by decide +kernel
theorem dX1_allOverflows_19 : decode cX1_allOverflows 19 = .ok (.aload_n 2, 1) := by decide +kernel
theorem dX1_allOverflows_20 : decode cX1_allOverflows 20 = .ok (.iload 4, 2) := by decide +kernel
theorem dX1_allOverflows_22 : decode cX1_allOverflows 22 = .ok (.aaload, 1) := by decide +kernel
theorem dX1_allOverflows_23 : decode cX1_allOverflows 23 = .ok (.astore 5, 2) := by decide +kernel
theorem dX1_allOverflows_25 : decode cX1_allOverflows 25 = .ok (.aload 5, 2) := by decide +kernel
theorem dX1_allOverflows_27 : decode cX1_allOverflows 27 = .ok (.getfield 133, 3) := by decide +kernel
theorem dX1_allOverflows_30 : decode cX1_allOverflows 30 = .ok (.aload_n 0, 1) := by decide +kernel
theorem dX1_allOverflows_31 : decode cX1_allOverflows 31 = .ok (.getfield 65, 3) := by decide +kernel
theorem dX1_allOverflows_34 : decode cX1_allOverflows 34 = .ok (.if_icmp .ge 11, 3) := by decide +kernel
theorem dX1_allOverflows_37 : decode cX1_allOverflows 37 = .ok (.iload_n 1, 1) := by decide +kernel
theorem dX1_allOverflows_38 : decode cX1_allOverflows 38 = .ok (.aload 5, 2) := by decide +kernel
theorem dX1_allOverflows_40 : decode cX1_allOverflows 40 = .ok (.getfield 190, 3) := by decide +kernel
theorem dX1_allOverflows_43 : decode cX1_allOverflows 43 = .ok (.iadd, 1) := by decide +kernel
theorem dX1_allOverflows_44 : decode cX1_allOverflows 44 = .ok (.istore_n 1, 1) := by decide +kernel
theorem dX1_allOverflows_45 : decode cX1_allOverflows 45 = .ok (.iinc 4 1, 3) := by decide +kernel
theorem dX1_allOverflows_48 : decode cX1_allOverflows 48 = .ok (.goto (-35), 3) := by decide +kernel
theorem dX1_allOverflows_51 : decode cX1_allOverflows 51 = .ok (.iload_n 1, 1) := by decide +kernel
theorem dX1_allOverflows_52 : decode cX1_allOverflows 52 = .ok (.ireturn, 1) := by decide +kernel
theorem dX1_registerOf_0 : decode cX1_registerOf 0 = .ok (.aload_n 0, 1) := by decide +kernel
theorem dX1_registerOf_1 : decode cX1_registerOf 1 = .ok (.getfield 33, 3) := by decide +kernel
theorem dX1_registerOf_4 : decode cX1_registerOf 4 = .ok (.astore_n 2, 1) := by decide +kernel
theorem dX1_registerOf_5 : decode cX1_registerOf 5 = .ok (.aload_n 2, 1) := by decide +kernel
theorem dX1_registerOf_6 : decode cX1_registerOf 6 = .ok (.arraylength, 1) := by decide +kernel
theorem dX1_registerOf_7 : decode cX1_registerOf 7 = .ok (.istore_n 3, 1) := by decide +kernel
theorem dX1_registerOf_8 : decode cX1_registerOf 8 = .ok (.iconst 0, 1) := by decide +kernel
theorem dX1_registerOf_9 : decode cX1_registerOf 9 = .ok (.istore 4, 2) := by decide +kernel
theorem dX1_registerOf_11 : decode cX1_registerOf 11 = .ok (.iload 4, 2) := by decide +kernel
theorem dX1_registerOf_13 : decode cX1_registerOf 13 = .ok (.iload_n 3, 1) := by decide +kernel
theorem dX1_registerOf_14 : decode cX1_registerOf 14 = .ok (.if_icmp .ge 30, 3) := by decide +kernel
theorem dX1_registerOf_17 : decode cX1_registerOf 17 = .ok (.aload_n 2, 1) := by decide +kernel
theorem dX1_registerOf_18 : decode cX1_registerOf 18 = .ok (.iload 4, 2) := by decide +kernel
theorem dX1_registerOf_20 : decode cX1_registerOf 20 = .ok (.aaload, 1) := by decide +kernel
theorem dX1_registerOf_21 : decode cX1_registerOf 21 = .ok (.astore 5, 2) := by decide +kernel
theorem dX1_registerOf_23 : decode cX1_registerOf 23 = .ok (.aload 5, 2) := by decide +kernel
theorem dX1_registerOf_25 : decode cX1_registerOf 25 = .ok (.getfield 193, 3) := by decide +kernel
theorem dX1_registerOf_28 : decode cX1_registerOf 28 = .ok (.iload_n 1, 1) := by decide +kernel
theorem dX1_registerOf_29 : decode cX1_registerOf 29 = .ok (.if_icmp .ne 9, 3) := by decide +kernel
theorem dX1_registerOf_32 : decode cX1_registerOf 32 = .ok (.aload 5, 2) := by decide +kernel
theorem dX1_registerOf_34 : decode cX1_registerOf 34 = .ok (.getfield 196, 3) := by decide +kernel
theorem dX1_registerOf_37 : decode cX1_registerOf 37 = .ok (.ireturn, 1) := by decide +kernel
theorem dX1_registerOf_38 : decode cX1_registerOf 38 = .ok (.iinc 4 1, 3) := by decide +kernel
theorem dX1_registerOf_41 : decode cX1_registerOf 41 = .ok (.goto (-30), 3) := by decide +kernel
theorem dX1_registerOf_44 : decode cX1_registerOf 44 = .ok (.iconst (-1), 1) := by decide +kernel
theorem dX1_registerOf_45 : decode cX1_registerOf 45 = .ok (.ireturn, 1) := by decide +kernel
theorem dX1_firstWaiting_0 : decode cX1_firstWaiting 0 = .ok (.aconst_null, 1) := by decide +kernel
theorem dX1_firstWaiting_1 : decode cX1_firstWaiting 1 = .ok (.astore_n 2, 1) := by decide +kernel
theorem dX1_firstWaiting_2 : decode cX1_firstWaiting 2 = .ok (.aload_n 0, 1) := by decide +kernel
theorem dX1_firstWaiting_3 : decode cX1_firstWaiting 3 = .ok (.getfield 47, 3) := by decide +kernel
theorem dX1_firstWaiting_6 : decode cX1_firstWaiting 6 = .ok (.astore_n 3, 1) := by decide +kernel
theorem dX1_firstWaiting_7 : decode cX1_firstWaiting 7 = .ok (.aload_n 3, 1) := by decide +kernel
theorem dX1_firstWaiting_8 : decode cX1_firstWaiting 8 = .ok (.arraylength, 1) := by decide +kernel
theorem dX1_firstWaiting_9 : decode cX1_firstWaiting 9 = .ok (.istore 4, 2) := by decide +kernel
theorem dX1_firstWaiting_11 : decode cX1_firstWaiting 11 = .ok (.iconst 0, 1) := by decide +kernel
theorem dX1_firstWaiting_12 : decode cX1_firstWaiting 12 = .ok (.istore 5, 2) := by decide +kernel
theorem dX1_firstWaiting_14 : decode cX1_firstWaiting 14 = .ok (.iload 5, 2) := by decide +kernel
theorem dX1_firstWaiting_16 : decode cX1_firstWaiting 16 = .ok (.iload 4, 2) := by decide +kernel
theorem dX1_firstWaiting_18 : decode cX1_firstWaiting 18 = .ok (.if_icmp .ge 43, 3) := by decide +kernel
theorem dX1_firstWaiting_21 : decode cX1_firstWaiting 21 = .ok (.aload_n 3, 1) := by decide +kernel
theorem dX1_firstWaiting_22 : decode cX1_firstWaiting 22 = .ok (.iload 5, 2) := by decide +kernel
theorem dX1_firstWaiting_24 : decode cX1_firstWaiting 24 = .ok (.aaload, 1) := by decide +kernel
theorem dX1_firstWaiting_25 : decode cX1_firstWaiting 25 = .ok (.astore 6, 2) := by decide +kernel
theorem dX1_firstWaiting_27 : decode cX1_firstWaiting 27 = .ok (.aload 6, 2) := by decide +kernel
theorem dX1_firstWaiting_29 : decode cX1_firstWaiting 29 = .ok (.getfield 102, 3) := by decide +kernel
theorem dX1_firstWaiting_32 : decode cX1_firstWaiting 32 = .ok (.iload_n 1, 1) := by decide +kernel
theorem dX1_firstWaiting_33 : decode cX1_firstWaiting 33 = .ok (.if_icmp .ne 22, 3) := by decide +kernel
theorem dX1_firstWaiting_36 : decode cX1_firstWaiting 36 = .ok (.aload_n 2, 1) := by decide +kernel
theorem dX1_firstWaiting_37 : decode cX1_firstWaiting 37 = .ok (.ifnull 15, 3) := by decide +kernel
theorem dX1_firstWaiting_40 : decode cX1_firstWaiting 40 = .ok (.aload 6, 2) := by decide +kernel
theorem dX1_firstWaiting_42 : decode cX1_firstWaiting 42 = .ok (.getfield 197, 3) := by decide +kernel
theorem dX1_firstWaiting_45 : decode cX1_firstWaiting 45 = .ok (.aload_n 2, 1) := by decide +kernel
theorem dX1_firstWaiting_46 : decode cX1_firstWaiting 46 = .ok (.getfield 197, 3) := by decide +kernel
theorem dX1_firstWaiting_49 : decode cX1_firstWaiting 49 = .ok (.if_icmp .ge 6, 3) := by decide +kernel
theorem dX1_firstWaiting_52 : decode cX1_firstWaiting 52 = .ok (.aload 6, 2) := by decide +kernel
theorem dX1_firstWaiting_54 : decode cX1_firstWaiting 54 = .ok (.astore_n 2, 1) := by decide +kernel
theorem dX1_firstWaiting_55 : decode cX1_firstWaiting 55 = .ok (.iinc 5 1, 3) := by decide +kernel
theorem dX1_firstWaiting_58 : decode cX1_firstWaiting 58 = .ok (.goto (-44), 3) := by decide +kernel
theorem dX1_firstWaiting_61 : decode cX1_firstWaiting 61 = .ok (.aload_n 2, 1) := by decide +kernel
theorem dX1_firstWaiting_62 : decode cX1_firstWaiting 62 = .ok (.areturn, 1) := by decide +kernel
theorem dX1_hangUp_0 : decode cX1_hangUp 0 = .ok (.aload_n 0, 1) := by decide +kernel
theorem dX1_hangUp_1 : decode cX1_hangUp 1 = .ok (.aload_n 1, 1) := by decide +kernel
theorem dX1_hangUp_2 : decode cX1_hangUp 2 = .ok (.invokevirtual 200, 3) := by decide +kernel
theorem dX1_hangUp_5 : decode cX1_hangUp 5 = .ok (.aload_n 0, 1) := by decide +kernel
theorem dX1_hangUp_6 : decode cX1_hangUp 6 = .ok (.getfield 40, 3) := by decide +kernel
theorem dX1_hangUp_9 : decode cX1_hangUp 9 = .ok (.astore_n 2, 1) := by decide +kernel
theorem dX1_hangUp_10 : decode cX1_hangUp 10 = .ok (.aload_n 2, 1) := by decide +kernel
theorem dX1_hangUp_11 : decode cX1_hangUp 11 = .ok (.arraylength, 1) := by decide +kernel
theorem dX1_hangUp_12 : decode cX1_hangUp 12 = .ok (.istore_n 3, 1) := by decide +kernel
theorem dX1_hangUp_13 : decode cX1_hangUp 13 = .ok (.iconst 0, 1) := by decide +kernel
theorem dX1_hangUp_14 : decode cX1_hangUp 14 = .ok (.istore 4, 2) := by decide +kernel
theorem dX1_hangUp_16 : decode cX1_hangUp 16 = .ok (.iload 4, 2) := by decide +kernel
theorem dX1_hangUp_18 : decode cX1_hangUp 18 = .ok (.iload_n 3, 1) := by decide +kernel
theorem dX1_hangUp_19 : decode cX1_hangUp 19 = .ok (.if_icmp .ge 34, 3) := by decide +kernel
theorem dX1_hangUp_22 : decode cX1_hangUp 22 = .ok (.aload_n 2, 1) := by decide +kernel
theorem dX1_hangUp_23 : decode cX1_hangUp 23 = .ok (.iload 4, 2) := by decide +kernel
theorem dX1_hangUp_25 : decode cX1_hangUp 25 = .ok (.aaload, 1) := by decide +kernel
theorem dX1_hangUp_26 : decode cX1_hangUp 26 = .ok (.astore 5, 2) := by decide +kernel
theorem dX1_hangUp_28 : decode cX1_hangUp 28 = .ok (.aload 5, 2) := by decide +kernel
theorem dX1_hangUp_30 : decode cX1_hangUp 30 = .ok (.getfield 203, 3) := by decide +kernel
theorem dX1_hangUp_33 : decode cX1_hangUp 33 = .ok (.aload_n 1, 1) := by decide +kernel
theorem dX1_hangUp_34 : decode cX1_hangUp 34 = .ok (.getfield 130, 3) := by decide +kernel
theorem dX1_hangUp_37 : decode cX1_hangUp 37 = .ok (.if_icmp .ne 10, 3) := by decide +kernel
theorem dX1_hangUp_40 : decode cX1_hangUp 40 = .ok (.aload 5, 2) := by decide +kernel
theorem dX1_hangUp_42 : decode cX1_hangUp 42 = .ok (.iconst (-1), 1) := by decide +kernel
theorem dX1_hangUp_43 : decode cX1_hangUp 43 = .ok (.iconst 0, 1) := by decide +kernel
theorem dX1_hangUp_44 : decode cX1_hangUp 44 = .ok (.invokevirtual 99, 3) := by decide +kernel
theorem dX1_hangUp_47 : decode cX1_hangUp 47 = .ok (.iinc 4 1, 3) := by decide +kernel
theorem dX1_hangUp_50 : decode cX1_hangUp 50 = .ok (.goto (-34), 3) := by decide +kernel
theorem dX1_hangUp_53 : decode cX1_hangUp 53 = .ok (.aload_n 1, 1) := by decide +kernel
theorem dX1_hangUp_54 : decode cX1_hangUp 54 = .ok (.bipush 11, 2) := by decide +kernel
theorem dX1_hangUp_56 : decode cX1_hangUp 56 = .ok (.aload_n 0, 1) := by decide +kernel
theorem dX1_hangUp_57 : decode cX1_hangUp 57 = .ok (.getfield 74, 3) := by decide +kernel
theorem dX1_hangUp_60 : decode cX1_hangUp 60 = .ok (.invokevirtual 204, 3) := by decide +kernel
theorem dX1_hangUp_63 : decode cX1_hangUp 63 = .ok (.return_, 1) := by decide +kernel
theorem dX1_tick_0 : decode cX1_tick 0 = .ok (.aload_n 0, 1) := by decide +kernel
theorem dX1_tick_1 : decode cX1_tick 1 = .ok (.dup, 1) := by decide +kernel
theorem dX1_tick_2 : decode cX1_tick 2 = .ok (.getfield 74, 3) := by decide +kernel
theorem dX1_tick_5 : decode cX1_tick 5 = .ok (.iconst 1, 1) := by decide +kernel
theorem dX1_tick_6 : decode cX1_tick 6 = .ok (.iadd, 1) := by decide +kernel
theorem dX1_tick_7 : decode cX1_tick 7 = .ok (.putfield 74, 3) := by decide +kernel
theorem dX1_tick_10 : decode cX1_tick 10 = .ok (.aload_n 0, 1) := by decide +kernel
theorem dX1_tick_11 : decode cX1_tick 11 = .ok (.invokevirtual 207, 3) := by decide +kernel
theorem dX1_tick_14 : decode cX1_tick 14 = .ok (.aload_n 0, 1) := by decide +kernel
theorem dX1_tick_15 : decode cX1_tick 15 = .ok (.invokevirtual 210, 3) := by decide +kernel
theorem dX1_tick_18 : decode cX1_tick 18 = .ok (.aload_n 0, 1) := by decide +kernel
theorem dX1_tick_19 : decode cX1_tick 19 = .ok (.invokevirtual 213, 3) := by decide +kernel
theorem dX1_tick_22 : decode cX1_tick 22 = .ok (.aload_n 0, 1) := by decide +kernel
theorem dX1_tick_23 : decode cX1_tick 23 = .ok (.invokevirtual 216, 3) := by decide +kernel
theorem dX1_tick_26 : decode cX1_tick 26 = .ok (.aload_n 0, 1) := by decide +kernel
theorem dX1_tick_27 : decode cX1_tick 27 = .ok (.invokevirtual 219, 3) := by decide +kernel
theorem dX1_tick_30 : decode cX1_tick 30 = .ok (.aload_n 0, 1) := by decide +kernel
theorem dX1_tick_31 : decode cX1_tick 31 = .ok (.invokevirtual 222, 3) := by decide +kernel
theorem dX1_tick_34 : decode cX1_tick 34 = .ok (.aload_n 0, 1) := by decide +kernel
theorem dX1_tick_35 : decode cX1_tick 35 = .ok (.invokevirtual 225, 3) := by decide +kernel
theorem dX1_tick_38 : decode cX1_tick 38 = .ok (.return_, 1) := by decide +kernel
theorem dX1_settle_0 : decode cX1_settle 0 = .ok (.iconst 0, 1) := by decide +kernel
theorem dX1_settle_1 : decode cX1_settle 1 = .ok (.istore_n 2, 1) := by decide +kernel
theorem dX1_settle_2 : decode cX1_settle 2 = .ok (.iload_n 2, 1) := by decide +kernel
theorem dX1_settle_3 : decode cX1_settle 3 = .ok (.iload_n 1, 1) := by decide +kernel
theorem dX1_settle_4 : decode cX1_settle 4 = .ok (.if_icmp .ge 20, 3) := by decide +kernel
theorem dX1_settle_7 : decode cX1_settle 7 = .ok (.aload_n 0, 1) := by decide +kernel
theorem dX1_settle_8 : decode cX1_settle 8 = .ok (.invokevirtual 228, 3) := by decide +kernel
theorem dX1_settle_11 : decode cX1_settle 11 = .ok (.ifCond .eq 13, 3) := by decide +kernel
theorem dX1_settle_14 : decode cX1_settle 14 = .ok (.aload_n 0, 1) := by decide +kernel
theorem dX1_settle_15 : decode cX1_settle 15 = .ok (.invokevirtual 232, 3) := by decide +kernel
theorem dX1_settle_18 : decode cX1_settle 18 = .ok (.iinc 2 1, 3) := by decide +kernel
theorem dX1_settle_21 : decode cX1_settle 21 = .ok (.goto (-19), 3) := by decide +kernel
theorem dX1_settle_24 : decode cX1_settle 24 = .ok (.return_, 1) := by decide +kernel
theorem dX1_hasOpenCall_0 : decode cX1_hasOpenCall 0 = .ok (.aload_n 0, 1) := by decide +kernel
theorem dX1_hasOpenCall_1 : decode cX1_hasOpenCall 1 = .ok (.getfield 47, 3) := by decide +kernel
theorem dX1_hasOpenCall_4 : decode cX1_hasOpenCall 4 = .ok (.astore_n 1, 1) := by decide +kernel
theorem dX1_hasOpenCall_5 : decode cX1_hasOpenCall 5 = .ok (.aload_n 1, 1) := by decide +kernel
theorem dX1_hasOpenCall_6 : decode cX1_hasOpenCall 6 = .ok (.arraylength, 1) := by decide +kernel
theorem dX1_hasOpenCall_7 : decode cX1_hasOpenCall 7 = .ok (.istore_n 2, 1) := by decide +kernel
theorem dX1_hasOpenCall_8 : decode cX1_hasOpenCall 8 = .ok (.iconst 0, 1) := by decide +kernel
theorem dX1_hasOpenCall_9 : decode cX1_hasOpenCall 9 = .ok (.istore_n 3, 1) := by decide +kernel
theorem dX1_hasOpenCall_10 : decode cX1_hasOpenCall 10 = .ok (.iload_n 3, 1) := by decide +kernel
theorem dX1_hasOpenCall_11 : decode cX1_hasOpenCall 11 = .ok (.iload_n 2, 1) := by decide +kernel
theorem dX1_hasOpenCall_12 : decode cX1_hasOpenCall 12 = .ok (.if_icmp .ge 33, 3) := by decide +kernel
theorem dX1_hasOpenCall_15 : decode cX1_hasOpenCall 15 = .ok (.aload_n 1, 1) := by decide +kernel
theorem dX1_hasOpenCall_16 : decode cX1_hasOpenCall 16 = .ok (.iload_n 3, 1) := by decide +kernel
theorem dX1_hasOpenCall_17 : decode cX1_hasOpenCall 17 = .ok (.aaload, 1) := by decide +kernel
theorem dX1_hasOpenCall_18 : decode cX1_hasOpenCall 18 = .ok (.astore 4, 2) := by decide +kernel
theorem dX1_hasOpenCall_20 : decode cX1_hasOpenCall 20 = .ok (.aload 4, 2) := by decide +kernel
theorem dX1_hasOpenCall_22 : decode cX1_hasOpenCall 22 = .ok (.getfield 102, 3) := by decide +kernel
theorem dX1_hasOpenCall_25 : decode cX1_hasOpenCall 25 = .ok (.ifCond .lt 14, 3) := by decide +kernel
theorem dX1_hasOpenCall_28 : decode cX1_hasOpenCall 28 = .ok (.aload 4, 2) := by decide +kernel
theorem dX1_hasOpenCall_30 : decode cX1_hasOpenCall 30 = .ok (.getfield 102, 3) := by decide +kernel
theorem dX1_hasOpenCall_33 : decode cX1_hasOpenCall 33 = .ok (.iconst 5, 1) := by decide +kernel
theorem dX1_hasOpenCall_34 : decode cX1_hasOpenCall 34 = .ok (.if_icmp .gt 5, 3) := by decide +kernel
theorem dX1_hasOpenCall_37 : decode cX1_hasOpenCall 37 = .ok (.iconst 1, 1) := by decide +kernel
theorem dX1_hasOpenCall_38 : decode cX1_hasOpenCall 38 = .ok (.ireturn, 1) := by decide +kernel
theorem dX1_hasOpenCall_39 : decode cX1_hasOpenCall 39 = .ok (.iinc 3 1, 3) := by decide +kernel
theorem dX1_hasOpenCall_42 : decode cX1_hasOpenCall 42 = .ok (.goto (-32), 3) := by decide +kernel
theorem dX1_hasOpenCall_45 : decode cX1_hasOpenCall 45 = .ok (.iconst 0, 1) := by decide +kernel
theorem dX1_hasOpenCall_46 : decode cX1_hasOpenCall 46 = .ok (.ireturn, 1) := by decide +kernel
theorem dX1_letCallsCome_0 : decode cX1_letCallsCome 0 = .ok (.aload_n 0, 1) := by decide +kernel
theorem dX1_letCallsCome_1 : decode cX1_letCallsCome 1 = .ok (.iconst 1, 1) := by decide +kernel
theorem dX1_letCallsCome_2 : decode cX1_letCallsCome 2 = .ok (.invokevirtual 235, 3) := by decide +kernel
theorem dX1_letCallsCome_5 : decode cX1_letCallsCome 5 = .ok (.istore_n 1, 1) := by decide +kernel
theorem dX1_letCallsCome_6 : decode cX1_letCallsCome 6 = .ok (.aload_n 0, 1) := by decide +kernel
theorem dX1_letCallsCome_7 : decode cX1_letCallsCome 7 = .ok (.getfield 47, 3) := by decide +kernel
theorem dX1_letCallsCome_10 : decode cX1_letCallsCome 10 = .ok (.astore_n 2, 1) := by decide +kernel
theorem dX1_letCallsCome_11 : decode cX1_letCallsCome 11 = .ok (.aload_n 2, 1) := by decide +kernel
theorem dX1_letCallsCome_12 : decode cX1_letCallsCome 12 = .ok (.arraylength, 1) := by decide +kernel
theorem dX1_letCallsCome_13 : decode cX1_letCallsCome 13 = .ok (.istore_n 3, 1) := by decide +kernel
theorem dX1_letCallsCome_14 : decode cX1_letCallsCome 14 = .ok (.iconst 0, 1) := by decide +kernel
theorem dX1_letCallsCome_15 : decode cX1_letCallsCome 15 = .ok (.istore 4, 2) := by decide +kernel
theorem dX1_letCallsCome_17 : decode cX1_letCallsCome 17 = .ok (.iload 4, 2) := by decide +kernel
theorem dX1_letCallsCome_19 : decode cX1_letCallsCome 19 = .ok (.iload_n 3, 1) := by decide +kernel
theorem dX1_letCallsCome_20 : decode cX1_letCallsCome 20 = .ok (.if_icmp .ge 118, 3) := by decide +kernel
theorem dX1_letCallsCome_23 : decode cX1_letCallsCome 23 = .ok (.aload_n 2, 1) := by decide +kernel
theorem dX1_letCallsCome_24 : decode cX1_letCallsCome 24 = .ok (.iload 4, 2) := by decide +kernel
theorem dX1_letCallsCome_26 : decode cX1_letCallsCome 26 = .ok (.aaload, 1) := by decide +kernel
theorem dX1_letCallsCome_27 : decode cX1_letCallsCome 27 = .ok (.astore 5, 2) := by decide +kernel
theorem dX1_letCallsCome_29 : decode cX1_letCallsCome 29 = .ok (.aload 5, 2) := by decide +kernel
theorem dX1_letCallsCome_31 : decode cX1_letCallsCome 31 = .ok (.getfield 102, 3) := by decide +kernel
theorem dX1_letCallsCome_34 : decode cX1_letCallsCome 34 = .ok (.ifCond .ne 98, 3) := by decide +kernel
theorem dX1_letCallsCome_37 : decode cX1_letCallsCome 37 = .ok (.aload 5, 2) := by decide +kernel
theorem dX1_letCallsCome_39 : decode cX1_letCallsCome 39 = .ok (.getfield 238, 3) := by decide +kernel
theorem dX1_letCallsCome_42 : decode cX1_letCallsCome 42 = .ok (.aload_n 0, 1) := by decide +kernel
theorem dX1_letCallsCome_43 : decode cX1_letCallsCome 43 = .ok (.getfield 74, 3) := by decide +kernel
theorem dX1_letCallsCome_46 : decode cX1_letCallsCome 46 = .ok (.if_icmp .ne 86, 3) := by decide +kernel
theorem dX1_letCallsCome_49 : decode cX1_letCallsCome 49 = .ok (.aload 5, 2) := by decide +kernel
theorem dX1_letCallsCome_51 : decode cX1_letCallsCome 51 = .ok (.iconst 1, 1) := by decide +kernel
theorem dX1_letCallsCome_52 : decode cX1_letCallsCome 52 = .ok (.putfield 184, 3) := by decide +kernel
theorem dX1_letCallsCome_55 : decode cX1_letCallsCome 55 = .ok (.iload_n 1, 1) := by decide +kernel
theorem dX1_letCallsCome_56 : decode cX1_letCallsCome 56 = .ok (.aload_n 0, 1) := by decide +kernel
theorem dX1_letCallsCome_57 : decode cX1_letCallsCome 57 = .ok (.getfield 77, 3) := by decide +kernel
theorem dX1_letCallsCome_60 : decode cX1_letCallsCome 60 = .ok (.if_icmp .lt 7, 3) := by decide +kernel
theorem dX1_letCallsCome_63 : decode cX1_letCallsCome 63 = .ok (.iconst 1, 1) := by decide +kernel
theorem dX1_letCallsCome_64 : decode cX1_letCallsCome 64 = .ok (.goto 4, 3) := by decide +kernel
theorem dX1_letCallsCome_67 : decode cX1_letCallsCome 67 = .ok (.iconst 0, 1) := by decide +kernel
theorem dX1_letCallsCome_68 : decode cX1_letCallsCome 68 = .ok (.istore 6, 2) := by decide +kernel
theorem dX1_letCallsCome_70 : decode cX1_letCallsCome 70 = .ok (.aload_n 0, 1) := by decide +kernel
theorem dX1_letCallsCome_71 : decode cX1_letCallsCome 71 = .ok (.aload_n 0, 1) := by decide +kernel
theorem dX1_letCallsCome_72 : decode cX1_letCallsCome 72 = .ok (.getfield 92, 3) := by decide +kernel
theorem dX1_letCallsCome_75 : decode cX1_letCallsCome 75 = .ok (.ifCond .ne 8, 3) := by decide +kernel
theorem dX1_letCallsCome_78 : decode cX1_letCallsCome 78 = .ok (.iload 6, 2) := by decide +kernel
theorem dX1_letCallsCome_80 : decode cX1_letCallsCome 80 = .ok (.ifCond .eq 7, 3) := by decide +kernel
theorem dX1_letCallsCome_83 : decode cX1_letCallsCome 83 = .ok (.iconst 1, 1) := by decide +kernel
theorem dX1_letCallsCome_84 : decode cX1_letCallsCome 84 = .ok (.goto 4, 3) := by decide +kernel
theorem dX1_letCallsCome_87 : decode cX1_letCallsCome 87 = .ok (.iconst 0, 1) := by decide +kernel
theorem dX1_letCallsCome_88 : decode cX1_letCallsCome 88 = .ok (.putfield 92, 3) := by decide +kernel
theorem dX1_letCallsCome_91 : decode cX1_letCallsCome 91 = .ok (.iload 6, 2) := by decide +kernel
theorem dX1_letCallsCome_93 : decode cX1_letCallsCome 93 = .ok (.ifCond .ne 15, 3) := by decide +kernel
theorem dX1_letCallsCome_96 : decode cX1_letCallsCome 96 = .ok (.aload_n 0, 1) := by decide +kernel
theorem dX1_letCallsCome_97 : decode cX1_letCallsCome 97 = .ok (.aload 5, 2) := by decide +kernel
theorem dX1_letCallsCome_99 : decode cX1_letCallsCome 99 = .ok (.getfield 169, 3) := by decide +kernel
theorem dX1_letCallsCome_102 : decode cX1_letCallsCome 102 = .ok (.invokevirtual 181, 3) := by decide +kernel
theorem dX1_letCallsCome_105 : decode cX1_letCallsCome 105 = .ok (.ifCond .eq 17, 3) := by decide +kernel
theorem dX1_letCallsCome_108 : decode cX1_letCallsCome 108 = .ok (.aload 5, 2) := by decide +kernel
theorem dX1_letCallsCome_110 : decode cX1_letCallsCome 110 = .ok (.bipush 10, 2) := by decide +kernel
theorem dX1_letCallsCome_112 : decode cX1_letCallsCome 112 = .ok (.aload_n 0, 1) := by decide +kernel
theorem dX1_letCallsCome_113 : decode cX1_letCallsCome 113 = .ok (.getfield 74, 3) := by decide +kernel
theorem dX1_letCallsCome_116 : decode cX1_letCallsCome 116 = .ok (.invokevirtual 204, 3) := by decide +kernel
theorem dX1_letCallsCome_119 : decode cX1_letCallsCome 119 = .ok (.goto 13, 3) := by decide +kernel
theorem dX1_letCallsCome_122 : decode cX1_letCallsCome 122 = .ok (.aload_n 0, 1) := by decide +kernel
theorem dX1_letCallsCome_123 : decode cX1_letCallsCome 123 = .ok (.aload 5, 2) := by decide +kernel
theorem dX1_letCallsCome_125 : decode cX1_letCallsCome 125 = .ok (.iconst 1, 1) := by decide +kernel
theorem dX1_letCallsCome_126 : decode cX1_letCallsCome 126 = .ok (.invokevirtual 241, 3) := by decide +kernel
theorem dX1_letCallsCome_129 : decode cX1_letCallsCome 129 = .ok (.iinc 1 1, 3) := by decide +kernel
theorem dX1_letCallsCome_132 : decode cX1_letCallsCome 132 = .ok (.iinc 4 1, 3) := by decide +kernel
theorem dX1_letCallsCome_135 : decode cX1_letCallsCome 135 = .ok (.goto (-118), 3) := by decide +kernel
theorem dX1_letCallsCome_138 : decode cX1_letCallsCome 138 = .ok (.return_, 1) := by decide +kernel
theorem dX1_queueUp_0 : decode cX1_queueUp 0 = .ok (.aload_n 0, 1) := by decide +kernel
theorem dX1_queueUp_1 : decode cX1_queueUp 1 = .ok (.dup, 1) := by decide +kernel
theorem dX1_queueUp_2 : decode cX1_queueUp 2 = .ok (.getfield 89, 3) := by decide +kernel
theorem dX1_queueUp_5 : decode cX1_queueUp 5 = .ok (.iconst 1, 1) := by decide +kernel
theorem dX1_queueUp_6 : decode cX1_queueUp 6 = .ok (.iadd, 1) := by decide +kernel
theorem dX1_queueUp_7 : decode cX1_queueUp 7 = .ok (.putfield 89, 3) := by decide +kernel
theorem dX1_queueUp_10 : decode cX1_queueUp 10 = .ok (.aload_n 1, 1) := by decide +kernel
theorem dX1_queueUp_11 : decode cX1_queueUp 11 = .ok (.aload_n 0, 1) := by decide +kernel
theorem dX1_queueUp_12 : decode cX1_queueUp 12 = .ok (.getfield 89, 3) := by decide +kernel
theorem dX1_queueUp_15 : decode cX1_queueUp 15 = .ok (.putfield 197, 3) := by decide +kernel
theorem dX1_queueUp_18 : decode cX1_queueUp 18 = .ok (.aload_n 1, 1) := by decide +kernel
theorem dX1_queueUp_19 : decode cX1_queueUp 19 = .ok (.iload_n 2, 1) := by decide +kernel
theorem dX1_queueUp_20 : decode cX1_queueUp 20 = .ok (.putfield 102, 3) := by decide +kernel
theorem dX1_queueUp_23 : decode cX1_queueUp 23 = .ok (.return_, 1) := by decide +kernel
theorem dX1_letCallsTalk_0 : decode cX1_letCallsTalk 0 = .ok (.aload_n 0, 1) := by decide +kernel
theorem dX1_letCallsTalk_1 : decode cX1_letCallsTalk 1 = .ok (.getfield 47, 3) := by decide +kernel
theorem dX1_letCallsTalk_4 : decode cX1_letCallsTalk 4 = .ok (.astore_n 1, 1) := by decide +kernel
theorem dX1_letCallsTalk_5 : decode cX1_letCallsTalk 5 = .ok (.aload_n 1, 1) := by decide +kernel
theorem dX1_letCallsTalk_6 : decode cX1_letCallsTalk 6 = .ok (.arraylength, 1) := by decide +kernel
theorem dX1_letCallsTalk_7 : decode cX1_letCallsTalk 7 = .ok (.istore_n 2, 1) := by decide +kernel
theorem dX1_letCallsTalk_8 : decode cX1_letCallsTalk 8 = .ok (.iconst 0, 1) := by decide +kernel
theorem dX1_letCallsTalk_9 : decode cX1_letCallsTalk 9 = .ok (.istore_n 3, 1) := by decide +kernel
theorem dX1_letCallsTalk_10 : decode cX1_letCallsTalk 10 = .ok (.iload_n 3, 1) := by decide +kernel
theorem dX1_letCallsTalk_11 : decode cX1_letCallsTalk 11 = .ok (.iload_n 2, 1) := by decide +kernel
theorem dX1_letCallsTalk_12 : decode cX1_letCallsTalk 12 = .ok (.if_icmp .ge 53, 3) := by decide +kernel
theorem dX1_letCallsTalk_15 : decode cX1_letCallsTalk 15 = .ok (.aload_n 1, 1) := by decide +kernel
theorem dX1_letCallsTalk_16 : decode cX1_letCallsTalk 16 = .ok (.iload_n 3, 1) := by decide +kernel
theorem dX1_letCallsTalk_17 : decode cX1_letCallsTalk 17 = .ok (.aaload, 1) := by decide +kernel
theorem dX1_letCallsTalk_18 : decode cX1_letCallsTalk 18 = .ok (.astore 4, 2) := by decide +kernel
theorem dX1_letCallsTalk_20 : decode cX1_letCallsTalk 20 = .ok (.aload 4, 2) := by decide +kernel
theorem dX1_letCallsTalk_22 : decode cX1_letCallsTalk 22 = .ok (.getfield 102, 3) := by decide +kernel
theorem dX1_letCallsTalk_25 : decode cX1_letCallsTalk 25 = .ok (.iconst 5, 1) := by decide +kernel
theorem dX1_letCallsTalk_26 : decode cX1_letCallsTalk 26 = .ok (.if_icmp .ne 33, 3) := by decide +kernel
theorem dX1_letCallsTalk_29 : decode cX1_letCallsTalk 29 = .ok (.aload 4, 2) := by decide +kernel
theorem dX1_letCallsTalk_31 : decode cX1_letCallsTalk 31 = .ok (.dup, 1) := by decide +kernel
theorem dX1_letCallsTalk_32 : decode cX1_letCallsTalk 32 = .ok (.getfield 245, 3) := by decide +kernel
theorem dX1_letCallsTalk_35 : decode cX1_letCallsTalk 35 = .ok (.iconst 1, 1) := by decide +kernel
theorem dX1_letCallsTalk_36 : decode cX1_letCallsTalk 36 = .ok (.isub, 1) := by decide +kernel
theorem dX1_letCallsTalk_37 : decode cX1_letCallsTalk 37 = .ok (.putfield 245, 3) := by decide +kernel
theorem dX1_letCallsTalk_40 : decode cX1_letCallsTalk 40 = .ok (.aload 4, 2) := by decide +kernel
theorem dX1_letCallsTalk_42 : decode cX1_letCallsTalk 42 = .ok (.getfield 245, 3) := by decide +kernel
theorem dX1_letCallsTalk_45 : decode cX1_letCallsTalk 45 = .ok (.ifCond .gt 14, 3) := by decide +kernel
theorem dX1_letCallsTalk_48 : decode cX1_letCallsTalk 48 = .ok (.aload 4, 2) := by decide +kernel
theorem dX1_letCallsTalk_50 : decode cX1_letCallsTalk 50 = .ok (.bipush 6, 2) := by decide +kernel
theorem dX1_letCallsTalk_52 : decode cX1_letCallsTalk 52 = .ok (.aload_n 0, 1) := by decide +kernel
theorem dX1_letCallsTalk_53 : decode cX1_letCallsTalk 53 = .ok (.getfield 74, 3) := by decide +kernel
theorem dX1_letCallsTalk_56 : decode cX1_letCallsTalk 56 = .ok (.invokevirtual 204, 3) := by decide +kernel
theorem dX1_letCallsTalk_59 : decode cX1_letCallsTalk 59 = .ok (.iinc 3 1, 3) := by decide +kernel
theorem dX1_letCallsTalk_62 : decode cX1_letCallsTalk 62 = .ok (.goto (-52), 3) := by decide +kernel
theorem dX1_letCallsTalk_65 : decode cX1_letCallsTalk 65 = .ok (.return_, 1) := by decide +kernel
theorem dX1_letMarkersWork_0 : decode cX1_letMarkersWork 0 = .ok (.aload_n 0, 1) := by decide +kernel
theorem dX1_letMarkersWork_1 : decode cX1_letMarkersWork 1 = .ok (.getfield 40, 3) := by decide +kernel
theorem dX1_letMarkersWork_4 : decode cX1_letMarkersWork 4 = .ok (.astore_n 1, 1) := by decide +kernel
theorem dX1_letMarkersWork_5 : decode cX1_letMarkersWork 5 = .ok (.aload_n 1, 1) := by decide +kernel
theorem dX1_letMarkersWork_6 : decode cX1_letMarkersWork 6 = .ok (.arraylength, 1) := by decide +kernel
theorem dX1_letMarkersWork_7 : decode cX1_letMarkersWork 7 = .ok (.istore_n 2, 1) := by decide +kernel
theorem dX1_letMarkersWork_8 : decode cX1_letMarkersWork 8 = .ok (.iconst 0, 1) := by decide +kernel
theorem dX1_letMarkersWork_9 : decode cX1_letMarkersWork 9 = .ok (.istore_n 3, 1) := by decide +kernel
theorem dX1_letMarkersWork_10 : decode cX1_letMarkersWork 10 = .ok (.iload_n 3, 1) := by decide +kernel
theorem dX1_letMarkersWork_11 : decode cX1_letMarkersWork 11 = .ok (.iload_n 2, 1) := by decide +kernel
theorem dX1_letMarkersWork_12 : decode cX1_letMarkersWork 12 = .ok (.if_icmp .ge 62, 3) := by decide +kernel
theorem dX1_letMarkersWork_15 : decode cX1_letMarkersWork 15 = .ok (.aload_n 1, 1) := by decide +kernel
theorem dX1_letMarkersWork_16 : decode cX1_letMarkersWork 16 = .ok (.iload_n 3, 1) := by decide +kernel
theorem dX1_letMarkersWork_17 : decode cX1_letMarkersWork 17 = .ok (.aaload, 1) := by decide +kernel
theorem dX1_letMarkersWork_18 : decode cX1_letMarkersWork 18 = .ok (.astore 4, 2) := by decide +kernel
theorem dX1_letMarkersWork_20 : decode cX1_letMarkersWork 20 = .ok (.aload_n 0, 1) := by decide +kernel
theorem dX1_letMarkersWork_21 : decode cX1_letMarkersWork 21 = .ok (.aload 4, 2) := by decide +kernel
theorem dX1_letMarkersWork_23 : decode cX1_letMarkersWork 23 = .ok (.getfield 203, 3) := by decide +kernel
theorem dX1_letMarkersWork_26 : decode cX1_letMarkersWork 26 = .ok (.invokevirtual 248, 3) := by decide +kernel
theorem dX1_letMarkersWork_29 : decode cX1_letMarkersWork 29 = .ok (.astore 5, 2) := by decide +kernel
theorem dX1_letMarkersWork_31 : decode cX1_letMarkersWork 31 = .ok (.aload 5, 2) := by decide +kernel
theorem dX1_letMarkersWork_33 : decode cX1_letMarkersWork 33 = .ok (.ifnull 35, 3) := by decide +kernel
theorem dX1_letMarkersWork_36 : decode cX1_letMarkersWork 36 = .ok (.aload 4, 2) := by decide +kernel
theorem dX1_letMarkersWork_38 : decode cX1_letMarkersWork 38 = .ok (.dup, 1) := by decide +kernel
theorem dX1_letMarkersWork_39 : decode cX1_letMarkersWork 39 = .ok (.getfield 252, 3) := by decide +kernel
theorem dX1_letMarkersWork_42 : decode cX1_letMarkersWork 42 = .ok (.iconst 1, 1) := by decide +kernel
theorem dX1_letMarkersWork_43 : decode cX1_letMarkersWork 43 = .ok (.isub, 1) := by decide +kernel
theorem dX1_letMarkersWork_44 : decode cX1_letMarkersWork 44 = .ok (.putfield 252, 3) := by decide +kernel
theorem dX1_letMarkersWork_47 : decode cX1_letMarkersWork 47 = .ok (.aload 4, 2) := by decide +kernel
theorem dX1_letMarkersWork_49 : decode cX1_letMarkersWork 49 = .ok (.getfield 252, 3) := by decide +kernel
theorem dX1_letMarkersWork_52 : decode cX1_letMarkersWork 52 = .ok (.ifCond .gt 16, 3) := by decide +kernel
theorem dX1_letMarkersWork_55 : decode cX1_letMarkersWork 55 = .ok (.aload 4, 2) := by decide +kernel
theorem dX1_letMarkersWork_57 : decode cX1_letMarkersWork 57 = .ok (.iconst (-1), 1) := by decide +kernel
theorem dX1_letMarkersWork_58 : decode cX1_letMarkersWork 58 = .ok (.iconst 0, 1) := by decide +kernel
theorem dX1_letMarkersWork_59 : decode cX1_letMarkersWork 59 = .ok (.invokevirtual 99, 3) := by decide +kernel
theorem dX1_letMarkersWork_62 : decode cX1_letMarkersWork 62 = .ok (.aload_n 0, 1) := by decide +kernel
theorem dX1_letMarkersWork_63 : decode cX1_letMarkersWork 63 = .ok (.aload 5, 2) := by decide +kernel
theorem dX1_letMarkersWork_65 : decode cX1_letMarkersWork 65 = .ok (.invokevirtual 253, 3) := by decide +kernel
theorem dX1_letMarkersWork_68 : decode cX1_letMarkersWork 68 = .ok (.iinc 3 1, 3) := by decide +kernel
theorem dX1_letMarkersWork_71 : decode cX1_letMarkersWork 71 = .ok (.goto (-61), 3) := by decide +kernel
theorem dX1_letMarkersWork_74 : decode cX1_letMarkersWork 74 = .ok (.return_, 1) := by decide +kernel
theorem dX1_findWay_0 : decode cX1_findWay 0 = .ok (.aload_n 0, 1) := by decide +kernel
theorem dX1_findWay_1 : decode cX1_findWay 1 = .ok (.aload_n 1, 1) := by decide +kernel
theorem dX1_findWay_2 : decode cX1_findWay 2 = .ok (.invokevirtual 256, 3) := by decide +kernel
theorem dX1_findWay_5 : decode cX1_findWay 5 = .ok (.istore_n 2, 1) := by decide +kernel
theorem dX1_findWay_6 : decode cX1_findWay 6 = .ok (.aload_n 0, 1) := by decide +kernel
theorem dX1_findWay_7 : decode cX1_findWay 7 = .ok (.aload_n 1, 1) := by decide +kernel
theorem dX1_findWay_8 : decode cX1_findWay 8 = .ok (.invokevirtual 200, 3) := by decide +kernel
theorem dX1_findWay_11 : decode cX1_findWay 11 = .ok (.aload_n 0, 1) := by decide +kernel
theorem dX1_findWay_12 : decode cX1_findWay 12 = .ok (.iload_n 2, 1) := by decide +kernel
theorem dX1_findWay_13 : decode cX1_findWay 13 = .ok (.invokevirtual 146, 3) := by decide +kernel
theorem dX1_findWay_16 : decode cX1_findWay 16 = .ok (.istore_n 3, 1) := by decide +kernel
theorem dX1_findWay_17 : decode cX1_findWay 17 = .ok (.aload_n 0, 1) := by decide +kernel
theorem dX1_findWay_18 : decode cX1_findWay 18 = .ok (.iload_n 2, 1) := by decide +kernel
theorem dX1_findWay_19 : decode cX1_findWay 19 = .ok (.invokevirtual 142, 3) := by decide +kernel
theorem dX1_findWay_22 : decode cX1_findWay 22 = .ok (.astore 4, 2) := by decide +kernel
theorem dX1_findWay_24 : decode cX1_findWay 24 = .ok (.iload_n 3, 1) := by decide +kernel
theorem dX1_findWay_25 : decode cX1_findWay 25 = .ok (.iconst (-1), 1) := by decide +kernel
theorem dX1_findWay_26 : decode cX1_findWay 26 = .ok (.if_icmp .eq 24, 3) := by decide +kernel
theorem dX1_findWay_29 : decode cX1_findWay 29 = .ok (.aload_n 0, 1) := by decide +kernel
theorem dX1_findWay_30 : decode cX1_findWay 30 = .ok (.iload_n 3, 1) := by decide +kernel
theorem dX1_findWay_31 : decode cX1_findWay 31 = .ok (.invokevirtual 181, 3) := by decide +kernel
theorem dX1_findWay_34 : decode cX1_findWay 34 = .ok (.ifCond .eq 16, 3) := by decide +kernel
theorem dX1_findWay_37 : decode cX1_findWay 37 = .ok (.aload_n 1, 1) := by decide +kernel
theorem dX1_findWay_38 : decode cX1_findWay 38 = .ok (.bipush 7, 2) := by decide +kernel
theorem dX1_findWay_40 : decode cX1_findWay 40 = .ok (.aload_n 0, 1) := by decide +kernel
theorem dX1_findWay_41 : decode cX1_findWay 41 = .ok (.getfield 74, 3) := by decide +kernel
theorem dX1_findWay_44 : decode cX1_findWay 44 = .ok (.invokevirtual 204, 3) := by decide +kernel
theorem dX1_findWay_47 : decode cX1_findWay 47 = .ok (.goto 55, 3) := by decide +kernel
theorem dX1_findWay_50 : decode cX1_findWay 50 = .ok (.iload_n 3, 1) := by decide +kernel
theorem dX1_findWay_51 : decode cX1_findWay 51 = .ok (.iconst (-1), 1) := by decide +kernel
theorem dX1_findWay_52 : decode cX1_findWay 52 = .ok (.if_icmp .eq 19, 3) := by decide +kernel
theorem dX1_findWay_55 : decode cX1_findWay 55 = .ok (.aload_n 1, 1) := by decide +kernel
theorem dX1_findWay_56 : decode cX1_findWay 56 = .ok (.iload_n 3, 1) := by decide +kernel
theorem dX1_findWay_57 : decode cX1_findWay 57 = .ok (.putfield 172, 3) := by decide +kernel
theorem dX1_findWay_60 : decode cX1_findWay 60 = .ok (.aload_n 1, 1) := by decide +kernel
theorem dX1_findWay_61 : decode cX1_findWay 61 = .ok (.aload_n 0, 1) := by decide +kernel
theorem dX1_findWay_62 : decode cX1_findWay 62 = .ok (.getfield 74, 3) := by decide +kernel
theorem dX1_findWay_65 : decode cX1_findWay 65 = .ok (.invokevirtual 260, 3) := by decide +kernel
theorem dX1_findWay_68 : decode cX1_findWay 68 = .ok (.goto 34, 3) := by decide +kernel
theorem dX1_findWay_71 : decode cX1_findWay 71 = .ok (.aload 4, 2) := by decide +kernel
theorem dX1_findWay_73 : decode cX1_findWay 73 = .ok (.ifnull 19, 3) := by decide +kernel
theorem dX1_findWay_76 : decode cX1_findWay 76 = .ok (.aload_n 0, 1) := by decide +kernel
theorem dX1_findWay_77 : decode cX1_findWay 77 = .ok (.aload_n 1, 1) := by decide +kernel
theorem dX1_findWay_78 : decode cX1_findWay 78 = .ok (.aload 4, 2) := by decide +kernel
theorem dX1_findWay_80 : decode cX1_findWay 80 = .ok (.aload_n 0, 1) := by decide +kernel
theorem dX1_findWay_81 : decode cX1_findWay 81 = .ok (.aload 4, 2) := by decide +kernel
theorem dX1_findWay_83 : decode cX1_findWay 83 = .ok (.invokevirtual 162, 3) := by decide +kernel
theorem dX1_findWay_86 : decode cX1_findWay 86 = .ok (.invokevirtual 263, 3) := by decide +kernel
theorem dX1_findWay_89 : decode cX1_findWay 89 = .ok (.goto 13, 3) := by decide +kernel
theorem dX1_findWay_92 : decode cX1_findWay 92 = .ok (.aload_n 1, 1) := by decide +kernel
theorem dX1_findWay_93 : decode cX1_findWay 93 = .ok (.bipush 8, 2) := by decide +kernel
theorem dX1_findWay_95 : decode cX1_findWay 95 = .ok (.aload_n 0, 1) := by decide +kernel
theorem dX1_findWay_96 : decode cX1_findWay 96 = .ok (.getfield 74, 3) := by decide +kernel
theorem dX1_findWay_99 : decode cX1_findWay 99 = .ok (.invokevirtual 204, 3) := by decide +kernel
theorem dX1_findWay_102 : decode cX1_findWay 102 = .ok (.return_, 1) := by decide +kernel
theorem dX1_dialledBy_0 : decode cX1_dialledBy 0 = .ok (.aload_n 0, 1) := by decide +kernel
theorem dX1_dialledBy_1 : decode cX1_dialledBy 1 = .ok (.aload_n 0, 1) := by decide +kernel
theorem dX1_dialledBy_2 : decode cX1_dialledBy 2 = .ok (.aload_n 1, 1) := by decide +kernel
theorem dX1_dialledBy_3 : decode cX1_dialledBy 3 = .ok (.getfield 130, 3) := by decide +kernel
theorem dX1_dialledBy_6 : decode cX1_dialledBy 6 = .ok (.invokevirtual 267, 3) := by decide +kernel
theorem dX1_dialledBy_9 : decode cX1_dialledBy 9 = .ok (.invokevirtual 270, 3) := by decide +kernel
theorem dX1_dialledBy_12 : decode cX1_dialledBy 12 = .ok (.astore_n 2, 1) := by decide +kernel
theorem dX1_dialledBy_13 : decode cX1_dialledBy 13 = .ok (.aload_n 2, 1) := by decide +kernel
theorem dX1_dialledBy_14 : decode cX1_dialledBy 14 = .ok (.ifnonnull 7, 3) := by decide +kernel
theorem dX1_dialledBy_17 : decode cX1_dialledBy 17 = .ok (.iconst 1, 1) := by decide +kernel
theorem dX1_dialledBy_18 : decode cX1_dialledBy 18 = .ok (.goto 7, 3) := by decide +kernel
theorem dX1_dialledBy_21 : decode cX1_dialledBy 21 = .ok (.aload_n 2, 1) := by decide +kernel
theorem dX1_dialledBy_22 : decode cX1_dialledBy 22 = .ok (.getfield 274, 3) := by decide +kernel
theorem dX1_dialledBy_25 : decode cX1_dialledBy 25 = .ok (.ireturn, 1) := by decide +kernel
theorem dX1_freeRegisterOf_0 : decode cX1_freeRegisterOf 0 = .ok (.aload_n 0, 1) := by decide +kernel
theorem dX1_freeRegisterOf_1 : decode cX1_freeRegisterOf 1 = .ok (.aload_n 0, 1) := by decide +kernel
theorem dX1_freeRegisterOf_2 : decode cX1_freeRegisterOf 2 = .ok (.aload_n 1, 1) := by decide +kernel
theorem dX1_freeRegisterOf_3 : decode cX1_freeRegisterOf 3 = .ok (.getfield 130, 3) := by decide +kernel
theorem dX1_freeRegisterOf_6 : decode cX1_freeRegisterOf 6 = .ok (.invokevirtual 267, 3) := by decide +kernel
theorem dX1_freeRegisterOf_9 : decode cX1_freeRegisterOf 9 = .ok (.invokevirtual 270, 3) := by decide +kernel
theorem dX1_freeRegisterOf_12 : decode cX1_freeRegisterOf 12 = .ok (.astore_n 2, 1) := by decide +kernel
theorem dX1_freeRegisterOf_13 : decode cX1_freeRegisterOf 13 = .ok (.aload_n 2, 1) := by decide +kernel
theorem dX1_freeRegisterOf_14 : decode cX1_freeRegisterOf 14 = .ok (.ifnull 8, 3) := by decide +kernel
theorem dX1_freeRegisterOf_17 : decode cX1_freeRegisterOf 17 = .ok (.aload_n 2, 1) := by decide +kernel
theorem dX1_freeRegisterOf_18 : decode cX1_freeRegisterOf 18 = .ok (.iconst (-1), 1) := by decide +kernel
theorem dX1_freeRegisterOf_19 : decode cX1_freeRegisterOf 19 = .ok (.invokevirtual 96, 3) := by decide +kernel
theorem dX1_freeRegisterOf_22 : decode cX1_freeRegisterOf 22 = .ok (.return_, 1) := by decide +kernel
theorem dX1_takeTrunk_0 : decode cX1_takeTrunk 0 = .ok (.iload_n 3, 1) := by decide +kernel
theorem dX1_takeTrunk_1 : decode cX1_takeTrunk 1 = .ok (.iconst (-1), 1) := by decide +kernel
theorem dX1_takeTrunk_2 : decode cX1_takeTrunk 2 = .ok (.if_icmp .ne 10, 3) := by decide +kernel
theorem dX1_takeTrunk_5 : decode cX1_takeTrunk 5 = .ok (.aload_n 2, 1) := by decide +kernel
theorem dX1_takeTrunk_6 : decode cX1_takeTrunk 6 = .ok (.getfield 277, 3) := by decide +kernel
theorem dX1_takeTrunk_9 : decode cX1_takeTrunk 9 = .ok (.goto 4, 3) := by decide +kernel
theorem dX1_takeTrunk_12 : decode cX1_takeTrunk 12 = .ok (.iload_n 3, 1) := by decide +kernel
theorem dX1_takeTrunk_13 : decode cX1_takeTrunk 13 = .ok (.istore 4, 2) := by decide +kernel
theorem dX1_takeTrunk_15 : decode cX1_takeTrunk 15 = .ok (.iconst 0, 1) := by decide +kernel
theorem dX1_takeTrunk_16 : decode cX1_takeTrunk 16 = .ok (.istore 5, 2) := by decide +kernel
theorem dX1_takeTrunk_18 : decode cX1_takeTrunk 18 = .ok (.iload 5, 2) := by decide +kernel
theorem dX1_takeTrunk_20 : decode cX1_takeTrunk 20 = .ok (.iload 4, 2) := by decide +kernel
theorem dX1_takeTrunk_22 : decode cX1_takeTrunk 22 = .ok (.if_icmp .ge 37, 3) := by decide +kernel
theorem dX1_takeTrunk_25 : decode cX1_takeTrunk 25 = .ok (.aload_n 0, 1) := by decide +kernel
theorem dX1_takeTrunk_26 : decode cX1_takeTrunk 26 = .ok (.aload_n 2, 1) := by decide +kernel
theorem dX1_takeTrunk_27 : decode cX1_takeTrunk 27 = .ok (.iload 5, 2) := by decide +kernel
theorem dX1_takeTrunk_29 : decode cX1_takeTrunk 29 = .ok (.invokevirtual 166, 3) := by decide +kernel
theorem dX1_takeTrunk_32 : decode cX1_takeTrunk 32 = .ok (.invokevirtual 280, 3) := by decide +kernel
theorem dX1_takeTrunk_35 : decode cX1_takeTrunk 35 = .ok (.astore 6, 2) := by decide +kernel
theorem dX1_takeTrunk_37 : decode cX1_takeTrunk 37 = .ok (.aload 6, 2) := by decide +kernel
theorem dX1_takeTrunk_39 : decode cX1_takeTrunk 39 = .ok (.ifnull 14, 3) := by decide +kernel
theorem dX1_takeTrunk_42 : decode cX1_takeTrunk 42 = .ok (.aload 6, 2) := by decide +kernel
theorem dX1_takeTrunk_44 : decode cX1_takeTrunk 44 = .ok (.dup, 1) := by decide +kernel
theorem dX1_takeTrunk_45 : decode cX1_takeTrunk 45 = .ok (.getfield 190, 3) := by decide +kernel
theorem dX1_takeTrunk_48 : decode cX1_takeTrunk 48 = .ok (.iconst 1, 1) := by decide +kernel
theorem dX1_takeTrunk_49 : decode cX1_takeTrunk 49 = .ok (.iadd, 1) := by decide +kernel
theorem dX1_takeTrunk_50 : decode cX1_takeTrunk 50 = .ok (.putfield 190, 3) := by decide +kernel
theorem dX1_takeTrunk_53 : decode cX1_takeTrunk 53 = .ok (.iinc 5 1, 3) := by decide +kernel
theorem dX1_takeTrunk_56 : decode cX1_takeTrunk 56 = .ok (.goto (-38), 3) := by decide +kernel
theorem dX1_takeTrunk_59 : decode cX1_takeTrunk 59 = .ok (.aload_n 0, 1) := by decide +kernel
theorem dX1_takeTrunk_60 : decode cX1_takeTrunk 60 = .ok (.aload_n 2, 1) := by decide +kernel
theorem dX1_takeTrunk_61 : decode cX1_takeTrunk 61 = .ok (.iload_n 3, 1) := by decide +kernel
theorem dX1_takeTrunk_62 : decode cX1_takeTrunk 62 = .ok (.invokevirtual 166, 3) := by decide +kernel
theorem dX1_takeTrunk_65 : decode cX1_takeTrunk 65 = .ok (.invokevirtual 280, 3) := by decide +kernel
theorem dX1_takeTrunk_68 : decode cX1_takeTrunk 68 = .ok (.astore 5, 2) := by decide +kernel
theorem dX1_takeTrunk_70 : decode cX1_takeTrunk 70 = .ok (.aload 5, 2) := by decide +kernel
theorem dX1_takeTrunk_72 : decode cX1_takeTrunk 72 = .ok (.ifnonnull 16, 3) := by decide +kernel
theorem dX1_takeTrunk_75 : decode cX1_takeTrunk 75 = .ok (.aload_n 1, 1) := by decide +kernel
theorem dX1_takeTrunk_76 : decode cX1_takeTrunk 76 = .ok (.bipush 8, 2) := by decide +kernel
theorem dX1_takeTrunk_78 : decode cX1_takeTrunk 78 = .ok (.aload_n 0, 1) := by decide +kernel
theorem dX1_takeTrunk_79 : decode cX1_takeTrunk 79 = .ok (.getfield 74, 3) := by decide +kernel
theorem dX1_takeTrunk_82 : decode cX1_takeTrunk 82 = .ok (.invokevirtual 204, 3) := by decide +kernel
theorem dX1_takeTrunk_85 : decode cX1_takeTrunk 85 = .ok (.goto 50, 3) := by decide +kernel
theorem dX1_takeTrunk_88 : decode cX1_takeTrunk 88 = .ok (.aload 5, 2) := by decide +kernel
theorem dX1_takeTrunk_90 : decode cX1_takeTrunk 90 = .ok (.dup, 1) := by decide +kernel
theorem dX1_takeTrunk_91 : decode cX1_takeTrunk 91 = .ok (.getfield 284, 3) := by decide +kernel
theorem dX1_takeTrunk_94 : decode cX1_takeTrunk 94 = .ok (.iconst 1, 1) := by decide +kernel
theorem dX1_takeTrunk_95 : decode cX1_takeTrunk 95 = .ok (.iadd, 1) := by decide +kernel
theorem dX1_takeTrunk_96 : decode cX1_takeTrunk 96 = .ok (.putfield 284, 3) := by decide +kernel
theorem dX1_takeTrunk_99 : decode cX1_takeTrunk 99 = .ok (.aload 5, 2) := by decide +kernel
theorem dX1_takeTrunk_101 : decode cX1_takeTrunk 101 = .ok (.dup, 1) := by decide +kernel
theorem dX1_takeTrunk_102 : decode cX1_takeTrunk 102 = .ok (.getfield 287, 3) := by decide +kernel
theorem dX1_takeTrunk_105 : decode cX1_takeTrunk 105 = .ok (.iload_n 3, 1) := by decide +kernel
theorem dX1_takeTrunk_106 : decode cX1_takeTrunk 106 = .ok (.ifCond .le 7, 3) := by decide +kernel
theorem dX1_takeTrunk_109 : decode cX1_takeTrunk 109 = .ok (.iconst 1, 1) := by decide +kernel
theorem dX1_takeTrunk_110 : decode cX1_takeTrunk 110 = .ok (.goto 4, 3) := by decide +kernel
theorem dX1_takeTrunk_113 : decode cX1_takeTrunk 113 = .ok (.iconst 0, 1) := by decide +kernel
theorem dX1_takeTrunk_114 : decode cX1_takeTrunk 114 = .ok (.iadd, 1) := by decide +kernel
theorem dX1_takeTrunk_115 : decode cX1_takeTrunk 115 = .ok (.putfield 287, 3) := by decide +kernel
theorem dX1_takeTrunk_118 : decode cX1_takeTrunk 118 = .ok (.aload_n 1, 1) := by decide +kernel
theorem dX1_takeTrunk_119 : decode cX1_takeTrunk 119 = .ok (.aload 5, 2) := by decide +kernel
theorem dX1_takeTrunk_121 : decode cX1_takeTrunk 121 = .ok (.getfield 133, 3) := by decide +kernel
theorem dX1_takeTrunk_124 : decode cX1_takeTrunk 124 = .ok (.putfield 187, 3) := by decide +kernel
theorem dX1_takeTrunk_127 : decode cX1_takeTrunk 127 = .ok (.aload_n 1, 1) := by decide +kernel
theorem dX1_takeTrunk_128 : decode cX1_takeTrunk 128 = .ok (.aload_n 0, 1) := by decide +kernel
theorem dX1_takeTrunk_129 : decode cX1_takeTrunk 129 = .ok (.getfield 74, 3) := by decide +kernel
theorem dX1_takeTrunk_132 : decode cX1_takeTrunk 132 = .ok (.invokevirtual 260, 3) := by decide +kernel
theorem dX1_takeTrunk_135 : decode cX1_takeTrunk 135 = .ok (.return_, 1) := by decide +kernel
theorem dX1_freeChoice_0 : decode cX1_freeChoice 0 = .ok (.iconst 0, 1) := by decide +kernel
theorem dX1_freeChoice_1 : decode cX1_freeChoice 1 = .ok (.istore_n 2, 1) := by decide +kernel
theorem dX1_freeChoice_2 : decode cX1_freeChoice 2 = .ok (.iload_n 2, 1) := by decide +kernel
theorem dX1_freeChoice_3 : decode cX1_freeChoice 3 = .ok (.aload_n 1, 1) := by decide +kernel
theorem dX1_freeChoice_4 : decode cX1_freeChoice 4 = .ok (.getfield 277, 3) := by decide +kernel
theorem dX1_freeChoice_7 : decode cX1_freeChoice 7 = .ok (.if_icmp .ge 53, 3) := by decide +kernel
theorem dX1_freeChoice_10 : decode cX1_freeChoice 10 = .ok (.aload_n 0, 1) := by decide +kernel
theorem dX1_freeChoice_11 : decode cX1_freeChoice 11 = .ok (.aload_n 1, 1) := by decide +kernel
theorem dX1_freeChoice_12 : decode cX1_freeChoice 12 = .ok (.iload_n 2, 1) := by decide +kernel
theorem dX1_freeChoice_13 : decode cX1_freeChoice 13 = .ok (.invokevirtual 166, 3) := by decide +kernel
theorem dX1_freeChoice_16 : decode cX1_freeChoice 16 = .ok (.invokevirtual 280, 3) := by decide +kernel
theorem dX1_freeChoice_19 : decode cX1_freeChoice 19 = .ok (.astore_n 3, 1) := by decide +kernel
theorem dX1_freeChoice_20 : decode cX1_freeChoice 20 = .ok (.aload_n 3, 1) := by decide +kernel
theorem dX1_freeChoice_21 : decode cX1_freeChoice 21 = .ok (.ifnull 33, 3) := by decide +kernel
theorem dX1_freeChoice_24 : decode cX1_freeChoice 24 = .ok (.aload_n 3, 1) := by decide +kernel
theorem dX1_freeChoice_25 : decode cX1_freeChoice 25 = .ok (.getfield 290, 3) := by decide +kernel
theorem dX1_freeChoice_28 : decode cX1_freeChoice 28 = .ok (.aload_n 0, 1) := by decide +kernel
theorem dX1_freeChoice_29 : decode cX1_freeChoice 29 = .ok (.aload_n 3, 1) := by decide +kernel
theorem dX1_freeChoice_30 : decode cX1_freeChoice 30 = .ok (.getfield 133, 3) := by decide +kernel
theorem dX1_freeChoice_33 : decode cX1_freeChoice 33 = .ok (.invokevirtual 293, 3) := by decide +kernel
theorem dX1_freeChoice_36 : decode cX1_freeChoice 36 = .ok (.isub, 1) := by decide +kernel
theorem dX1_freeChoice_37 : decode cX1_freeChoice 37 = .ok (.iload_n 2, 1) := by decide +kernel
theorem dX1_freeChoice_38 : decode cX1_freeChoice 38 = .ok (.ifCond .ne 7, 3) := by decide +kernel
theorem dX1_freeChoice_41 : decode cX1_freeChoice 41 = .ok (.iconst 0, 1) := by decide +kernel
theorem dX1_freeChoice_42 : decode cX1_freeChoice 42 = .ok (.goto 7, 3) := by decide +kernel
theorem dX1_freeChoice_45 : decode cX1_freeChoice 45 = .ok (.aload_n 3, 1) := by decide +kernel
theorem dX1_freeChoice_46 : decode cX1_freeChoice 46 = .ok (.getfield 296, 3) := by decide +kernel
theorem dX1_freeChoice_49 : decode cX1_freeChoice 49 = .ok (.if_icmp .le 5, 3) := by decide +kernel
theorem dX1_freeChoice_52 : decode cX1_freeChoice 52 = .ok (.iload_n 2, 1) := by decide +kernel
theorem dX1_freeChoice_53 : decode cX1_freeChoice 53 = .ok (.ireturn, 1) := by decide +kernel
theorem dX1_freeChoice_54 : decode cX1_freeChoice 54 = .ok (.iinc 2 1, 3) := by decide +kernel
theorem dX1_freeChoice_57 : decode cX1_freeChoice 57 = .ok (.goto (-55), 3) := by decide +kernel
theorem dX1_freeChoice_60 : decode cX1_freeChoice 60 = .ok (.iconst (-1), 1) := by decide +kernel
theorem dX1_freeChoice_61 : decode cX1_freeChoice 61 = .ok (.ireturn, 1) := by decide +kernel
theorem dX1_letRegistersDial_0 : decode cX1_letRegistersDial 0 = .ok (.aload_n 0, 1) := by decide +kernel
theorem dX1_letRegistersDial_1 : decode cX1_letRegistersDial 1 = .ok (.getfield 33, 3) := by decide +kernel
theorem dX1_letRegistersDial_4 : decode cX1_letRegistersDial 4 = .ok (.astore_n 1, 1) := by decide +kernel
theorem dX1_letRegistersDial_5 : decode cX1_letRegistersDial 5 = .ok (.aload_n 1, 1) := by decide +kernel
theorem dX1_letRegistersDial_6 : decode cX1_letRegistersDial 6 = .ok (.arraylength, 1) := by decide +kernel
theorem dX1_letRegistersDial_7 : decode cX1_letRegistersDial 7 = .ok (.istore_n 2, 1) := by decide +kernel
theorem dX1_letRegistersDial_8 : decode cX1_letRegistersDial 8 = .ok (.iconst 0, 1) := by decide +kernel
theorem dX1_letRegistersDial_9 : decode cX1_letRegistersDial 9 = .ok (.istore_n 3, 1) := by decide +kernel
theorem dX1_letRegistersDial_10 : decode cX1_letRegistersDial 10 = .ok (.iload_n 3, 1) := by decide +kernel
theorem dX1_letRegistersDial_11 : decode cX1_letRegistersDial 11 = .ok (.iload_n 2, 1) := by decide +kernel
theorem dX1_letRegistersDial_12 : decode cX1_letRegistersDial 12 = .ok (.if_icmp .ge 47, 3) := by decide +kernel
theorem dX1_letRegistersDial_15 : decode cX1_letRegistersDial 15 = .ok (.aload_n 1, 1) := by decide +kernel
theorem dX1_letRegistersDial_16 : decode cX1_letRegistersDial 16 = .ok (.iload_n 3, 1) := by decide +kernel
theorem dX1_letRegistersDial_17 : decode cX1_letRegistersDial 17 = .ok (.aaload, 1) := by decide +kernel
theorem dX1_letRegistersDial_18 : decode cX1_letRegistersDial 18 = .ok (.astore 4, 2) := by decide +kernel
theorem dX1_letRegistersDial_20 : decode cX1_letRegistersDial 20 = .ok (.aload_n 0, 1) := by decide +kernel
theorem dX1_letRegistersDial_21 : decode cX1_letRegistersDial 21 = .ok (.aload 4, 2) := by decide +kernel
theorem dX1_letRegistersDial_23 : decode cX1_letRegistersDial 23 = .ok (.getfield 193, 3) := by decide +kernel
theorem dX1_letRegistersDial_26 : decode cX1_letRegistersDial 26 = .ok (.invokevirtual 248, 3) := by decide +kernel
theorem dX1_letRegistersDial_29 : decode cX1_letRegistersDial 29 = .ok (.astore 5, 2) := by decide +kernel
theorem dX1_letRegistersDial_31 : decode cX1_letRegistersDial 31 = .ok (.aload 5, 2) := by decide +kernel
theorem dX1_letRegistersDial_33 : decode cX1_letRegistersDial 33 = .ok (.ifnull 20, 3) := by decide +kernel
theorem dX1_letRegistersDial_36 : decode cX1_letRegistersDial 36 = .ok (.aload 5, 2) := by decide +kernel
theorem dX1_letRegistersDial_38 : decode cX1_letRegistersDial 38 = .ok (.getfield 102, 3) := by decide +kernel
theorem dX1_letRegistersDial_41 : decode cX1_letRegistersDial 41 = .ok (.iconst 2, 1) := by decide +kernel
theorem dX1_letRegistersDial_42 : decode cX1_letRegistersDial 42 = .ok (.if_icmp .ne 11, 3) := by decide +kernel
theorem dX1_letRegistersDial_45 : decode cX1_letRegistersDial 45 = .ok (.aload_n 0, 1) := by decide +kernel
theorem dX1_letRegistersDial_46 : decode cX1_letRegistersDial 46 = .ok (.aload 4, 2) := by decide +kernel
theorem dX1_letRegistersDial_48 : decode cX1_letRegistersDial 48 = .ok (.aload 5, 2) := by decide +kernel
theorem dX1_letRegistersDial_50 : decode cX1_letRegistersDial 50 = .ok (.invokevirtual 299, 3) := by decide +kernel
theorem dX1_letRegistersDial_53 : decode cX1_letRegistersDial 53 = .ok (.iinc 3 1, 3) := by decide +kernel
theorem dX1_letRegistersDial_56 : decode cX1_letRegistersDial 56 = .ok (.goto (-46), 3) := by decide +kernel
theorem dX1_letRegistersDial_59 : decode cX1_letRegistersDial 59 = .ok (.return_, 1) := by decide +kernel
theorem dX1_dialOn_0 : decode cX1_dialOn 0 = .ok (.aload_n 2, 1) := by decide +kernel
theorem dX1_dialOn_1 : decode cX1_dialOn 1 = .ok (.getfield 303, 3) := by decide +kernel
theorem dX1_dialOn_4 : decode cX1_dialOn 4 = .ok (.invokestatic 153, 3) := by decide +kernel
theorem dX1_dialOn_7 : decode cX1_dialOn 7 = .ok (.istore_n 3, 1) := by decide +kernel
theorem dX1_dialOn_8 : decode cX1_dialOn 8 = .ok (.aload_n 1, 1) := by decide +kernel
theorem dX1_dialOn_9 : decode cX1_dialOn 9 = .ok (.getfield 274, 3) := by decide +kernel
theorem dX1_dialOn_12 : decode cX1_dialOn 12 = .ok (.invokestatic 153, 3) := by decide +kernel
theorem dX1_dialOn_15 : decode cX1_dialOn 15 = .ok (.istore 4, 2) := by decide +kernel
theorem dX1_dialOn_17 : decode cX1_dialOn 17 = .ok (.iload 4, 2) := by decide +kernel
theorem dX1_dialOn_19 : decode cX1_dialOn 19 = .ok (.iload_n 3, 1) := by decide +kernel
theorem dX1_dialOn_20 : decode cX1_dialOn 20 = .ok (.if_icmp .ge 37, 3) := by decide +kernel
theorem dX1_dialOn_23 : decode cX1_dialOn 23 = .ok (.aload_n 0, 1) := by decide +kernel
theorem dX1_dialOn_24 : decode cX1_dialOn 24 = .ok (.aload_n 1, 1) := by decide +kernel
theorem dX1_dialOn_25 : decode cX1_dialOn 25 = .ok (.getfield 274, 3) := by decide +kernel
theorem dX1_dialOn_28 : decode cX1_dialOn 28 = .ok (.invokevirtual 158, 3) := by decide +kernel
theorem dX1_dialOn_31 : decode cX1_dialOn 31 = .ok (.ifCond .ne 26, 3) := by decide +kernel
theorem dX1_dialOn_34 : decode cX1_dialOn 34 = .ok (.aload_n 1, 1) := by decide +kernel
theorem dX1_dialOn_35 : decode cX1_dialOn 35 = .ok (.aload_n 1, 1) := by decide +kernel
theorem dX1_dialOn_36 : decode cX1_dialOn 36 = .ok (.getfield 274, 3) := by decide +kernel
theorem dX1_dialOn_39 : decode cX1_dialOn 39 = .ok (.aload_n 2, 1) := by decide +kernel
theorem dX1_dialOn_40 : decode cX1_dialOn 40 = .ok (.getfield 303, 3) := by decide +kernel
theorem dX1_dialOn_43 : decode cX1_dialOn 43 = .ok (.iload 4, 2) := by decide +kernel
theorem dX1_dialOn_45 : decode cX1_dialOn 45 = .ok (.invokestatic 304, 3) := by decide +kernel
theorem dX1_dialOn_48 : decode cX1_dialOn 48 = .ok (.invokestatic 308, 3) := by decide +kernel
theorem dX1_dialOn_51 : decode cX1_dialOn 51 = .ok (.putfield 274, 3) := by decide +kernel
theorem dX1_dialOn_54 : decode cX1_dialOn 54 = .ok (.iinc 4 1, 3) := by decide +kernel
theorem dX1_dialOn_57 : decode cX1_dialOn 57 = .ok (.aload_n 0, 1) := by decide +kernel
theorem dX1_dialOn_58 : decode cX1_dialOn 58 = .ok (.aload_n 1, 1) := by decide +kernel
theorem dX1_dialOn_59 : decode cX1_dialOn 59 = .ok (.getfield 274, 3) := by decide +kernel
theorem dX1_dialOn_62 : decode cX1_dialOn 62 = .ok (.invokevirtual 158, 3) := by decide +kernel
theorem dX1_dialOn_65 : decode cX1_dialOn 65 = .ok (.ifCond .eq 12, 3) := by decide +kernel
theorem dX1_dialOn_68 : decode cX1_dialOn 68 = .ok (.aload_n 0, 1) := by decide +kernel
theorem dX1_dialOn_69 : decode cX1_dialOn 69 = .ok (.aload_n 2, 1) := by decide +kernel
theorem dX1_dialOn_70 : decode cX1_dialOn 70 = .ok (.iconst 3, 1) := by decide +kernel
theorem dX1_dialOn_71 : decode cX1_dialOn 71 = .ok (.invokevirtual 241, 3) := by decide +kernel
theorem dX1_dialOn_74 : decode cX1_dialOn 74 = .ok (.goto 45, 3) := by decide +kernel
theorem dX1_dialOn_77 : decode cX1_dialOn 77 = .ok (.iload 4, 2) := by decide +kernel
theorem dX1_dialOn_79 : decode cX1_dialOn 79 = .ok (.iload_n 3, 1) := by decide +kernel
theorem dX1_dialOn_80 : decode cX1_dialOn 80 = .ok (.if_icmp .lt 39, 3) := by decide +kernel
theorem dX1_dialOn_83 : decode cX1_dialOn 83 = .ok (.aload_n 1, 1) := by decide +kernel
theorem dX1_dialOn_84 : decode cX1_dialOn 84 = .ok (.dup, 1) := by decide +kernel
theorem dX1_dialOn_85 : decode cX1_dialOn 85 = .ok (.getfield 311, 3) := by decide +kernel
theorem dX1_dialOn_88 : decode cX1_dialOn 88 = .ok (.iconst 1, 1) := by decide +kernel
theorem dX1_dialOn_89 : decode cX1_dialOn 89 = .ok (.iadd, 1) := by decide +kernel
theorem dX1_dialOn_90 : decode cX1_dialOn 90 = .ok (.putfield 311, 3) := by decide +kernel
theorem dX1_dialOn_93 : decode cX1_dialOn 93 = .ok (.aload_n 1, 1) := by decide +kernel
theorem dX1_dialOn_94 : decode cX1_dialOn 94 = .ok (.getfield 311, 3) := by decide +kernel
theorem dX1_dialOn_97 : decode cX1_dialOn 97 = .ok (.aload_n 0, 1) := by decide +kernel
theorem dX1_dialOn_98 : decode cX1_dialOn 98 = .ok (.getfield 80, 3) := by decide +kernel
theorem dX1_dialOn_101 : decode cX1_dialOn 101 = .ok (.if_icmp .lt 18, 3) := by decide +kernel
theorem dX1_dialOn_104 : decode cX1_dialOn 104 = .ok (.aload_n 1, 1) := by decide +kernel
theorem dX1_dialOn_105 : decode cX1_dialOn 105 = .ok (.iconst (-1), 1) := by decide +kernel
theorem dX1_dialOn_106 : decode cX1_dialOn 106 = .ok (.invokevirtual 96, 3) := by decide +kernel
theorem dX1_dialOn_109 : decode cX1_dialOn 109 = .ok (.aload_n 2, 1) := by decide +kernel
theorem dX1_dialOn_110 : decode cX1_dialOn 110 = .ok (.bipush 9, 2) := by decide +kernel
theorem dX1_dialOn_112 : decode cX1_dialOn 112 = .ok (.aload_n 0, 1) := by decide +kernel
theorem dX1_dialOn_113 : decode cX1_dialOn 113 = .ok (.getfield 74, 3) := by decide +kernel
theorem dX1_dialOn_116 : decode cX1_dialOn 116 = .ok (.invokevirtual 204, 3) := by decide +kernel
theorem dX1_dialOn_119 : decode cX1_dialOn 119 = .ok (.return_, 1) := by decide +kernel
theorem dX1_giveMarkers_0 : decode cX1_giveMarkers 0 = .ok (.aload_n 0, 1) := by decide +kernel
theorem dX1_giveMarkers_1 : decode cX1_giveMarkers 1 = .ok (.getfield 40, 3) := by decide +kernel
theorem dX1_giveMarkers_4 : decode cX1_giveMarkers 4 = .ok (.astore_n 1, 1) := by decide +kernel
theorem dX1_giveMarkers_5 : decode cX1_giveMarkers 5 = .ok (.aload_n 1, 1) := by decide +kernel
theorem dX1_giveMarkers_6 : decode cX1_giveMarkers 6 = .ok (.arraylength, 1) := by decide +kernel
theorem dX1_giveMarkers_7 : decode cX1_giveMarkers 7 = .ok (.istore_n 2, 1) := by decide +kernel
theorem dX1_giveMarkers_8 : decode cX1_giveMarkers 8 = .ok (.iconst 0, 1) := by decide +kernel
theorem dX1_giveMarkers_9 : decode cX1_giveMarkers 9 = .ok (.istore_n 3, 1) := by decide +kernel
theorem dX1_giveMarkers_10 : decode cX1_giveMarkers 10 = .ok (.iload_n 3, 1) := by decide +kernel
theorem dX1_giveMarkers_11 : decode cX1_giveMarkers 11 = .ok (.iload_n 2, 1) := by decide +kernel
theorem dX1_giveMarkers_12 : decode cX1_giveMarkers 12 = .ok (.if_icmp .ge 67, 3) := by decide +kernel
theorem dX1_giveMarkers_15 : decode cX1_giveMarkers 15 = .ok (.aload_n 1, 1) := by decide +kernel
theorem dX1_giveMarkers_16 : decode cX1_giveMarkers 16 = .ok (.iload_n 3, 1) := by decide +kernel
theorem dX1_giveMarkers_17 : decode cX1_giveMarkers 17 = .ok (.aaload, 1) := by decide +kernel
theorem dX1_giveMarkers_18 : decode cX1_giveMarkers 18 = .ok (.astore 4, 2) := by decide +kernel
theorem dX1_giveMarkers_20 : decode cX1_giveMarkers 20 = .ok (.aload_n 0, 1) := by decide +kernel
theorem dX1_giveMarkers_21 : decode cX1_giveMarkers 21 = .ok (.iconst 3, 1) := by decide +kernel
theorem dX1_giveMarkers_22 : decode cX1_giveMarkers 22 = .ok (.invokevirtual 314, 3) := by decide +kernel
theorem dX1_giveMarkers_25 : decode cX1_giveMarkers 25 = .ok (.astore 5, 2) := by decide +kernel
theorem dX1_giveMarkers_27 : decode cX1_giveMarkers 27 = .ok (.aload 5, 2) := by decide +kernel
theorem dX1_giveMarkers_29 : decode cX1_giveMarkers 29 = .ok (.ifnull 44, 3) := by decide +kernel
theorem dX1_giveMarkers_32 : decode cX1_giveMarkers 32 = .ok (.aload 4, 2) := by decide +kernel
theorem dX1_giveMarkers_34 : decode cX1_giveMarkers 34 = .ok (.getfield 317, 3) := by decide +kernel
theorem dX1_giveMarkers_37 : decode cX1_giveMarkers 37 = .ok (.aload_n 0, 1) := by decide +kernel
theorem dX1_giveMarkers_38 : decode cX1_giveMarkers 38 = .ok (.getfield 59, 3) := by decide +kernel
theorem dX1_giveMarkers_41 : decode cX1_giveMarkers 41 = .ok (.if_icmp .ge 32, 3) := by decide +kernel
theorem dX1_giveMarkers_44 : decode cX1_giveMarkers 44 = .ok (.aload 4, 2) := by decide +kernel
theorem dX1_giveMarkers_46 : decode cX1_giveMarkers 46 = .ok (.getfield 203, 3) := by decide +kernel
theorem dX1_giveMarkers_49 : decode cX1_giveMarkers 49 = .ok (.iconst (-1), 1) := by decide +kernel
theorem dX1_giveMarkers_50 : decode cX1_giveMarkers 50 = .ok (.if_icmp .ne 23, 3) := by decide +kernel
theorem dX1_giveMarkers_53 : decode cX1_giveMarkers 53 = .ok (.aload 4, 2) := by decide +kernel
theorem dX1_giveMarkers_55 : decode cX1_giveMarkers 55 = .ok (.aload 5, 2) := by decide +kernel
theorem dX1_giveMarkers_57 : decode cX1_giveMarkers 57 = .ok (.getfield 130, 3) := by decide +kernel
theorem dX1_giveMarkers_60 : decode cX1_giveMarkers 60 = .ok (.aload_n 0, 1) := by decide +kernel
theorem dX1_giveMarkers_61 : decode cX1_giveMarkers 61 = .ok (.getfield 83, 3) := by decide +kernel
theorem dX1_giveMarkers_64 : decode cX1_giveMarkers 64 = .ok (.invokevirtual 99, 3) := by decide +kernel
theorem dX1_giveMarkers_67 : decode cX1_giveMarkers 67 = .ok (.aload 5, 2) := by decide +kernel
theorem dX1_giveMarkers_69 : decode cX1_giveMarkers 69 = .ok (.iconst 4, 1) := by decide +kernel
theorem dX1_giveMarkers_70 : decode cX1_giveMarkers 70 = .ok (.putfield 102, 3) := by decide +kernel
theorem dX1_giveMarkers_73 : decode cX1_giveMarkers 73 = .ok (.iinc 3 1, 3) := by decide +kernel
theorem dX1_giveMarkers_76 : decode cX1_giveMarkers 76 = .ok (.goto (-66), 3) := by decide +kernel
theorem dX1_giveMarkers_79 : decode cX1_giveMarkers 79 = .ok (.return_, 1) := by decide +kernel
theorem dX1_giveRegisters_0 : decode cX1_giveRegisters 0 = .ok (.aload_n 0, 1) := by decide +kernel
theorem dX1_giveRegisters_1 : decode cX1_giveRegisters 1 = .ok (.getfield 33, 3) := by decide +kernel
theorem dX1_giveRegisters_4 : decode cX1_giveRegisters 4 = .ok (.astore_n 1, 1) := by decide +kernel
theorem dX1_giveRegisters_5 : decode cX1_giveRegisters 5 = .ok (.aload_n 1, 1) := by decide +kernel
theorem dX1_giveRegisters_6 : decode cX1_giveRegisters 6 = .ok (.arraylength, 1) := by decide +kernel
theorem dX1_giveRegisters_7 : decode cX1_giveRegisters 7 = .ok (.istore_n 2, 1) := by decide +kernel
theorem dX1_giveRegisters_8 : decode cX1_giveRegisters 8 = .ok (.iconst 0, 1) := by decide +kernel
theorem dX1_giveRegisters_9 : decode cX1_giveRegisters 9 = .ok (.istore_n 3, 1) := by decide +kernel
theorem dX1_giveRegisters_10 : decode cX1_giveRegisters 10 = .ok (.iload_n 3, 1) := by decide +kernel
theorem dX1_giveRegisters_11 : decode cX1_giveRegisters 11 = .ok (.iload_n 2, 1) := by decide +kernel
theorem dX1_giveRegisters_12 : decode cX1_giveRegisters 12 = .ok (.if_icmp .ge 63, 3) := by decide +kernel
theorem dX1_giveRegisters_15 : decode cX1_giveRegisters 15 = .ok (.aload_n 1, 1) := by decide +kernel
theorem dX1_giveRegisters_16 : decode cX1_giveRegisters 16 = .ok (.iload_n 3, 1) := by decide +kernel
theorem dX1_giveRegisters_17 : decode cX1_giveRegisters 17 = .ok (.aaload, 1) := by decide +kernel
theorem dX1_giveRegisters_18 : decode cX1_giveRegisters 18 = .ok (.astore 4, 2) := by decide +kernel
theorem dX1_giveRegisters_20 : decode cX1_giveRegisters 20 = .ok (.aload_n 0, 1) := by decide +kernel
theorem dX1_giveRegisters_21 : decode cX1_giveRegisters 21 = .ok (.iconst 1, 1) := by decide +kernel
theorem dX1_giveRegisters_22 : decode cX1_giveRegisters 22 = .ok (.invokevirtual 314, 3) := by decide +kernel
theorem dX1_giveRegisters_25 : decode cX1_giveRegisters 25 = .ok (.astore 5, 2) := by decide +kernel
theorem dX1_giveRegisters_27 : decode cX1_giveRegisters 27 = .ok (.aload 5, 2) := by decide +kernel
theorem dX1_giveRegisters_29 : decode cX1_giveRegisters 29 = .ok (.ifnull 40, 3) := by decide +kernel
theorem dX1_giveRegisters_32 : decode cX1_giveRegisters 32 = .ok (.aload 4, 2) := by decide +kernel
theorem dX1_giveRegisters_34 : decode cX1_giveRegisters 34 = .ok (.getfield 196, 3) := by decide +kernel
theorem dX1_giveRegisters_37 : decode cX1_giveRegisters 37 = .ok (.aload_n 0, 1) := by decide +kernel
theorem dX1_giveRegisters_38 : decode cX1_giveRegisters 38 = .ok (.getfield 55, 3) := by decide +kernel
theorem dX1_giveRegisters_41 : decode cX1_giveRegisters 41 = .ok (.if_icmp .ge 28, 3) := by decide +kernel
theorem dX1_giveRegisters_44 : decode cX1_giveRegisters 44 = .ok (.aload 4, 2) := by decide +kernel
theorem dX1_giveRegisters_46 : decode cX1_giveRegisters 46 = .ok (.getfield 193, 3) := by decide +kernel
theorem dX1_giveRegisters_49 : decode cX1_giveRegisters 49 = .ok (.iconst (-1), 1) := by decide +kernel
theorem dX1_giveRegisters_50 : decode cX1_giveRegisters 50 = .ok (.if_icmp .ne 19, 3) := by decide +kernel
theorem dX1_giveRegisters_53 : decode cX1_giveRegisters 53 = .ok (.aload 4, 2) := by decide +kernel
theorem dX1_giveRegisters_55 : decode cX1_giveRegisters 55 = .ok (.aload 5, 2) := by decide +kernel
theorem dX1_giveRegisters_57 : decode cX1_giveRegisters 57 = .ok (.getfield 130, 3) := by decide +kernel
theorem dX1_giveRegisters_60 : decode cX1_giveRegisters 60 = .ok (.invokevirtual 96, 3) := by decide +kernel
theorem dX1_giveRegisters_63 : decode cX1_giveRegisters 63 = .ok (.aload 5, 2) := by decide +kernel
theorem dX1_giveRegisters_65 : decode cX1_giveRegisters 65 = .ok (.iconst 2, 1) := by decide +kernel
theorem dX1_giveRegisters_66 : decode cX1_giveRegisters 66 = .ok (.putfield 102, 3) := by decide +kernel
theorem dX1_giveRegisters_69 : decode cX1_giveRegisters 69 = .ok (.iinc 3 1, 3) := by decide +kernel
theorem dX1_giveRegisters_72 : decode cX1_giveRegisters 72 = .ok (.goto (-62), 3) := by decide +kernel
theorem dX1_giveRegisters_75 : decode cX1_giveRegisters 75 = .ok (.return_, 1) := by decide +kernel
theorem dX1_countTick_0 : decode cX1_countTick 0 = .ok (.aload_n 0, 1) := by decide +kernel
theorem dX1_countTick_1 : decode cX1_countTick 1 = .ok (.aload_n 0, 1) := by decide +kernel
theorem dX1_countTick_2 : decode cX1_countTick 2 = .ok (.getfield 86, 3) := by decide +kernel
theorem dX1_countTick_5 : decode cX1_countTick 5 = .ok (.aload_n 0, 1) := by decide +kernel
theorem dX1_countTick_6 : decode cX1_countTick 6 = .ok (.iconst 1, 1) := by decide +kernel
theorem dX1_countTick_7 : decode cX1_countTick 7 = .ok (.invokevirtual 235, 3) := by decide +kernel
theorem dX1_countTick_10 : decode cX1_countTick 10 = .ok (.invokestatic 318, 3) := by decide +kernel
theorem dX1_countTick_13 : decode cX1_countTick 13 = .ok (.putfield 86, 3) := by decide +kernel
theorem dX1_countTick_16 : decode cX1_countTick 16 = .ok (.aload_n 0, 1) := by decide +kernel
theorem dX1_countTick_17 : decode cX1_countTick 17 = .ok (.getfield 17, 3) := by decide +kernel
theorem dX1_countTick_20 : decode cX1_countTick 20 = .ok (.astore_n 1, 1) := by decide +kernel
theorem dX1_countTick_21 : decode cX1_countTick 21 = .ok (.aload_n 1, 1) := by decide +kernel
theorem dX1_countTick_22 : decode cX1_countTick 22 = .ok (.arraylength, 1) := by decide +kernel
theorem dX1_countTick_23 : decode cX1_countTick 23 = .ok (.istore_n 2, 1) := by decide +kernel
theorem dX1_countTick_24 : decode cX1_countTick 24 = .ok (.iconst 0, 1) := by decide +kernel
theorem dX1_countTick_25 : decode cX1_countTick 25 = .ok (.istore_n 3, 1) := by decide +kernel
theorem dX1_countTick_26 : decode cX1_countTick 26 = .ok (.iload_n 3, 1) := by decide +kernel
theorem dX1_countTick_27 : decode cX1_countTick 27 = .ok (.iload_n 2, 1) := by decide +kernel
theorem dX1_countTick_28 : decode cX1_countTick 28 = .ok (.if_icmp .ge 45, 3) := by decide +kernel
theorem dX1_countTick_31 : decode cX1_countTick 31 = .ok (.aload_n 1, 1) := by decide +kernel
theorem dX1_countTick_32 : decode cX1_countTick 32 = .ok (.iload_n 3, 1) := by decide +kernel
theorem dX1_countTick_33 : decode cX1_countTick 33 = .ok (.aaload, 1) := by decide +kernel
theorem dX1_countTick_34 : decode cX1_countTick 34 = .ok (.astore 4, 2) := by decide +kernel
theorem dX1_countTick_36 : decode cX1_countTick 36 = .ok (.aload 4, 2) := by decide +kernel
theorem dX1_countTick_38 : decode cX1_countTick 38 = .ok (.getfield 133, 3) := by decide +kernel
theorem dX1_countTick_41 : decode cX1_countTick 41 = .ok (.aload_n 0, 1) := by decide +kernel
theorem dX1_countTick_42 : decode cX1_countTick 42 = .ok (.getfield 65, 3) := by decide +kernel
theorem dX1_countTick_45 : decode cX1_countTick 45 = .ok (.if_icmp .ge 22, 3) := by decide +kernel
theorem dX1_countTick_48 : decode cX1_countTick 48 = .ok (.aload 4, 2) := by decide +kernel
theorem dX1_countTick_50 : decode cX1_countTick 50 = .ok (.dup, 1) := by decide +kernel
theorem dX1_countTick_51 : decode cX1_countTick 51 = .ok (.getfield 323, 3) := by decide +kernel
theorem dX1_countTick_54 : decode cX1_countTick 54 = .ok (.aload_n 0, 1) := by decide +kernel
theorem dX1_countTick_55 : decode cX1_countTick 55 = .ok (.aload 4, 2) := by decide +kernel
theorem dX1_countTick_57 : decode cX1_countTick 57 = .ok (.getfield 133, 3) := by decide +kernel
theorem dX1_countTick_60 : decode cX1_countTick 60 = .ok (.invokevirtual 293, 3) := by decide +kernel
theorem dX1_countTick_63 : decode cX1_countTick 63 = .ok (.iadd, 1) := by decide +kernel
theorem dX1_countTick_64 : decode cX1_countTick 64 = .ok (.putfield 323, 3) := by decide +kernel
theorem dX1_countTick_67 : decode cX1_countTick 67 = .ok (.iinc 3 1, 3) := by decide +kernel
theorem dX1_countTick_70 : decode cX1_countTick 70 = .ok (.goto (-44), 3) := by decide +kernel
theorem dX1_countTick_73 : decode cX1_countTick 73 = .ok (.return_, 1) := by decide +kernel
theorem dX2_init_0 : decode cX2_init 0 = .ok (.aload_n 0, 1) := by decide +kernel
theorem dX2_init_1 : decode cX2_init 1 = .ok (.invokespecial 1, 3) := by decide +kernel
theorem dX2_init_4 : decode cX2_init 4 = .ok (.aload_n 0, 1) := by decide +kernel
theorem dX2_init_5 : decode cX2_init 5 = .ok (.iload_n 1, 1) := by decide +kernel
theorem dX2_init_6 : decode cX2_init 6 = .ok (.putfield 7, 3) := by decide +kernel
theorem dX2_init_9 : decode cX2_init 9 = .ok (.return_, 1) := by decide +kernel
theorem dX2_tell_0 : decode cX2_tell 0 = .ok (.aload_n 0, 1) := by decide +kernel
theorem dX2_tell_1 : decode cX2_tell 1 = .ok (.lload_n 1, 1) := by decide +kernel
theorem dX2_tell_2 : decode cX2_tell 2 = .ok (.putfield 13, 3) := by decide +kernel
theorem dX2_tell_5 : decode cX2_tell 5 = .ok (.aload_n 0, 1) := by decide +kernel
theorem dX2_tell_6 : decode cX2_tell 6 = .ok (.iload_n 3, 1) := by decide +kernel
theorem dX2_tell_7 : decode cX2_tell 7 = .ok (.putfield 17, 3) := by decide +kernel
theorem dX2_tell_10 : decode cX2_tell 10 = .ok (.aload_n 0, 1) := by decide +kernel
theorem dX2_tell_11 : decode cX2_tell 11 = .ok (.iload 4, 2) := by decide +kernel
theorem dX2_tell_13 : decode cX2_tell 13 = .ok (.putfield 20, 3) := by decide +kernel
theorem dX2_tell_16 : decode cX2_tell 16 = .ok (.aload_n 0, 1) := by decide +kernel
theorem dX2_tell_17 : decode cX2_tell 17 = .ok (.iconst 0, 1) := by decide +kernel
theorem dX2_tell_18 : decode cX2_tell 18 = .ok (.putfield 23, 3) := by decide +kernel
theorem dX2_tell_21 : decode cX2_tell 21 = .ok (.aload_n 0, 1) := by decide +kernel
theorem dX2_tell_22 : decode cX2_tell 22 = .ok (.iconst 0, 1) := by decide +kernel
theorem dX2_tell_23 : decode cX2_tell 23 = .ok (.putfield 26, 3) := by decide +kernel
theorem dX2_tell_26 : decode cX2_tell 26 = .ok (.aload_n 0, 1) := by decide +kernel
theorem dX2_tell_27 : decode cX2_tell 27 = .ok (.iconst 0, 1) := by decide +kernel
theorem dX2_tell_28 : decode cX2_tell 28 = .ok (.putfield 29, 3) := by decide +kernel
theorem dX2_tell_31 : decode cX2_tell 31 = .ok (.aload_n 0, 1) := by decide +kernel
theorem dX2_tell_32 : decode cX2_tell 32 = .ok (.iconst 0, 1) := by decide +kernel
theorem dX2_tell_33 : decode cX2_tell 33 = .ok (.putfield 32, 3) := by decide +kernel
theorem dX2_tell_36 : decode cX2_tell 36 = .ok (.return_, 1) := by decide +kernel
theorem dX2_copyFrom_0 : decode cX2_copyFrom 0 = .ok (.aload_n 0, 1) := by decide +kernel
theorem dX2_copyFrom_1 : decode cX2_copyFrom 1 = .ok (.aload_n 1, 1) := by decide +kernel
theorem dX2_copyFrom_2 : decode cX2_copyFrom 2 = .ok (.getfield 13, 3) := by decide +kernel
theorem dX2_copyFrom_5 : decode cX2_copyFrom 5 = .ok (.putfield 13, 3) := by decide +kernel
theorem dX2_copyFrom_8 : decode cX2_copyFrom 8 = .ok (.aload_n 0, 1) := by decide +kernel
theorem dX2_copyFrom_9 : decode cX2_copyFrom 9 = .ok (.aload_n 1, 1) := by decide +kernel
theorem dX2_copyFrom_10 : decode cX2_copyFrom 10 = .ok (.getfield 17, 3) := by decide +kernel
theorem dX2_copyFrom_13 : decode cX2_copyFrom 13 = .ok (.putfield 17, 3) := by decide +kernel
theorem dX2_copyFrom_16 : decode cX2_copyFrom 16 = .ok (.aload_n 0, 1) := by decide +kernel
theorem dX2_copyFrom_17 : decode cX2_copyFrom 17 = .ok (.aload_n 1, 1) := by decide +kernel
theorem dX2_copyFrom_18 : decode cX2_copyFrom 18 = .ok (.getfield 20, 3) := by decide +kernel
theorem dX2_copyFrom_21 : decode cX2_copyFrom 21 = .ok (.putfield 20, 3) := by decide +kernel
theorem dX2_copyFrom_24 : decode cX2_copyFrom 24 = .ok (.aload_n 0, 1) := by decide +kernel
theorem dX2_copyFrom_25 : decode cX2_copyFrom 25 = .ok (.aload_n 1, 1) := by decide +kernel
theorem dX2_copyFrom_26 : decode cX2_copyFrom 26 = .ok (.getfield 23, 3) := by decide +kernel
theorem dX2_copyFrom_29 : decode cX2_copyFrom 29 = .ok (.putfield 23, 3) := by decide +kernel
theorem dX2_copyFrom_32 : decode cX2_copyFrom 32 = .ok (.aload_n 0, 1) := by decide +kernel
theorem dX2_copyFrom_33 : decode cX2_copyFrom 33 = .ok (.aload_n 1, 1) := by decide +kernel
theorem dX2_copyFrom_34 : decode cX2_copyFrom 34 = .ok (.getfield 26, 3) := by decide +kernel
theorem dX2_copyFrom_37 : decode cX2_copyFrom 37 = .ok (.putfield 26, 3) := by decide +kernel
theorem dX2_copyFrom_40 : decode cX2_copyFrom 40 = .ok (.aload_n 0, 1) := by decide +kernel
theorem dX2_copyFrom_41 : decode cX2_copyFrom 41 = .ok (.aload_n 1, 1) := by decide +kernel
theorem dX2_copyFrom_42 : decode cX2_copyFrom 42 = .ok (.getfield 29, 3) := by decide +kernel
theorem dX2_copyFrom_45 : decode cX2_copyFrom 45 = .ok (.putfield 29, 3) := by decide +kernel
theorem dX2_copyFrom_48 : decode cX2_copyFrom 48 = .ok (.aload_n 0, 1) := by decide +kernel
theorem dX2_copyFrom_49 : decode cX2_copyFrom 49 = .ok (.aload_n 1, 1) := by decide +kernel
theorem dX2_copyFrom_50 : decode cX2_copyFrom 50 = .ok (.getfield 32, 3) := by decide +kernel
theorem dX2_copyFrom_53 : decode cX2_copyFrom 53 = .ok (.putfield 32, 3) := by decide +kernel
theorem dX2_copyFrom_56 : decode cX2_copyFrom 56 = .ok (.return_, 1) := by decide +kernel
theorem dX3_init_0 : decode cX3_init 0 = .ok (.aload_n 0, 1) := by decide +kernel
theorem dX3_init_1 : decode cX3_init 1 = .ok (.invokespecial 3, 3) := by decide +kernel
theorem dX3_init_4 : decode cX3_init 4 = .ok (.aload_n 0, 1) := by decide +kernel
theorem dX3_init_5 : decode cX3_init 5 = .ok (.bipush 8, 2) := by decide +kernel
theorem dX3_init_7 : decode cX3_init 7 = .ok (.anewarray 9, 3) := by decide +kernel
theorem dX3_init_10 : decode cX3_init 10 = .ok (.putfield 11, 3) := by decide +kernel
theorem dX3_init_13 : decode cX3_init 13 = .ok (.iconst 0, 1) := by decide +kernel
theorem dX3_init_14 : decode cX3_init 14 = .ok (.istore_n 1, 1) := by decide +kernel
theorem dX3_init_15 : decode cX3_init 15 = .ok (.iload_n 1, 1) := by decide +kernel
theorem dX3_init_16 : decode cX3_init 16 = .ok (.aload_n 0, 1) := by decide +kernel
theorem dX3_init_17 : decode cX3_init 17 = .ok (.getfield 11, 3) := by decide +kernel
theorem dX3_init_20 : decode cX3_init 20 = .ok (.arraylength, 1) := by decide +kernel
theorem dX3_init_21 : decode cX3_init 21 = .ok (.if_icmp .ge 22, 3) := by decide +kernel
theorem dX3_init_24 : decode cX3_init 24 = .ok (.aload_n 0, 1) := by decide +kernel
theorem dX3_init_25 : decode cX3_init 25 = .ok (.getfield 11, 3) := by decide +kernel
theorem dX3_init_28 : decode cX3_init 28 = .ok (.iload_n 1, 1) := by decide +kernel
theorem dX3_init_29 : decode cX3_init 29 = .ok (.new 9, 3) := by decide +kernel
theorem dX3_init_32 : decode cX3_init 32 = .ok (.dup, 1) := by decide +kernel
theorem dX3_init_33 : decode cX3_init 33 = .ok (.invokespecial 17, 3) := by decide +kernel
theorem dX3_init_36 : decode cX3_init 36 = .ok (.aastore, 1) := by decide +kernel
theorem dX3_init_37 : decode cX3_init 37 = .ok (.iinc 1 1, 3) := by decide +kernel
theorem dX3_init_40 : decode cX3_init 40 = .ok (.goto (-25), 3) := by decide +kernel
theorem dX3_init_43 : decode cX3_init 43 = .ok (.aload_n 0, 1) := by decide +kernel
theorem dX3_init_44 : decode cX3_init 44 = .ok (.iconst 0, 1) := by decide +kernel
theorem dX3_init_45 : decode cX3_init 45 = .ok (.putfield 18, 3) := by decide +kernel
theorem dX3_init_48 : decode cX3_init 48 = .ok (.aload_n 0, 1) := by decide +kernel
theorem dX3_init_49 : decode cX3_init 49 = .ok (.iconst 0, 1) := by decide +kernel
theorem dX3_init_50 : decode cX3_init 50 = .ok (.putfield 22, 3) := by decide +kernel
theorem dX3_init_53 : decode cX3_init 53 = .ok (.return_, 1) := by decide +kernel
theorem dX3_keep_0 : decode cX3_keep 0 = .ok (.aload_n 0, 1) := by decide +kernel
theorem dX3_keep_1 : decode cX3_keep 1 = .ok (.aload_n 0, 1) := by decide +kernel
theorem dX3_keep_2 : decode cX3_keep 2 = .ok (.getfield 18, 3) := by decide +kernel
theorem dX3_keep_5 : decode cX3_keep 5 = .ok (.iconst 1, 1) := by decide +kernel
theorem dX3_keep_6 : decode cX3_keep 6 = .ok (.iadd, 1) := by decide +kernel
theorem dX3_keep_7 : decode cX3_keep 7 = .ok (.aload_n 0, 1) := by decide +kernel
theorem dX3_keep_8 : decode cX3_keep 8 = .ok (.getfield 11, 3) := by decide +kernel
theorem dX3_keep_11 : decode cX3_keep 11 = .ok (.arraylength, 1) := by decide +kernel
theorem dX3_keep_12 : decode cX3_keep 12 = .ok (.if_icmp .ge 12, 3) := by decide +kernel
theorem dX3_keep_15 : decode cX3_keep 15 = .ok (.aload_n 0, 1) := by decide +kernel
theorem dX3_keep_16 : decode cX3_keep 16 = .ok (.getfield 18, 3) := by decide +kernel
theorem dX3_keep_19 : decode cX3_keep 19 = .ok (.iconst 1, 1) := by decide +kernel
theorem dX3_keep_20 : decode cX3_keep 20 = .ok (.iadd, 1) := by decide +kernel
theorem dX3_keep_21 : decode cX3_keep 21 = .ok (.goto 4, 3) := by decide +kernel
theorem dX3_keep_24 : decode cX3_keep 24 = .ok (.iconst 0, 1) := by decide +kernel
theorem dX3_keep_25 : decode cX3_keep 25 = .ok (.putfield 18, 3) := by decide +kernel
theorem dX3_keep_28 : decode cX3_keep 28 = .ok (.aload_n 0, 1) := by decide +kernel
theorem dX3_keep_29 : decode cX3_keep 29 = .ok (.getfield 18, 3) := by decide +kernel
theorem dX3_keep_32 : decode cX3_keep 32 = .ok (.ifCond .lt 46, 3) := by decide +kernel
theorem dX3_keep_35 : decode cX3_keep 35 = .ok (.aload_n 0, 1) := by decide +kernel
theorem dX3_keep_36 : decode cX3_keep 36 = .ok (.getfield 18, 3) := by decide +kernel
theorem dX3_keep_39 : decode cX3_keep 39 = .ok (.aload_n 0, 1) := by decide +kernel
theorem dX3_keep_40 : decode cX3_keep 40 = .ok (.getfield 11, 3) := by decide +kernel
theorem dX3_keep_43 : decode cX3_keep 43 = .ok (.arraylength, 1) := by decide +kernel
theorem dX3_keep_44 : decode cX3_keep 44 = .ok (.if_icmp .ge 34, 3) := by decide +kernel
theorem dX3_keep_47 : decode cX3_keep 47 = .ok (.aload_n 0, 1) := by decide +kernel
theorem dX3_keep_48 : decode cX3_keep 48 = .ok (.getfield 11, 3) := by decide +kernel
theorem dX3_keep_51 : decode cX3_keep 51 = .ok (.aload_n 0, 1) := by decide +kernel
theorem dX3_keep_52 : decode cX3_keep 52 = .ok (.getfield 18, 3) := by decide +kernel
theorem dX3_keep_55 : decode cX3_keep 55 = .ok (.aaload, 1) := by decide +kernel
theorem dX3_keep_56 : decode cX3_keep 56 = .ok (.aload_n 1, 1) := by decide +kernel
theorem dX3_keep_57 : decode cX3_keep 57 = .ok (.invokevirtual 25, 3) := by decide +kernel
theorem dX3_keep_60 : decode cX3_keep 60 = .ok (.aload_n 0, 1) := by decide +kernel
theorem dX3_keep_61 : decode cX3_keep 61 = .ok (.aload_n 0, 1) := by decide +kernel
theorem dX3_keep_62 : decode cX3_keep 62 = .ok (.getfield 22, 3) := by decide +kernel
theorem dX3_keep_65 : decode cX3_keep 65 = .ok (.iconst 1, 1) := by decide +kernel
theorem dX3_keep_66 : decode cX3_keep 66 = .ok (.iadd, 1) := by decide +kernel
theorem dX3_keep_67 : decode cX3_keep 67 = .ok (.aload_n 0, 1) := by decide +kernel
theorem dX3_keep_68 : decode cX3_keep 68 = .ok (.getfield 11, 3) := by decide +kernel
theorem dX3_keep_71 : decode cX3_keep 71 = .ok (.arraylength, 1) := by decide +kernel
theorem dX3_keep_72 : decode cX3_keep 72 = .ok (.invokestatic 29, 3) := by decide +kernel
theorem dX3_keep_75 : decode cX3_keep 75 = .ok (.putfield 22, 3) := by decide +kernel
theorem dX3_keep_78 : decode cX3_keep 78 = .ok (.return_, 1) := by decide +kernel
theorem dX3_takeBack_0 : decode cX3_takeBack 0 = .ok (.aload_n 0, 1) := by decide +kernel
theorem dX3_takeBack_1 : decode cX3_takeBack 1 = .ok (.getfield 22, 3) := by decide +kernel
theorem dX3_takeBack_4 : decode cX3_takeBack 4 = .ok (.ifCond .le 22, 3) := by decide +kernel
theorem dX3_takeBack_7 : decode cX3_takeBack 7 = .ok (.aload_n 0, 1) := by decide +kernel
theorem dX3_takeBack_8 : decode cX3_takeBack 8 = .ok (.getfield 18, 3) := by decide +kernel
theorem dX3_takeBack_11 : decode cX3_takeBack 11 = .ok (.ifCond .lt 15, 3) := by decide +kernel
theorem dX3_takeBack_14 : decode cX3_takeBack 14 = .ok (.aload_n 0, 1) := by decide +kernel
theorem dX3_takeBack_15 : decode cX3_takeBack 15 = .ok (.getfield 18, 3) := by decide +kernel
theorem dX3_takeBack_18 : decode cX3_takeBack 18 = .ok (.aload_n 0, 1) := by decide +kernel
theorem dX3_takeBack_19 : decode cX3_takeBack 19 = .ok (.getfield 11, 3) := by decide +kernel
theorem dX3_takeBack_22 : decode cX3_takeBack 22 = .ok (.arraylength, 1) := by decide +kernel
theorem dX3_takeBack_23 : decode cX3_takeBack 23 = .ok (.if_icmp .lt 5, 3) := by decide +kernel
theorem dX3_takeBack_26 : decode cX3_takeBack 26 = .ok (.iconst (-1), 1) := by decide +kernel
theorem dX3_takeBack_27 : decode cX3_takeBack 27 = .ok (.ireturn, 1) := by decide +kernel
theorem dX3_takeBack_28 : decode cX3_takeBack 28 = .ok (.aload_n 1, 1) := by decide +kernel
theorem dX3_takeBack_29 : decode cX3_takeBack 29 = .ok (.aload_n 0, 1) := by decide +kernel
theorem dX3_takeBack_30 : decode cX3_takeBack 30 = .ok (.getfield 11, 3) := by decide +kernel
theorem dX3_takeBack_33 : decode cX3_takeBack 33 = .ok (.aload_n 0, 1) := by decide +kernel
theorem dX3_takeBack_34 : decode cX3_takeBack 34 = .ok (.getfield 18, 3) := by decide +kernel
theorem dX3_takeBack_37 : decode cX3_takeBack 37 = .ok (.aaload, 1) := by decide +kernel
theorem dX3_takeBack_38 : decode cX3_takeBack 38 = .ok (.invokevirtual 25, 3) := by decide +kernel
theorem dX3_takeBack_41 : decode cX3_takeBack 41 = .ok (.aload_n 0, 1) := by decide +kernel
theorem dX3_takeBack_42 : decode cX3_takeBack 42 = .ok (.aload_n 0, 1) := by decide +kernel
theorem dX3_takeBack_43 : decode cX3_takeBack 43 = .ok (.getfield 18, 3) := by decide +kernel
theorem dX3_takeBack_46 : decode cX3_takeBack 46 = .ok (.ifCond .le 12, 3) := by decide +kernel
theorem dX3_takeBack_49 : decode cX3_takeBack 49 = .ok (.aload_n 0, 1) := by decide +kernel
theorem dX3_takeBack_50 : decode cX3_takeBack 50 = .ok (.getfield 18, 3) := by decide +kernel
theorem dX3_takeBack_53 : decode cX3_takeBack 53 = .ok (.iconst 1, 1) := by decide +kernel
theorem dX3_takeBack_54 : decode cX3_takeBack 54 = .ok (.isub, 1) := by decide +kernel
theorem dX3_takeBack_55 : decode cX3_takeBack 55 = .ok (.goto 10, 3) := by decide +kernel
theorem dX3_takeBack_58 : decode cX3_takeBack 58 = .ok (.aload_n 0, 1) := by decide +kernel
theorem dX3_takeBack_59 : decode cX3_takeBack 59 = .ok (.getfield 11, 3) := by decide +kernel
theorem dX3_takeBack_62 : decode cX3_takeBack 62 = .ok (.arraylength, 1) := by decide +kernel
theorem dX3_takeBack_63 : decode cX3_takeBack 63 = .ok (.iconst 1, 1) := by decide +kernel
theorem dX3_takeBack_64 : decode cX3_takeBack 64 = .ok (.isub, 1) := by decide +kernel
theorem dX3_takeBack_65 : decode cX3_takeBack 65 = .ok (.putfield 18, 3) := by decide +kernel
theorem dX3_takeBack_68 : decode cX3_takeBack 68 = .ok (.aload_n 0, 1) := by decide +kernel
theorem dX3_takeBack_69 : decode cX3_takeBack 69 = .ok (.dup, 1) := by decide +kernel
theorem dX3_takeBack_70 : decode cX3_takeBack 70 = .ok (.getfield 22, 3) := by decide +kernel
theorem dX3_takeBack_73 : decode cX3_takeBack 73 = .ok (.iconst 1, 1) := by decide +kernel
theorem dX3_takeBack_74 : decode cX3_takeBack 74 = .ok (.isub, 1) := by decide +kernel
theorem dX3_takeBack_75 : decode cX3_takeBack 75 = .ok (.putfield 22, 3) := by decide +kernel
theorem dX3_takeBack_78 : decode cX3_takeBack 78 = .ok (.aload_n 0, 1) := by decide +kernel
theorem dX3_takeBack_79 : decode cX3_takeBack 79 = .ok (.getfield 22, 3) := by decide +kernel
theorem dX3_takeBack_82 : decode cX3_takeBack 82 = .ok (.ireturn, 1) := by decide +kernel
theorem dX4_init_0 : decode cX4_init 0 = .ok (.aload_n 0, 1) := by decide +kernel
theorem dX4_init_1 : decode cX4_init 1 = .ok (.invokespecial 1, 3) := by decide +kernel
theorem dX4_init_4 : decode cX4_init 4 = .ok (.aload_n 0, 1) := by decide +kernel
theorem dX4_init_5 : decode cX4_init 5 = .ok (.iload_n 1, 1) := by decide +kernel
theorem dX4_init_6 : decode cX4_init 6 = .ok (.putfield 7, 3) := by decide +kernel
theorem dX4_init_9 : decode cX4_init 9 = .ok (.return_, 1) := by decide +kernel
theorem dX4_serve_0 : decode cX4_serve 0 = .ok (.aload_n 0, 1) := by decide +kernel
theorem dX4_serve_1 : decode cX4_serve 1 = .ok (.iload_n 1, 1) := by decide +kernel
theorem dX4_serve_2 : decode cX4_serve 2 = .ok (.putfield 13, 3) := by decide +kernel
theorem dX4_serve_5 : decode cX4_serve 5 = .ok (.aload_n 0, 1) := by decide +kernel
theorem dX4_serve_6 : decode cX4_serve 6 = .ok (.iload_n 2, 1) := by decide +kernel
theorem dX4_serve_7 : decode cX4_serve 7 = .ok (.putfield 16, 3) := by decide +kernel
theorem dX4_serve_10 : decode cX4_serve 10 = .ok (.return_, 1) := by decide +kernel
theorem dX4_copyFrom_0 : decode cX4_copyFrom 0 = .ok (.aload_n 0, 1) := by decide +kernel
theorem dX4_copyFrom_1 : decode cX4_copyFrom 1 = .ok (.aload_n 1, 1) := by decide +kernel
theorem dX4_copyFrom_2 : decode cX4_copyFrom 2 = .ok (.getfield 13, 3) := by decide +kernel
theorem dX4_copyFrom_5 : decode cX4_copyFrom 5 = .ok (.putfield 13, 3) := by decide +kernel
theorem dX4_copyFrom_8 : decode cX4_copyFrom 8 = .ok (.aload_n 0, 1) := by decide +kernel
theorem dX4_copyFrom_9 : decode cX4_copyFrom 9 = .ok (.aload_n 1, 1) := by decide +kernel
theorem dX4_copyFrom_10 : decode cX4_copyFrom 10 = .ok (.getfield 16, 3) := by decide +kernel
theorem dX4_copyFrom_13 : decode cX4_copyFrom 13 = .ok (.putfield 16, 3) := by decide +kernel
theorem dX4_copyFrom_16 : decode cX4_copyFrom 16 = .ok (.return_, 1) := by decide +kernel
theorem dX5_init_0 : decode cX5_init 0 = .ok (.aload_n 0, 1) := by decide +kernel
theorem dX5_init_1 : decode cX5_init 1 = .ok (.invokespecial 1, 3) := by decide +kernel
theorem dX5_init_4 : decode cX5_init 4 = .ok (.aload_n 0, 1) := by decide +kernel
theorem dX5_init_5 : decode cX5_init 5 = .ok (.iload_n 1, 1) := by decide +kernel
theorem dX5_init_6 : decode cX5_init 6 = .ok (.putfield 7, 3) := by decide +kernel
theorem dX5_init_9 : decode cX5_init 9 = .ok (.return_, 1) := by decide +kernel
theorem dX5_serve_0 : decode cX5_serve 0 = .ok (.aload_n 0, 1) := by decide +kernel
theorem dX5_serve_1 : decode cX5_serve 1 = .ok (.iload_n 1, 1) := by decide +kernel
theorem dX5_serve_2 : decode cX5_serve 2 = .ok (.putfield 13, 3) := by decide +kernel
theorem dX5_serve_5 : decode cX5_serve 5 = .ok (.aload_n 0, 1) := by decide +kernel
theorem dX5_serve_6 : decode cX5_serve 6 = .ok (.iconst 1, 1) := by decide +kernel
theorem dX5_serve_7 : decode cX5_serve 7 = .ok (.putfield 18, 3) := by decide +kernel
theorem dX5_serve_10 : decode cX5_serve 10 = .ok (.aload_n 0, 1) := by decide +kernel
theorem dX5_serve_11 : decode cX5_serve 11 = .ok (.iconst 0, 1) := by decide +kernel
theorem dX5_serve_12 : decode cX5_serve 12 = .ok (.putfield 21, 3) := by decide +kernel
theorem dX5_serve_15 : decode cX5_serve 15 = .ok (.return_, 1) := by decide +kernel
theorem dX5_copyFrom_0 : decode cX5_copyFrom 0 = .ok (.aload_n 0, 1) := by decide +kernel
theorem dX5_copyFrom_1 : decode cX5_copyFrom 1 = .ok (.aload_n 1, 1) := by decide +kernel
theorem dX5_copyFrom_2 : decode cX5_copyFrom 2 = .ok (.getfield 13, 3) := by decide +kernel
theorem dX5_copyFrom_5 : decode cX5_copyFrom 5 = .ok (.putfield 13, 3) := by decide +kernel
theorem dX5_copyFrom_8 : decode cX5_copyFrom 8 = .ok (.aload_n 0, 1) := by decide +kernel
theorem dX5_copyFrom_9 : decode cX5_copyFrom 9 = .ok (.aload_n 1, 1) := by decide +kernel
theorem dX5_copyFrom_10 : decode cX5_copyFrom 10 = .ok (.getfield 18, 3) := by decide +kernel
theorem dX5_copyFrom_13 : decode cX5_copyFrom 13 = .ok (.putfield 18, 3) := by decide +kernel
theorem dX5_copyFrom_16 : decode cX5_copyFrom 16 = .ok (.aload_n 0, 1) := by decide +kernel
theorem dX5_copyFrom_17 : decode cX5_copyFrom 17 = .ok (.aload_n 1, 1) := by decide +kernel
theorem dX5_copyFrom_18 : decode cX5_copyFrom 18 = .ok (.getfield 21, 3) := by decide +kernel
theorem dX5_copyFrom_21 : decode cX5_copyFrom 21 = .ok (.putfield 21, 3) := by decide +kernel
theorem dX5_copyFrom_24 : decode cX5_copyFrom 24 = .ok (.return_, 1) := by decide +kernel
theorem dX6_init_0 : decode cX6_init 0 = .ok (.aload_n 0, 1) := by decide +kernel
theorem dX6_init_1 : decode cX6_init 1 = .ok (.invokespecial 3, 3) := by decide +kernel
theorem dX6_init_4 : decode cX6_init 4 = .ok (.aload_n 0, 1) := by decide +kernel
theorem dX6_init_5 : decode cX6_init 5 = .ok (.iload_n 1, 1) := by decide +kernel
theorem dX6_init_6 : decode cX6_init 6 = .ok (.putfield 9, 3) := by decide +kernel
theorem dX6_init_9 : decode cX6_init 9 = .ok (.aload_n 0, 1) := by decide +kernel
theorem dX6_init_10 : decode cX6_init 10 = .ok (.iconst 3, 1) := by decide +kernel
theorem dX6_init_11 : decode cX6_init 11 = .ok (.newarray .int, 2) := by decide +kernel
theorem dX6_init_13 : decode cX6_init 13 = .ok (.putfield 15, 3) := by decide +kernel
theorem dX6_init_16 : decode cX6_init 16 = .ok (.return_, 1) := by decide +kernel
theorem dX6_tell_0 : decode cX6_tell 0 = .ok (.aload_n 0, 1) := by decide +kernel
theorem dX6_tell_1 : decode cX6_tell 1 = .ok (.iload_n 1, 1) := by decide +kernel
theorem dX6_tell_2 : decode cX6_tell 2 = .ok (.putfield 19, 3) := by decide +kernel
theorem dX6_tell_5 : decode cX6_tell 5 = .ok (.aload_n 0, 1) := by decide +kernel
theorem dX6_tell_6 : decode cX6_tell 6 = .ok (.iload_n 2, 1) := by decide +kernel
theorem dX6_tell_7 : decode cX6_tell 7 = .ok (.putfield 22, 3) := by decide +kernel
theorem dX6_tell_10 : decode cX6_tell 10 = .ok (.aload_n 0, 1) := by decide +kernel
theorem dX6_tell_11 : decode cX6_tell 11 = .ok (.iconst 0, 1) := by decide +kernel
theorem dX6_tell_12 : decode cX6_tell 12 = .ok (.putfield 25, 3) := by decide +kernel
theorem dX6_tell_15 : decode cX6_tell 15 = .ok (.return_, 1) := by decide +kernel
theorem dX6_addChoice_0 : decode cX6_addChoice 0 = .ok (.aload_n 0, 1) := by decide +kernel
theorem dX6_addChoice_1 : decode cX6_addChoice 1 = .ok (.getfield 25, 3) := by decide +kernel
theorem dX6_addChoice_4 : decode cX6_addChoice 4 = .ok (.ifCond .lt 35, 3) := by decide +kernel
theorem dX6_addChoice_7 : decode cX6_addChoice 7 = .ok (.aload_n 0, 1) := by decide +kernel
theorem dX6_addChoice_8 : decode cX6_addChoice 8 = .ok (.getfield 25, 3) := by decide +kernel
theorem dX6_addChoice_11 : decode cX6_addChoice 11 = .ok (.aload_n 0, 1) := by decide +kernel
theorem dX6_addChoice_12 : decode cX6_addChoice 12 = .ok (.getfield 15, 3) := by decide +kernel
theorem dX6_addChoice_15 : decode cX6_addChoice 15 = .ok (.arraylength, 1) := by decide +kernel
theorem dX6_addChoice_16 : decode cX6_addChoice 16 = .ok (.if_icmp .ge 23, 3) := by decide +kernel
theorem dX6_addChoice_19 : decode cX6_addChoice 19 = .ok (.aload_n 0, 1) := by decide +kernel
theorem dX6_addChoice_20 : decode cX6_addChoice 20 = .ok (.getfield 15, 3) := by decide +kernel
theorem dX6_addChoice_23 : decode cX6_addChoice 23 = .ok (.aload_n 0, 1) := by decide +kernel
theorem dX6_addChoice_24 : decode cX6_addChoice 24 = .ok (.getfield 25, 3) := by decide +kernel
theorem dX6_addChoice_27 : decode cX6_addChoice 27 = .ok (.iload_n 1, 1) := by decide +kernel
theorem dX6_addChoice_28 : decode cX6_addChoice 28 = .ok (.iastore, 1) := by decide +kernel
theorem dX6_addChoice_29 : decode cX6_addChoice 29 = .ok (.aload_n 0, 1) := by decide +kernel
theorem dX6_addChoice_30 : decode cX6_addChoice 30 = .ok (.dup, 1) := by decide +kernel
theorem dX6_addChoice_31 : decode cX6_addChoice 31 = .ok (.getfield 25, 3) := by decide +kernel
theorem dX6_addChoice_34 : decode cX6_addChoice 34 = .ok (.iconst 1, 1) := by decide +kernel
theorem dX6_addChoice_35 : decode cX6_addChoice 35 = .ok (.iadd, 1) := by decide +kernel
theorem dX6_addChoice_36 : decode cX6_addChoice 36 = .ok (.putfield 25, 3) := by decide +kernel
theorem dX6_addChoice_39 : decode cX6_addChoice 39 = .ok (.return_, 1) := by decide +kernel
theorem dX6_choiceAt_0 : decode cX6_choiceAt 0 = .ok (.iload_n 1, 1) := by decide +kernel
theorem dX6_choiceAt_1 : decode cX6_choiceAt 1 = .ok (.ifCond .lt 29, 3) := by decide +kernel
theorem dX6_choiceAt_4 : decode cX6_choiceAt 4 = .ok (.iload_n 1, 1) := by decide +kernel
theorem dX6_choiceAt_5 : decode cX6_choiceAt 5 = .ok (.aload_n 0, 1) := by decide +kernel
theorem dX6_choiceAt_6 : decode cX6_choiceAt 6 = .ok (.getfield 25, 3) := by decide +kernel
theorem dX6_choiceAt_9 : decode cX6_choiceAt 9 = .ok (.if_icmp .ge 21, 3) := by decide +kernel
theorem dX6_choiceAt_12 : decode cX6_choiceAt 12 = .ok (.iload_n 1, 1) := by decide +kernel
theorem dX6_choiceAt_13 : decode cX6_choiceAt 13 = .ok (.aload_n 0, 1) := by decide +kernel
theorem dX6_choiceAt_14 : decode cX6_choiceAt 14 = .ok (.getfield 15, 3) := by decide +kernel
theorem dX6_choiceAt_17 : decode cX6_choiceAt 17 = .ok (.arraylength, 1) := by decide +kernel
theorem dX6_choiceAt_18 : decode cX6_choiceAt 18 = .ok (.if_icmp .ge 12, 3) := by decide +kernel
theorem dX6_choiceAt_21 : decode cX6_choiceAt 21 = .ok (.aload_n 0, 1) := by decide +kernel
theorem dX6_choiceAt_22 : decode cX6_choiceAt 22 = .ok (.getfield 15, 3) := by decide +kernel
theorem dX6_choiceAt_25 : decode cX6_choiceAt 25 = .ok (.iload_n 1, 1) := by decide +kernel
theorem dX6_choiceAt_26 : decode cX6_choiceAt 26 = .ok (.iaload, 1) := by decide +kernel
theorem dX6_choiceAt_27 : decode cX6_choiceAt 27 = .ok (.goto 4, 3) := by decide +kernel
theorem dX6_choiceAt_30 : decode cX6_choiceAt 30 = .ok (.iconst (-1), 1) := by decide +kernel
theorem dX6_choiceAt_31 : decode cX6_choiceAt 31 = .ok (.ireturn, 1) := by decide +kernel
theorem dX6_hasChoice_0 : decode cX6_hasChoice 0 = .ok (.iconst 0, 1) := by decide +kernel
theorem dX6_hasChoice_1 : decode cX6_hasChoice 1 = .ok (.istore_n 2, 1) := by decide +kernel
theorem dX6_hasChoice_2 : decode cX6_hasChoice 2 = .ok (.iload_n 2, 1) := by decide +kernel
theorem dX6_hasChoice_3 : decode cX6_hasChoice 3 = .ok (.aload_n 0, 1) := by decide +kernel
theorem dX6_hasChoice_4 : decode cX6_hasChoice 4 = .ok (.getfield 25, 3) := by decide +kernel
theorem dX6_hasChoice_7 : decode cX6_hasChoice 7 = .ok (.if_icmp .ge 20, 3) := by decide +kernel
theorem dX6_hasChoice_10 : decode cX6_hasChoice 10 = .ok (.aload_n 0, 1) := by decide +kernel
theorem dX6_hasChoice_11 : decode cX6_hasChoice 11 = .ok (.iload_n 2, 1) := by decide +kernel
theorem dX6_hasChoice_12 : decode cX6_hasChoice 12 = .ok (.invokevirtual 28, 3) := by decide +kernel
theorem dX6_hasChoice_15 : decode cX6_hasChoice 15 = .ok (.iload_n 1, 1) := by decide +kernel
theorem dX6_hasChoice_16 : decode cX6_hasChoice 16 = .ok (.if_icmp .ne 5, 3) := by decide +kernel
theorem dX6_hasChoice_19 : decode cX6_hasChoice 19 = .ok (.iconst 1, 1) := by decide +kernel
theorem dX6_hasChoice_20 : decode cX6_hasChoice 20 = .ok (.ireturn, 1) := by decide +kernel
theorem dX6_hasChoice_21 : decode cX6_hasChoice 21 = .ok (.iinc 2 1, 3) := by decide +kernel
theorem dX6_hasChoice_24 : decode cX6_hasChoice 24 = .ok (.goto (-22), 3) := by decide +kernel
theorem dX6_hasChoice_27 : decode cX6_hasChoice 27 = .ok (.iconst 0, 1) := by decide +kernel
theorem dX6_hasChoice_28 : decode cX6_hasChoice 28 = .ok (.ireturn, 1) := by decide +kernel
theorem dX6_copyFrom_0 : decode cX6_copyFrom 0 = .ok (.aload_n 0, 1) := by decide +kernel
theorem dX6_copyFrom_1 : decode cX6_copyFrom 1 = .ok (.aload_n 1, 1) := by decide +kernel
theorem dX6_copyFrom_2 : decode cX6_copyFrom 2 = .ok (.getfield 19, 3) := by decide +kernel
theorem dX6_copyFrom_5 : decode cX6_copyFrom 5 = .ok (.aload_n 1, 1) := by decide +kernel
theorem dX6_copyFrom_6 : decode cX6_copyFrom 6 = .ok (.getfield 22, 3) := by decide +kernel
theorem dX6_copyFrom_9 : decode cX6_copyFrom 9 = .ok (.invokevirtual 32, 3) := by decide +kernel
theorem dX6_copyFrom_12 : decode cX6_copyFrom 12 = .ok (.iconst 0, 1) := by decide +kernel
theorem dX6_copyFrom_13 : decode cX6_copyFrom 13 = .ok (.istore_n 2, 1) := by decide +kernel
theorem dX6_copyFrom_14 : decode cX6_copyFrom 14 = .ok (.iload_n 2, 1) := by decide +kernel
theorem dX6_copyFrom_15 : decode cX6_copyFrom 15 = .ok (.aload_n 1, 1) := by decide +kernel
theorem dX6_copyFrom_16 : decode cX6_copyFrom 16 = .ok (.getfield 25, 3) := by decide +kernel
theorem dX6_copyFrom_19 : decode cX6_copyFrom 19 = .ok (.if_icmp .ge 18, 3) := by decide +kernel
theorem dX6_copyFrom_22 : decode cX6_copyFrom 22 = .ok (.aload_n 0, 1) := by decide +kernel
theorem dX6_copyFrom_23 : decode cX6_copyFrom 23 = .ok (.aload_n 1, 1) := by decide +kernel
theorem dX6_copyFrom_24 : decode cX6_copyFrom 24 = .ok (.iload_n 2, 1) := by decide +kernel
theorem dX6_copyFrom_25 : decode cX6_copyFrom 25 = .ok (.invokevirtual 28, 3) := by decide +kernel
theorem dX6_copyFrom_28 : decode cX6_copyFrom 28 = .ok (.invokevirtual 36, 3) := by decide +kernel
theorem dX6_copyFrom_31 : decode cX6_copyFrom 31 = .ok (.iinc 2 1, 3) := by decide +kernel
theorem dX6_copyFrom_34 : decode cX6_copyFrom 34 = .ok (.goto (-20), 3) := by decide +kernel
theorem dX6_copyFrom_37 : decode cX6_copyFrom 37 = .ok (.return_, 1) := by decide +kernel
theorem dX7_with_0 : decode cX7_with 0 = .ok (.iload_n 0, 1) := by decide +kernel
theorem dX7_with_1 : decode cX7_with 1 = .ok (.bipush 10, 2) := by decide +kernel
theorem dX7_with_3 : decode cX7_with 3 = .ok (.imul, 1) := by decide +kernel
theorem dX7_with_4 : decode cX7_with 4 = .ok (.iload_n 1, 1) := by decide +kernel
theorem dX7_with_5 : decode cX7_with 5 = .ok (.iadd, 1) := by decide +kernel
theorem dX7_with_6 : decode cX7_with 6 = .ok (.ireturn, 1) := by decide +kernel
theorem dX7_lengthOf_0 : decode cX7_lengthOf 0 = .ok (.iconst 0, 1) := by decide +kernel
theorem dX7_lengthOf_1 : decode cX7_lengthOf 1 = .ok (.istore_n 1, 1) := by decide +kernel
theorem dX7_lengthOf_2 : decode cX7_lengthOf 2 = .ok (.iload_n 0, 1) := by decide +kernel
theorem dX7_lengthOf_3 : decode cX7_lengthOf 3 = .ok (.istore_n 2, 1) := by decide +kernel
theorem dX7_lengthOf_4 : decode cX7_lengthOf 4 = .ok (.iload_n 2, 1) := by decide +kernel
theorem dX7_lengthOf_5 : decode cX7_lengthOf 5 = .ok (.bipush 10, 2) := by decide +kernel
theorem dX7_lengthOf_7 : decode cX7_lengthOf 7 = .ok (.if_icmp .lt 14, 3) := by decide +kernel
theorem dX7_lengthOf_10 : decode cX7_lengthOf 10 = .ok (.iinc 1 1, 3) := by decide +kernel
theorem dX7_lengthOf_13 : decode cX7_lengthOf 13 = .ok (.iload_n 2, 1) := by decide +kernel
theorem dX7_lengthOf_14 : decode cX7_lengthOf 14 = .ok (.bipush 10, 2) := by decide +kernel
theorem dX7_lengthOf_16 : decode cX7_lengthOf 16 = .ok (.idiv, 1) := by decide +kernel
theorem dX7_lengthOf_17 : decode cX7_lengthOf 17 = .ok (.istore_n 2, 1) := by decide +kernel
theorem dX7_lengthOf_18 : decode cX7_lengthOf 18 = .ok (.goto (-14), 3) := by decide +kernel
theorem dX7_lengthOf_21 : decode cX7_lengthOf 21 = .ok (.iload_n 1, 1) := by decide +kernel
theorem dX7_lengthOf_22 : decode cX7_lengthOf 22 = .ok (.ireturn, 1) := by decide +kernel
theorem dX7_digitAt_0 : decode cX7_digitAt 0 = .ok (.iload_n 0, 1) := by decide +kernel
theorem dX7_digitAt_1 : decode cX7_digitAt 1 = .ok (.istore_n 2, 1) := by decide +kernel
theorem dX7_digitAt_2 : decode cX7_digitAt 2 = .ok (.iload_n 0, 1) := by decide +kernel
theorem dX7_digitAt_3 : decode cX7_digitAt 3 = .ok (.invokestatic 7, 3) := by decide +kernel
theorem dX7_digitAt_6 : decode cX7_digitAt 6 = .ok (.iconst 1, 1) := by decide +kernel
theorem dX7_digitAt_7 : decode cX7_digitAt 7 = .ok (.isub, 1) := by decide +kernel
theorem dX7_digitAt_8 : decode cX7_digitAt 8 = .ok (.istore_n 3, 1) := by decide +kernel
theorem dX7_digitAt_9 : decode cX7_digitAt 9 = .ok (.iload_n 3, 1) := by decide +kernel
theorem dX7_digitAt_10 : decode cX7_digitAt 10 = .ok (.iload_n 1, 1) := by decide +kernel
theorem dX7_digitAt_11 : decode cX7_digitAt 11 = .ok (.if_icmp .le 14, 3) := by decide +kernel
theorem dX7_digitAt_14 : decode cX7_digitAt 14 = .ok (.iload_n 2, 1) := by decide +kernel
theorem dX7_digitAt_15 : decode cX7_digitAt 15 = .ok (.bipush 10, 2) := by decide +kernel
theorem dX7_digitAt_17 : decode cX7_digitAt 17 = .ok (.idiv, 1) := by decide +kernel
theorem dX7_digitAt_18 : decode cX7_digitAt 18 = .ok (.istore_n 2, 1) := by decide +kernel
theorem dX7_digitAt_19 : decode cX7_digitAt 19 = .ok (.iinc 3 (-1), 3) := by decide +kernel
theorem dX7_digitAt_22 : decode cX7_digitAt 22 = .ok (.goto (-13), 3) := by decide +kernel
theorem dX7_digitAt_25 : decode cX7_digitAt 25 = .ok (.iload_n 2, 1) := by decide +kernel
theorem dX7_digitAt_26 : decode cX7_digitAt 26 = .ok (.bipush 10, 2) := by decide +kernel
theorem dX7_digitAt_28 : decode cX7_digitAt 28 = .ok (.irem, 1) := by decide +kernel
theorem dX7_digitAt_29 : decode cX7_digitAt 29 = .ok (.ireturn, 1) := by decide +kernel

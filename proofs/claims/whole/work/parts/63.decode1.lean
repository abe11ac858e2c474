theorem dX1_init_0 : decode cX1_init 0 = .ok (.aload_n 0, 1) := by decide +kernel
theorem dX1_init_1 : decode cX1_init 1 = .ok (.invokespecial 1, 3) := by decide +kernel
theorem dX1_init_4 : decode cX1_init 4 = .ok (.aload_n 0, 1) := by decide +kernel
theorem dX1_init_5 : decode cX1_init 5 = .ok (.sipush 480, 3) := by decide +kernel
theorem dX1_init_8 : decode cX1_init 8 = .ok (.newarray .int, 2) := by decide +kernel
theorem dX1_init_10 : decode cX1_init 10 = .ok (.putfield 7, 3) := by decide +kernel
theorem dX1_init_13 : decode cX1_init 13 = .ok (.aload_n 0, 1) := by decide +kernel
theorem dX1_init_14 : decode cX1_init 14 = .ok (.bipush 24, 2) := by decide +kernel
theorem dX1_init_16 : decode cX1_init 16 = .ok (.newarray .int, 2) := by decide +kernel
theorem dX1_init_18 : decode cX1_init 18 = .ok (.putfield 13, 3) := by decide +kernel
theorem dX1_init_21 : decode cX1_init 21 = .ok (.aload_n 0, 1) := by decide +kernel
theorem dX1_init_22 : decode cX1_init 22 = .ok (.sipush 960, 3) := by decide +kernel
theorem dX1_init_25 : decode cX1_init 25 = .ok (.newarray .int, 2) := by decide +kernel
theorem dX1_init_27 : decode cX1_init 27 = .ok (.putfield 16, 3) := by decide +kernel
theorem dX1_init_30 : decode cX1_init 30 = .ok (.aload_n 0, 1) := by decide +kernel
theorem dX1_init_31 : decode cX1_init 31 = .ok (.sipush 960, 3) := by decide +kernel
theorem dX1_init_34 : decode cX1_init 34 = .ok (.newarray .long, 2) := by decide +kernel
theorem dX1_init_36 : decode cX1_init 36 = .ok (.putfield 19, 3) := by decide +kernel
theorem dX1_init_39 : decode cX1_init 39 = .ok (.aload_n 0, 1) := by decide +kernel
theorem dX1_init_40 : decode cX1_init 40 = .ok (.sipush 576, 3) := by decide +kernel
theorem dX1_init_43 : decode cX1_init 43 = .ok (.newarray .int, 2) := by decide +kernel
theorem dX1_init_45 : decode cX1_init 45 = .ok (.putfield 23, 3) := by decide +kernel
theorem dX1_init_48 : decode cX1_init 48 = .ok (.aload_n 0, 1) := by decide +kernel
theorem dX1_init_49 : decode cX1_init 49 = .ok (.sipush 960, 3) := by decide +kernel
theorem dX1_init_52 : decode cX1_init 52 = .ok (.newarray .int, 2) := by decide +kernel
theorem dX1_init_54 : decode cX1_init 54 = .ok (.putfield 26, 3) := by decide +kernel
theorem dX1_init_57 : decode cX1_init 57 = .ok (.aload_n 0, 1) := by decide +kernel
theorem dX1_init_58 : decode cX1_init 58 = .ok (.bipush 40, 2) := by decide +kernel
theorem dX1_init_60 : decode cX1_init 60 = .ok (.newarray .int, 2) := by decide +kernel
theorem dX1_init_62 : decode cX1_init 62 = .ok (.putfield 29, 3) := by decide +kernel
theorem dX1_init_65 : decode cX1_init 65 = .ok (.aload_n 0, 1) := by decide +kernel
theorem dX1_init_66 : decode cX1_init 66 = .ok (.invokevirtual 32, 3) := by decide +kernel
theorem dX1_init_69 : decode cX1_init 69 = .ok (.return_, 1) := by decide +kernel
theorem dX1_thrown_0 : decode cX1_thrown 0 = .ok (.aload_n 0, 1) := by decide +kernel
theorem dX1_thrown_1 : decode cX1_thrown 1 = .ok (.getfield 35, 3) := by decide +kernel
theorem dX1_thrown_4 : decode cX1_thrown 4 = .ok (.ireturn, 1) := by decide +kernel
theorem dX1_isGood_0 : decode cX1_isGood 0 = .ok (.aload_n 0, 1) := by decide +kernel
theorem dX1_isGood_1 : decode cX1_isGood 1 = .ok (.iload_n 1, 1) := by decide +kernel
theorem dX1_isGood_2 : decode cX1_isGood 2 = .ok (.putfield 35, 3) := by decide +kernel
theorem dX1_isGood_5 : decode cX1_isGood 5 = .ok (.iload_n 1, 1) := by decide +kernel
theorem dX1_isGood_6 : decode cX1_isGood 6 = .ok (.ifCond .ne 7, 3) := by decide +kernel
theorem dX1_isGood_9 : decode cX1_isGood 9 = .ok (.iconst 1, 1) := by decide +kernel
theorem dX1_isGood_10 : decode cX1_isGood 10 = .ok (.goto 4, 3) := by decide +kernel
theorem dX1_isGood_13 : decode cX1_isGood 13 = .ok (.iconst 0, 1) := by decide +kernel
theorem dX1_isGood_14 : decode cX1_isGood 14 = .ok (.ireturn, 1) := by decide +kernel
theorem dX1_isIn_0 : decode cX1_isIn 0 = .ok (.lload_n 0, 1) := by decide +kernel
theorem dX1_isIn_1 : decode cX1_isIn 1 = .ok (.lload_n 2, 1) := by decide +kernel
theorem dX1_isIn_2 : decode cX1_isIn 2 = .ok (.lcmp, 1) := by decide +kernel
theorem dX1_isIn_3 : decode cX1_isIn 3 = .ok (.ifCond .lt 14, 3) := by decide +kernel
theorem dX1_isIn_6 : decode cX1_isIn 6 = .ok (.lload_n 0, 1) := by decide +kernel
theorem dX1_isIn_7 : decode cX1_isIn 7 = .ok (.lload 4, 2) := by decide +kernel
theorem dX1_isIn_9 : decode cX1_isIn 9 = .ok (.lcmp, 1) := by decide +kernel
theorem dX1_isIn_10 : decode cX1_isIn 10 = .ok (.ifCond .gt 7, 3) := by decide +kernel
theorem dX1_isIn_13 : decode cX1_isIn 13 = .ok (.iconst 1, 1) := by decide +kernel
theorem dX1_isIn_14 : decode cX1_isIn 14 = .ok (.goto 4, 3) := by decide +kernel
theorem dX1_isIn_17 : decode cX1_isIn 17 = .ok (.iconst 0, 1) := by decide +kernel
theorem dX1_isIn_18 : decode cX1_isIn 18 = .ok (.ireturn, 1) := by decide +kernel
theorem dX1_begin_0 : decode cX1_begin 0 = .ok (.aload_n 0, 1) := by decide +kernel
theorem dX1_begin_1 : decode cX1_begin 1 = .ok (.iconst 0, 1) := by decide +kernel
theorem dX1_begin_2 : decode cX1_begin 2 = .ok (.putfield 39, 3) := by decide +kernel
theorem dX1_begin_5 : decode cX1_begin 5 = .ok (.aload_n 0, 1) := by decide +kernel
theorem dX1_begin_6 : decode cX1_begin 6 = .ok (.bipush 10, 2) := by decide +kernel
theorem dX1_begin_8 : decode cX1_begin 8 = .ok (.putfield 42, 3) := by decide +kernel
theorem dX1_begin_11 : decode cX1_begin 11 = .ok (.aload_n 0, 1) := by decide +kernel
theorem dX1_begin_12 : decode cX1_begin 12 = .ok (.iconst 5, 1) := by decide +kernel
theorem dX1_begin_13 : decode cX1_begin 13 = .ok (.putfield 45, 3) := by decide +kernel
theorem dX1_begin_16 : decode cX1_begin 16 = .ok (.aload_n 0, 1) := by decide +kernel
theorem dX1_begin_17 : decode cX1_begin 17 = .ok (.iconst 2, 1) := by decide +kernel
theorem dX1_begin_18 : decode cX1_begin 18 = .ok (.putfield 48, 3) := by decide +kernel
theorem dX1_begin_21 : decode cX1_begin 21 = .ok (.iconst 0, 1) := by decide +kernel
theorem dX1_begin_22 : decode cX1_begin 22 = .ok (.istore_n 1, 1) := by decide +kernel
theorem dX1_begin_23 : decode cX1_begin 23 = .ok (.iload_n 1, 1) := by decide +kernel
theorem dX1_begin_24 : decode cX1_begin 24 = .ok (.bipush 24, 2) := by decide +kernel
theorem dX1_begin_26 : decode cX1_begin 26 = .ok (.if_icmp .ge 16, 3) := by decide +kernel
theorem dX1_begin_29 : decode cX1_begin 29 = .ok (.aload_n 0, 1) := by decide +kernel
theorem dX1_begin_30 : decode cX1_begin 30 = .ok (.getfield 13, 3) := by decide +kernel
theorem dX1_begin_33 : decode cX1_begin 33 = .ok (.iload_n 1, 1) := by decide +kernel
theorem dX1_begin_34 : decode cX1_begin 34 = .ok (.iconst 0, 1) := by decide +kernel
theorem dX1_begin_35 : decode cX1_begin 35 = .ok (.iastore, 1) := by decide +kernel
theorem dX1_begin_36 : decode cX1_begin 36 = .ok (.iinc 1 1, 3) := by decide +kernel
theorem dX1_begin_39 : decode cX1_begin 39 = .ok (.goto (-16), 3) := by decide +kernel
theorem dX1_begin_42 : decode cX1_begin 42 = .ok (.iconst 0, 1) := by decide +kernel
theorem dX1_begin_43 : decode cX1_begin 43 = .ok (.istore_n 1, 1) := by decide +kernel
theorem dX1_begin_44 : decode cX1_begin 44 = .ok (.iload_n 1, 1) := by decide +kernel
theorem dX1_begin_45 : decode cX1_begin 45 = .ok (.iconst 2, 1) := by decide +kernel
theorem dX1_begin_46 : decode cX1_begin 46 = .ok (.if_icmp .ge 69, 3) := by decide +kernel
theorem dX1_begin_49 : decode cX1_begin 49 = .ok (.aload_n 0, 1) := by decide +kernel
theorem dX1_begin_50 : decode cX1_begin 50 = .ok (.getfield 13, 3) := by decide +kernel
theorem dX1_begin_53 : decode cX1_begin 53 = .ok (.bipush 12, 2) := by decide +kernel
theorem dX1_begin_55 : decode cX1_begin 55 = .ok (.iload_n 1, 1) := by decide +kernel
theorem dX1_begin_56 : decode cX1_begin 56 = .ok (.imul, 1) := by decide +kernel
theorem dX1_begin_57 : decode cX1_begin 57 = .ok (.iconst 5, 1) := by decide +kernel
theorem dX1_begin_58 : decode cX1_begin 58 = .ok (.iastore, 1) := by decide +kernel
theorem dX1_begin_59 : decode cX1_begin 59 = .ok (.aload_n 0, 1) := by decide +kernel
theorem dX1_begin_60 : decode cX1_begin 60 = .ok (.getfield 13, 3) := by decide +kernel
theorem dX1_begin_63 : decode cX1_begin 63 = .ok (.bipush 12, 2) := by decide +kernel
theorem dX1_begin_65 : decode cX1_begin 65 = .ok (.iload_n 1, 1) := by decide +kernel
theorem dX1_begin_66 : decode cX1_begin 66 = .ok (.imul, 1) := by decide +kernel
theorem dX1_begin_67 : decode cX1_begin 67 = .ok (.iconst 2, 1) := by decide +kernel
theorem dX1_begin_68 : decode cX1_begin 68 = .ok (.iadd, 1) := by decide +kernel
theorem dX1_begin_69 : decode cX1_begin 69 = .ok (.iconst 3, 1) := by decide +kernel
theorem dX1_begin_70 : decode cX1_begin 70 = .ok (.iastore, 1) := by decide +kernel
theorem dX1_begin_71 : decode cX1_begin 71 = .ok (.aload_n 0, 1) := by decide +kernel
theorem dX1_begin_72 : decode cX1_begin 72 = .ok (.getfield 13, 3) := by decide +kernel
theorem dX1_begin_75 : decode cX1_begin 75 = .ok (.bipush 12, 2) := by decide +kernel
theorem dX1_begin_77 : decode cX1_begin 77 = .ok (.iload_n 1, 1) := by decide +kernel
theorem dX1_begin_78 : decode cX1_begin 78 = .ok (.imul, 1) := by decide +kernel
theorem dX1_begin_79 : decode cX1_begin 79 = .ok (.iconst 5, 1) := by decide +kernel
theorem dX1_begin_80 : decode cX1_begin 80 = .ok (.iadd, 1) := by decide +kernel
theorem dX1_begin_81 : decode cX1_begin 81 = .ok (.iconst 3, 1) := by decide +kernel
theorem dX1_begin_82 : decode cX1_begin 82 = .ok (.iastore, 1) := by decide +kernel
theorem dX1_begin_83 : decode cX1_begin 83 = .ok (.aload_n 0, 1) := by decide +kernel
theorem dX1_begin_84 : decode cX1_begin 84 = .ok (.getfield 13, 3) := by decide +kernel
theorem dX1_begin_87 : decode cX1_begin 87 = .ok (.bipush 12, 2) := by decide +kernel
theorem dX1_begin_89 : decode cX1_begin 89 = .ok (.iload_n 1, 1) := by decide +kernel
theorem dX1_begin_90 : decode cX1_begin 90 = .ok (.imul, 1) := by decide +kernel
theorem dX1_begin_91 : decode cX1_begin 91 = .ok (.bipush 7, 2) := by decide +kernel
theorem dX1_begin_93 : decode cX1_begin 93 = .ok (.iadd, 1) := by decide +kernel
theorem dX1_begin_94 : decode cX1_begin 94 = .ok (.iconst 3, 1) := by decide +kernel
theorem dX1_begin_95 : decode cX1_begin 95 = .ok (.iastore, 1) := by decide +kernel
theorem dX1_begin_96 : decode cX1_begin 96 = .ok (.aload_n 0, 1) := by decide +kernel
theorem dX1_begin_97 : decode cX1_begin 97 = .ok (.getfield 13, 3) := by decide +kernel
theorem dX1_begin_100 : decode cX1_begin 100 = .ok (.bipush 12, 2) := by decide +kernel
theorem dX1_begin_102 : decode cX1_begin 102 = .ok (.iload_n 1, 1) := by decide +kernel
theorem dX1_begin_103 : decode cX1_begin 103 = .ok (.imul, 1) := by decide +kernel
theorem dX1_begin_104 : decode cX1_begin 104 = .ok (.bipush 11, 2) := by decide +kernel
theorem dX1_begin_106 : decode cX1_begin 106 = .ok (.iadd, 1) := by decide +kernel
theorem dX1_begin_107 : decode cX1_begin 107 = .ok (.iconst 3, 1) := by decide +kernel
theorem dX1_begin_108 : decode cX1_begin 108 = .ok (.iastore, 1) := by decide +kernel
theorem dX1_begin_109 : decode cX1_begin 109 = .ok (.iinc 1 1, 3) := by decide +kernel
theorem dX1_begin_112 : decode cX1_begin 112 = .ok (.goto (-68), 3) := by decide +kernel
theorem dX1_begin_115 : decode cX1_begin 115 = .ok (.aload_n 0, 1) := by decide +kernel
theorem dX1_begin_116 : decode cX1_begin 116 = .ok (.getfield 13, 3) := by decide +kernel
theorem dX1_begin_119 : decode cX1_begin 119 = .ok (.iconst 4, 1) := by decide +kernel
theorem dX1_begin_120 : decode cX1_begin 120 = .ok (.iconst 3, 1) := by decide +kernel
theorem dX1_begin_121 : decode cX1_begin 121 = .ok (.iastore, 1) := by decide +kernel
theorem dX1_begin_122 : decode cX1_begin 122 = .ok (.aload_n 0, 1) := by decide +kernel
theorem dX1_begin_123 : decode cX1_begin 123 = .ok (.getfield 13, 3) := by decide +kernel
theorem dX1_begin_126 : decode cX1_begin 126 = .ok (.bipush 9, 2) := by decide +kernel
theorem dX1_begin_128 : decode cX1_begin 128 = .ok (.iconst 3, 1) := by decide +kernel
theorem dX1_begin_129 : decode cX1_begin 129 = .ok (.iastore, 1) := by decide +kernel
theorem dX1_begin_130 : decode cX1_begin 130 = .ok (.aload_n 0, 1) := by decide +kernel
theorem dX1_begin_131 : decode cX1_begin 131 = .ok (.getfield 13, 3) := by decide +kernel
theorem dX1_begin_134 : decode cX1_begin 134 = .ok (.bipush 15, 2) := by decide +kernel
theorem dX1_begin_136 : decode cX1_begin 136 = .ok (.iconst 3, 1) := by decide +kernel
theorem dX1_begin_137 : decode cX1_begin 137 = .ok (.iastore, 1) := by decide +kernel
theorem dX1_begin_138 : decode cX1_begin 138 = .ok (.aload_n 0, 1) := by decide +kernel
theorem dX1_begin_139 : decode cX1_begin 139 = .ok (.getfield 13, 3) := by decide +kernel
theorem dX1_begin_142 : decode cX1_begin 142 = .ok (.bipush 20, 2) := by decide +kernel
theorem dX1_begin_144 : decode cX1_begin 144 = .ok (.iconst 3, 1) := by decide +kernel
theorem dX1_begin_145 : decode cX1_begin 145 = .ok (.iastore, 1) := by decide +kernel
theorem dX1_begin_146 : decode cX1_begin 146 = .ok (.return_, 1) := by decide +kernel
theorem dX1_clear_0 : decode cX1_clear 0 = .ok (.aload_n 0, 1) := by decide +kernel
theorem dX1_clear_1 : decode cX1_clear 1 = .ok (.iconst 0, 1) := by decide +kernel
theorem dX1_clear_2 : decode cX1_clear 2 = .ok (.putfield 35, 3) := by decide +kernel
theorem dX1_clear_5 : decode cX1_clear 5 = .ok (.aload_n 0, 1) := by decide +kernel
theorem dX1_clear_6 : decode cX1_clear 6 = .ok (.getfield 39, 3) := by decide +kernel
theorem dX1_clear_9 : decode cX1_clear 9 = .ok (.istore_n 1, 1) := by decide +kernel
theorem dX1_clear_10 : decode cX1_clear 10 = .ok (.aload_n 0, 1) := by decide +kernel
theorem dX1_clear_11 : decode cX1_clear 11 = .ok (.invokevirtual 32, 3) := by decide +kernel
theorem dX1_clear_14 : decode cX1_clear 14 = .ok (.iload_n 1, 1) := by decide +kernel
theorem dX1_clear_15 : decode cX1_clear 15 = .ok (.ireturn, 1) := by decide +kernel
theorem dX1_isSlice_0 : decode cX1_isSlice 0 = .ok (.iload_n 1, 1) := by decide +kernel
theorem dX1_isSlice_1 : decode cX1_isSlice 1 = .ok (.i2l, 1) := by decide +kernel
theorem dX1_isSlice_2 : decode cX1_isSlice 2 = .ok (.lconst 0, 1) := by decide +kernel
theorem dX1_isSlice_3 : decode cX1_isSlice 3 = .ok (.aload_n 0, 1) := by decide +kernel
theorem dX1_isSlice_4 : decode cX1_isSlice 4 = .ok (.getfield 39, 3) := by decide +kernel
theorem dX1_isSlice_7 : decode cX1_isSlice 7 = .ok (.iconst 1, 1) := by decide +kernel
theorem dX1_isSlice_8 : decode cX1_isSlice 8 = .ok (.isub, 1) := by decide +kernel
theorem dX1_isSlice_9 : decode cX1_isSlice 9 = .ok (.i2l, 1) := by decide +kernel
theorem dX1_isSlice_10 : decode cX1_isSlice 10 = .ok (.invokestatic 51, 3) := by decide +kernel
theorem dX1_isSlice_13 : decode cX1_isSlice 13 = .ok (.ireturn, 1) := by decide +kernel
theorem dX1_isKey_0 : decode cX1_isKey 0 = .ok (.iload_n 0, 1) := by decide +kernel
theorem dX1_isKey_1 : decode cX1_isKey 1 = .ok (.i2l, 1) := by decide +kernel
theorem dX1_isKey_2 : decode cX1_isKey 2 = .ok (.lconst 0, 1) := by decide +kernel
theorem dX1_isKey_3 : decode cX1_isKey 3 = .ok (.ldc2_w 55, 3) := by decide +kernel
theorem dX1_isKey_6 : decode cX1_isKey 6 = .ok (.invokestatic 51, 3) := by decide +kernel
theorem dX1_isKey_9 : decode cX1_isKey 9 = .ok (.ireturn, 1) := by decide +kernel
theorem dX1_profile_0 : decode cX1_profile 0 = .ok (.aload_n 0, 1) := by decide +kernel
theorem dX1_profile_1 : decode cX1_profile 1 = .ok (.iload_n 1, 1) := by decide +kernel
theorem dX1_profile_2 : decode cX1_profile 2 = .ok (.i2l, 1) := by decide +kernel
theorem dX1_profile_3 : decode cX1_profile 3 = .ok (.lconst 0, 1) := by decide +kernel
theorem dX1_profile_4 : decode cX1_profile 4 = .ok (.lconst 1, 1) := by decide +kernel
theorem dX1_profile_5 : decode cX1_profile 5 = .ok (.invokestatic 51, 3) := by decide +kernel
theorem dX1_profile_8 : decode cX1_profile 8 = .ok (.ifCond .eq 31, 3) := by decide +kernel
theorem dX1_profile_11 : decode cX1_profile 11 = .ok (.iload_n 2, 1) := by decide +kernel
theorem dX1_profile_12 : decode cX1_profile 12 = .ok (.i2l, 1) := by decide +kernel
theorem dX1_profile_13 : decode cX1_profile 13 = .ok (.lconst 0, 1) := by decide +kernel
theorem dX1_profile_14 : decode cX1_profile 14 = .ok (.ldc2_w 57, 3) := by decide +kernel
theorem dX1_profile_17 : decode cX1_profile 17 = .ok (.invokestatic 51, 3) := by decide +kernel
theorem dX1_profile_20 : decode cX1_profile 20 = .ok (.ifCond .eq 19, 3) := by decide +kernel
theorem dX1_profile_23 : decode cX1_profile 23 = .ok (.iload_n 3, 1) := by decide +kernel
theorem dX1_profile_24 : decode cX1_profile 24 = .ok (.i2l, 1) := by decide +kernel
theorem dX1_profile_25 : decode cX1_profile 25 = .ok (.lconst 0, 1) := by decide +kernel
theorem dX1_profile_26 : decode cX1_profile 26 = .ok (.ldc2_w 59, 3) := by decide +kernel
theorem dX1_profile_29 : decode cX1_profile 29 = .ok (.invokestatic 51, 3) := by decide +kernel
theorem dX1_profile_32 : decode cX1_profile 32 = .ok (.ifCond .eq 7, 3) := by decide +kernel
theorem dX1_profile_35 : decode cX1_profile 35 = .ok (.iconst 0, 1) := by decide +kernel
theorem dX1_profile_36 : decode cX1_profile 36 = .ok (.goto 4, 3) := by decide +kernel
theorem dX1_profile_39 : decode cX1_profile 39 = .ok (.iconst 1, 1) := by decide +kernel
theorem dX1_profile_40 : decode cX1_profile 40 = .ok (.invokevirtual 61, 3) := by decide +kernel
theorem dX1_profile_43 : decode cX1_profile 43 = .ok (.ifCond .ne 5, 3) := by decide +kernel
theorem dX1_profile_46 : decode cX1_profile 46 = .ok (.iconst 0, 1) := by decide +kernel
theorem dX1_profile_47 : decode cX1_profile 47 = .ok (.ireturn, 1) := by decide +kernel
theorem dX1_profile_48 : decode cX1_profile 48 = .ok (.aload_n 0, 1) := by decide +kernel
theorem dX1_profile_49 : decode cX1_profile 49 = .ok (.getfield 13, 3) := by decide +kernel
theorem dX1_profile_52 : decode cX1_profile 52 = .ok (.bipush 12, 2) := by decide +kernel
theorem dX1_profile_54 : decode cX1_profile 54 = .ok (.iload_n 1, 1) := by decide +kernel
theorem dX1_profile_55 : decode cX1_profile 55 = .ok (.imul, 1) := by decide +kernel
theorem dX1_profile_56 : decode cX1_profile 56 = .ok (.iload_n 2, 1) := by decide +kernel
theorem dX1_profile_57 : decode cX1_profile 57 = .ok (.iadd, 1) := by decide +kernel
theorem dX1_profile_58 : decode cX1_profile 58 = .ok (.iaload, 1) := by decide +kernel
theorem dX1_profile_59 : decode cX1_profile 59 = .ok (.istore 4, 2) := by decide +kernel
theorem dX1_profile_61 : decode cX1_profile 61 = .ok (.aload_n 0, 1) := by decide +kernel
theorem dX1_profile_62 : decode cX1_profile 62 = .ok (.getfield 13, 3) := by decide +kernel
theorem dX1_profile_65 : decode cX1_profile 65 = .ok (.bipush 12, 2) := by decide +kernel
theorem dX1_profile_67 : decode cX1_profile 67 = .ok (.iload_n 1, 1) := by decide +kernel
theorem dX1_profile_68 : decode cX1_profile 68 = .ok (.imul, 1) := by decide +kernel
theorem dX1_profile_69 : decode cX1_profile 69 = .ok (.iload_n 2, 1) := by decide +kernel
theorem dX1_profile_70 : decode cX1_profile 70 = .ok (.iadd, 1) := by decide +kernel
theorem dX1_profile_71 : decode cX1_profile 71 = .ok (.iload_n 3, 1) := by decide +kernel
theorem dX1_profile_72 : decode cX1_profile 72 = .ok (.iastore, 1) := by decide +kernel
theorem dX1_profile_73 : decode cX1_profile 73 = .ok (.iload 4, 2) := by decide +kernel
theorem dX1_profile_75 : decode cX1_profile 75 = .ok (.ireturn, 1) := by decide +kernel
theorem dX1_costs_0 : decode cX1_costs 0 = .ok (.aload_n 0, 1) := by decide +kernel
theorem dX1_costs_1 : decode cX1_costs 1 = .ok (.iload_n 1, 1) := by decide +kernel
theorem dX1_costs_2 : decode cX1_costs 2 = .ok (.i2l, 1) := by decide +kernel
theorem dX1_costs_3 : decode cX1_costs 3 = .ok (.lconst 0, 1) := by decide +kernel
theorem dX1_costs_4 : decode cX1_costs 4 = .ok (.ldc2_w 65, 3) := by decide +kernel
theorem dX1_costs_7 : decode cX1_costs 7 = .ok (.invokestatic 51, 3) := by decide +kernel
theorem dX1_costs_10 : decode cX1_costs 10 = .ok (.ifCond .eq 31, 3) := by decide +kernel
theorem dX1_costs_13 : decode cX1_costs 13 = .ok (.iload_n 2, 1) := by decide +kernel
theorem dX1_costs_14 : decode cX1_costs 14 = .ok (.i2l, 1) := by decide +kernel
theorem dX1_costs_15 : decode cX1_costs 15 = .ok (.lconst 0, 1) := by decide +kernel
theorem dX1_costs_16 : decode cX1_costs 16 = .ok (.ldc2_w 65, 3) := by decide +kernel
theorem dX1_costs_19 : decode cX1_costs 19 = .ok (.invokestatic 51, 3) := by decide +kernel
theorem dX1_costs_22 : decode cX1_costs 22 = .ok (.ifCond .eq 19, 3) := by decide +kernel
theorem dX1_costs_25 : decode cX1_costs 25 = .ok (.iload_n 3, 1) := by decide +kernel
theorem dX1_costs_26 : decode cX1_costs 26 = .ok (.i2l, 1) := by decide +kernel
theorem dX1_costs_27 : decode cX1_costs 27 = .ok (.lconst 0, 1) := by decide +kernel
theorem dX1_costs_28 : decode cX1_costs 28 = .ok (.ldc2_w 65, 3) := by decide +kernel
theorem dX1_costs_31 : decode cX1_costs 31 = .ok (.invokestatic 51, 3) := by decide +kernel
theorem dX1_costs_34 : decode cX1_costs 34 = .ok (.ifCond .eq 7, 3) := by decide +kernel
theorem dX1_costs_37 : decode cX1_costs 37 = .ok (.iconst 0, 1) := by decide +kernel
theorem dX1_costs_38 : decode cX1_costs 38 = .ok (.goto 4, 3) := by decide +kernel
theorem dX1_costs_41 : decode cX1_costs 41 = .ok (.iconst 1, 1) := by decide +kernel
theorem dX1_costs_42 : decode cX1_costs 42 = .ok (.invokevirtual 61, 3) := by decide +kernel
theorem dX1_costs_45 : decode cX1_costs 45 = .ok (.ifCond .ne 5, 3) := by decide +kernel
theorem dX1_costs_48 : decode cX1_costs 48 = .ok (.iconst 0, 1) := by decide +kernel
theorem dX1_costs_49 : decode cX1_costs 49 = .ok (.ireturn, 1) := by decide +kernel
theorem dX1_costs_50 : decode cX1_costs 50 = .ok (.iload_n 1, 1) := by decide +kernel
theorem dX1_costs_51 : decode cX1_costs 51 = .ok (.aload_n 0, 1) := by decide +kernel
theorem dX1_costs_52 : decode cX1_costs 52 = .ok (.getfield 42, 3) := by decide +kernel
theorem dX1_costs_55 : decode cX1_costs 55 = .ok (.if_icmp .ne 7, 3) := by decide +kernel
theorem dX1_costs_58 : decode cX1_costs 58 = .ok (.iconst 0, 1) := by decide +kernel
theorem dX1_costs_59 : decode cX1_costs 59 = .ok (.goto 4, 3) := by decide +kernel
theorem dX1_costs_62 : decode cX1_costs 62 = .ok (.iconst 1, 1) := by decide +kernel
theorem dX1_costs_63 : decode cX1_costs 63 = .ok (.iload_n 2, 1) := by decide +kernel
theorem dX1_costs_64 : decode cX1_costs 64 = .ok (.aload_n 0, 1) := by decide +kernel
theorem dX1_costs_65 : decode cX1_costs 65 = .ok (.getfield 45, 3) := by decide +kernel
theorem dX1_costs_68 : decode cX1_costs 68 = .ok (.if_icmp .ne 7, 3) := by decide +kernel
theorem dX1_costs_71 : decode cX1_costs 71 = .ok (.iconst 0, 1) := by decide +kernel
theorem dX1_costs_72 : decode cX1_costs 72 = .ok (.goto 4, 3) := by decide +kernel
theorem dX1_costs_75 : decode cX1_costs 75 = .ok (.iconst 1, 1) := by decide +kernel
theorem dX1_costs_76 : decode cX1_costs 76 = .ok (.iadd, 1) := by decide +kernel
theorem dX1_costs_77 : decode cX1_costs 77 = .ok (.iload_n 3, 1) := by decide +kernel
theorem dX1_costs_78 : decode cX1_costs 78 = .ok (.aload_n 0, 1) := by decide +kernel
theorem dX1_costs_79 : decode cX1_costs 79 = .ok (.getfield 48, 3) := by decide +kernel
theorem dX1_costs_82 : decode cX1_costs 82 = .ok (.if_icmp .ne 7, 3) := by decide +kernel
theorem dX1_costs_85 : decode cX1_costs 85 = .ok (.iconst 0, 1) := by decide +kernel
theorem dX1_costs_86 : decode cX1_costs 86 = .ok (.goto 4, 3) := by decide +kernel
theorem dX1_costs_89 : decode cX1_costs 89 = .ok (.iconst 1, 1) := by decide +kernel
theorem dX1_costs_90 : decode cX1_costs 90 = .ok (.iadd, 1) := by decide +kernel
theorem dX1_costs_91 : decode cX1_costs 91 = .ok (.istore 4, 2) := by decide +kernel
theorem dX1_costs_93 : decode cX1_costs 93 = .ok (.aload_n 0, 1) := by decide +kernel
theorem dX1_costs_94 : decode cX1_costs 94 = .ok (.iload_n 1, 1) := by decide +kernel
theorem dX1_costs_95 : decode cX1_costs 95 = .ok (.putfield 42, 3) := by decide +kernel
theorem dX1_costs_98 : decode cX1_costs 98 = .ok (.aload_n 0, 1) := by decide +kernel
theorem dX1_costs_99 : decode cX1_costs 99 = .ok (.iload_n 2, 1) := by decide +kernel
theorem dX1_costs_100 : decode cX1_costs 100 = .ok (.putfield 45, 3) := by decide +kernel
theorem dX1_costs_103 : decode cX1_costs 103 = .ok (.aload_n 0, 1) := by decide +kernel
theorem dX1_costs_104 : decode cX1_costs 104 = .ok (.iload_n 3, 1) := by decide +kernel
theorem dX1_costs_105 : decode cX1_costs 105 = .ok (.putfield 48, 3) := by decide +kernel
theorem dX1_costs_108 : decode cX1_costs 108 = .ok (.iload 4, 2) := by decide +kernel
theorem dX1_costs_110 : decode cX1_costs 110 = .ok (.ireturn, 1) := by decide +kernel
theorem dX1_slice_0 : decode cX1_slice 0 = .ok (.aload_n 0, 1) := by decide +kernel
theorem dX1_slice_1 : decode cX1_slice 1 = .ok (.aload_n 0, 1) := by decide +kernel
theorem dX1_slice_2 : decode cX1_slice 2 = .ok (.getfield 39, 3) := by decide +kernel
theorem dX1_slice_5 : decode cX1_slice 5 = .ok (.bipush 40, 2) := by decide +kernel
theorem dX1_slice_7 : decode cX1_slice 7 = .ok (.if_icmp .ne 7, 3) := by decide +kernel
theorem dX1_slice_10 : decode cX1_slice 10 = .ok (.iconst 1, 1) := by decide +kernel
theorem dX1_slice_11 : decode cX1_slice 11 = .ok (.goto 4, 3) := by decide +kernel
theorem dX1_slice_14 : decode cX1_slice 14 = .ok (.iconst 0, 1) := by decide +kernel
theorem dX1_slice_15 : decode cX1_slice 15 = .ok (.invokevirtual 61, 3) := by decide +kernel
theorem dX1_slice_18 : decode cX1_slice 18 = .ok (.ifCond .ne 5, 3) := by decide +kernel
theorem dX1_slice_21 : decode cX1_slice 21 = .ok (.iconst 0, 1) := by decide +kernel
theorem dX1_slice_22 : decode cX1_slice 22 = .ok (.ireturn, 1) := by decide +kernel
theorem dX1_slice_23 : decode cX1_slice 23 = .ok (.iconst 0, 1) := by decide +kernel
theorem dX1_slice_24 : decode cX1_slice 24 = .ok (.istore_n 1, 1) := by decide +kernel
theorem dX1_slice_25 : decode cX1_slice 25 = .ok (.iload_n 1, 1) := by decide +kernel
theorem dX1_slice_26 : decode cX1_slice 26 = .ok (.bipush 12, 2) := by decide +kernel
theorem dX1_slice_28 : decode cX1_slice 28 = .ok (.if_icmp .ge 24, 3) := by decide +kernel
theorem dX1_slice_31 : decode cX1_slice 31 = .ok (.aload_n 0, 1) := by decide +kernel
theorem dX1_slice_32 : decode cX1_slice 32 = .ok (.getfield 7, 3) := by decide +kernel
theorem dX1_slice_35 : decode cX1_slice 35 = .ok (.bipush 12, 2) := by decide +kernel
theorem dX1_slice_37 : decode cX1_slice 37 = .ok (.aload_n 0, 1) := by decide +kernel
theorem dX1_slice_38 : decode cX1_slice 38 = .ok (.getfield 39, 3) := by decide +kernel
theorem dX1_slice_41 : decode cX1_slice 41 = .ok (.imul, 1) := by decide +kernel
theorem dX1_slice_42 : decode cX1_slice 42 = .ok (.iload_n 1, 1) := by decide +kernel
theorem dX1_slice_43 : decode cX1_slice 43 = .ok (.iadd, 1) := by decide +kernel
theorem dX1_slice_44 : decode cX1_slice 44 = .ok (.iconst 0, 1) := by decide +kernel
theorem dX1_slice_45 : decode cX1_slice 45 = .ok (.iastore, 1) := by decide +kernel
theorem dX1_slice_46 : decode cX1_slice 46 = .ok (.iinc 1 1, 3) := by decide +kernel
theorem dX1_slice_49 : decode cX1_slice 49 = .ok (.goto (-24), 3) := by decide +kernel
theorem dX1_slice_52 : decode cX1_slice 52 = .ok (.aload_n 0, 1) := by decide +kernel
theorem dX1_slice_53 : decode cX1_slice 53 = .ok (.dup, 1) := by decide +kernel
theorem dX1_slice_54 : decode cX1_slice 54 = .ok (.getfield 39, 3) := by decide +kernel
theorem dX1_slice_57 : decode cX1_slice 57 = .ok (.iconst 1, 1) := by decide +kernel
theorem dX1_slice_58 : decode cX1_slice 58 = .ok (.iadd, 1) := by decide +kernel
theorem dX1_slice_59 : decode cX1_slice 59 = .ok (.putfield 39, 3) := by decide +kernel
theorem dX1_slice_62 : decode cX1_slice 62 = .ok (.aload_n 0, 1) := by decide +kernel
theorem dX1_slice_63 : decode cX1_slice 63 = .ok (.getfield 39, 3) := by decide +kernel
theorem dX1_slice_66 : decode cX1_slice 66 = .ok (.iconst 1, 1) := by decide +kernel
theorem dX1_slice_67 : decode cX1_slice 67 = .ok (.isub, 1) := by decide +kernel
theorem dX1_slice_68 : decode cX1_slice 68 = .ok (.ireturn, 1) := by decide +kernel
theorem dX1_note_0 : decode cX1_note 0 = .ok (.aload_n 0, 1) := by decide +kernel
theorem dX1_note_1 : decode cX1_note 1 = .ok (.aload_n 0, 1) := by decide +kernel
theorem dX1_note_2 : decode cX1_note 2 = .ok (.iload_n 1, 1) := by decide +kernel
theorem dX1_note_3 : decode cX1_note 3 = .ok (.invokevirtual 67, 3) := by decide +kernel
theorem dX1_note_6 : decode cX1_note 6 = .ok (.ifCond .eq 31, 3) := by decide +kernel
theorem dX1_note_9 : decode cX1_note 9 = .ok (.iload_n 2, 1) := by decide +kernel
theorem dX1_note_10 : decode cX1_note 10 = .ok (.i2l, 1) := by decide +kernel
theorem dX1_note_11 : decode cX1_note 11 = .ok (.lconst 0, 1) := by decide +kernel
theorem dX1_note_12 : decode cX1_note 12 = .ok (.ldc2_w 57, 3) := by decide +kernel
theorem dX1_note_15 : decode cX1_note 15 = .ok (.invokestatic 51, 3) := by decide +kernel
theorem dX1_note_18 : decode cX1_note 18 = .ok (.ifCond .eq 19, 3) := by decide +kernel
theorem dX1_note_21 : decode cX1_note 21 = .ok (.iload_n 3, 1) := by decide +kernel
theorem dX1_note_22 : decode cX1_note 22 = .ok (.i2l, 1) := by decide +kernel
theorem dX1_note_23 : decode cX1_note 23 = .ok (.lconst 1, 1) := by decide +kernel
theorem dX1_note_24 : decode cX1_note 24 = .ok (.ldc2_w 70, 3) := by decide +kernel
theorem dX1_note_27 : decode cX1_note 27 = .ok (.invokestatic 51, 3) := by decide +kernel
theorem dX1_note_30 : decode cX1_note 30 = .ok (.ifCond .eq 7, 3) := by decide +kernel
theorem dX1_note_33 : decode cX1_note 33 = .ok (.iconst 0, 1) := by decide +kernel
theorem dX1_note_34 : decode cX1_note 34 = .ok (.goto 4, 3) := by decide +kernel
theorem dX1_note_37 : decode cX1_note 37 = .ok (.iconst 1, 1) := by decide +kernel
theorem dX1_note_38 : decode cX1_note 38 = .ok (.invokevirtual 61, 3) := by decide +kernel
theorem dX1_note_41 : decode cX1_note 41 = .ok (.ifCond .ne 5, 3) := by decide +kernel
theorem dX1_note_44 : decode cX1_note 44 = .ok (.iconst 0, 1) := by decide +kernel
theorem dX1_note_45 : decode cX1_note 45 = .ok (.ireturn, 1) := by decide +kernel
theorem dX1_note_46 : decode cX1_note 46 = .ok (.bipush 12, 2) := by decide +kernel
theorem dX1_note_48 : decode cX1_note 48 = .ok (.iload_n 1, 1) := by decide +kernel
theorem dX1_note_49 : decode cX1_note 49 = .ok (.imul, 1) := by decide +kernel
theorem dX1_note_50 : decode cX1_note 50 = .ok (.iload_n 2, 1) := by decide +kernel
theorem dX1_note_51 : decode cX1_note 51 = .ok (.iadd, 1) := by decide +kernel
theorem dX1_note_52 : decode cX1_note 52 = .ok (.istore 4, 2) := by decide +kernel
theorem dX1_note_54 : decode cX1_note 54 = .ok (.aload_n 0, 1) := by decide +kernel
theorem dX1_note_55 : decode cX1_note 55 = .ok (.aload_n 0, 1) := by decide +kernel
theorem dX1_note_56 : decode cX1_note 56 = .ok (.getfield 7, 3) := by decide +kernel
theorem dX1_note_59 : decode cX1_note 59 = .ok (.iload 4, 2) := by decide +kernel
theorem dX1_note_61 : decode cX1_note 61 = .ok (.iaload, 1) := by decide +kernel
theorem dX1_note_62 : decode cX1_note 62 = .ok (.iload_n 3, 1) := by decide +kernel
theorem dX1_note_63 : decode cX1_note 63 = .ok (.iadd, 1) := by decide +kernel
theorem dX1_note_64 : decode cX1_note 64 = .ok (.sipush 200, 3) := by decide +kernel
theorem dX1_note_67 : decode cX1_note 67 = .ok (.if_icmp .le 7, 3) := by decide +kernel
theorem dX1_note_70 : decode cX1_note 70 = .ok (.iconst 2, 1) := by decide +kernel
theorem dX1_note_71 : decode cX1_note 71 = .ok (.goto 4, 3) := by decide +kernel
theorem dX1_note_74 : decode cX1_note 74 = .ok (.iconst 0, 1) := by decide +kernel
theorem dX1_note_75 : decode cX1_note 75 = .ok (.invokevirtual 61, 3) := by decide +kernel
theorem dX1_note_78 : decode cX1_note 78 = .ok (.ifCond .ne 5, 3) := by decide +kernel
theorem dX1_note_81 : decode cX1_note 81 = .ok (.iconst 0, 1) := by decide +kernel
theorem dX1_note_82 : decode cX1_note 82 = .ok (.ireturn, 1) := by decide +kernel
theorem dX1_note_83 : decode cX1_note 83 = .ok (.aload_n 0, 1) := by decide +kernel
theorem dX1_note_84 : decode cX1_note 84 = .ok (.getfield 7, 3) := by decide +kernel
theorem dX1_note_87 : decode cX1_note 87 = .ok (.iload 4, 2) := by decide +kernel
theorem dX1_note_89 : decode cX1_note 89 = .ok (.dup2, 1) := by decide +kernel
theorem dX1_note_90 : decode cX1_note 90 = .ok (.iaload, 1) := by decide +kernel
theorem dX1_note_91 : decode cX1_note 91 = .ok (.iload_n 3, 1) := by decide +kernel
theorem dX1_note_92 : decode cX1_note 92 = .ok (.iadd, 1) := by decide +kernel
theorem dX1_note_93 : decode cX1_note 93 = .ok (.iastore, 1) := by decide +kernel
theorem dX1_note_94 : decode cX1_note 94 = .ok (.aload_n 0, 1) := by decide +kernel
theorem dX1_note_95 : decode cX1_note 95 = .ok (.getfield 7, 3) := by decide +kernel
theorem dX1_note_98 : decode cX1_note 98 = .ok (.iload 4, 2) := by decide +kernel
theorem dX1_note_100 : decode cX1_note 100 = .ok (.iaload, 1) := by decide +kernel
theorem dX1_note_101 : decode cX1_note 101 = .ok (.ireturn, 1) := by decide +kernel
theorem dX1_drop_0 : decode cX1_drop 0 = .ok (.aload_n 0, 1) := by decide +kernel
theorem dX1_drop_1 : decode cX1_drop 1 = .ok (.aload_n 0, 1) := by decide +kernel
theorem dX1_drop_2 : decode cX1_drop 2 = .ok (.getfield 39, 3) := by decide +kernel
theorem dX1_drop_5 : decode cX1_drop 5 = .ok (.ifCond .ne 7, 3) := by decide +kernel
theorem dX1_drop_8 : decode cX1_drop 8 = .ok (.iconst 1, 1) := by decide +kernel
theorem dX1_drop_9 : decode cX1_drop 9 = .ok (.goto 4, 3) := by decide +kernel
theorem dX1_drop_12 : decode cX1_drop 12 = .ok (.iconst 0, 1) := by decide +kernel
theorem dX1_drop_13 : decode cX1_drop 13 = .ok (.invokevirtual 61, 3) := by decide +kernel
theorem dX1_drop_16 : decode cX1_drop 16 = .ok (.ifCond .ne 5, 3) := by decide +kernel
theorem dX1_drop_19 : decode cX1_drop 19 = .ok (.iconst 0, 1) := by decide +kernel
theorem dX1_drop_20 : decode cX1_drop 20 = .ok (.ireturn, 1) := by decide +kernel
theorem dX1_drop_21 : decode cX1_drop 21 = .ok (.aload_n 0, 1) := by decide +kernel
theorem dX1_drop_22 : decode cX1_drop 22 = .ok (.dup, 1) := by decide +kernel
theorem dX1_drop_23 : decode cX1_drop 23 = .ok (.getfield 39, 3) := by decide +kernel
theorem dX1_drop_26 : decode cX1_drop 26 = .ok (.iconst 1, 1) := by decide +kernel
theorem dX1_drop_27 : decode cX1_drop 27 = .ok (.isub, 1) := by decide +kernel
theorem dX1_drop_28 : decode cX1_drop 28 = .ok (.putfield 39, 3) := by decide +kernel
theorem dX1_drop_31 : decode cX1_drop 31 = .ok (.aload_n 0, 1) := by decide +kernel
theorem dX1_drop_32 : decode cX1_drop 32 = .ok (.getfield 39, 3) := by decide +kernel
theorem dX1_drop_35 : decode cX1_drop 35 = .ok (.ireturn, 1) := by decide +kernel
theorem dX1_numberOf_0 : decode cX1_numberOf 0 = .ok (.aload_n 0, 1) := by decide +kernel
theorem dX1_numberOf_1 : decode cX1_numberOf 1 = .ok (.getfield 13, 3) := by decide +kernel
theorem dX1_numberOf_4 : decode cX1_numberOf 4 = .ok (.bipush 12, 2) := by decide +kernel
theorem dX1_numberOf_6 : decode cX1_numberOf 6 = .ok (.iload_n 2, 1) := by decide +kernel
theorem dX1_numberOf_7 : decode cX1_numberOf 7 = .ok (.bipush 12, 2) := by decide +kernel
theorem dX1_numberOf_9 : decode cX1_numberOf 9 = .ok (.idiv, 1) := by decide +kernel
theorem dX1_numberOf_10 : decode cX1_numberOf 10 = .ok (.imul, 1) := by decide +kernel
theorem dX1_numberOf_11 : decode cX1_numberOf 11 = .ok (.iload_n 1, 1) := by decide +kernel
theorem dX1_numberOf_12 : decode cX1_numberOf 12 = .ok (.iload_n 2, 1) := by decide +kernel
theorem dX1_numberOf_13 : decode cX1_numberOf 13 = .ok (.bipush 12, 2) := by decide +kernel
theorem dX1_numberOf_15 : decode cX1_numberOf 15 = .ok (.irem, 1) := by decide +kernel
theorem dX1_numberOf_16 : decode cX1_numberOf 16 = .ok (.isub, 1) := by decide +kernel
theorem dX1_numberOf_17 : decode cX1_numberOf 17 = .ok (.bipush 12, 2) := by decide +kernel
theorem dX1_numberOf_19 : decode cX1_numberOf 19 = .ok (.iadd, 1) := by decide +kernel
theorem dX1_numberOf_20 : decode cX1_numberOf 20 = .ok (.bipush 12, 2) := by decide +kernel
theorem dX1_numberOf_22 : decode cX1_numberOf 22 = .ok (.irem, 1) := by decide +kernel
theorem dX1_numberOf_23 : decode cX1_numberOf 23 = .ok (.iadd, 1) := by decide +kernel
theorem dX1_numberOf_24 : decode cX1_numberOf 24 = .ok (.iaload, 1) := by decide +kernel
theorem dX1_numberOf_25 : decode cX1_numberOf 25 = .ok (.ireturn, 1) := by decide +kernel
theorem dX1_fitOf_0 : decode cX1_fitOf 0 = .ok (.iconst 0, 1) := by decide +kernel
theorem dX1_fitOf_1 : decode cX1_fitOf 1 = .ok (.istore_n 3, 1) := by decide +kernel
theorem dX1_fitOf_2 : decode cX1_fitOf 2 = .ok (.iconst 0, 1) := by decide +kernel
theorem dX1_fitOf_3 : decode cX1_fitOf 3 = .ok (.istore 4, 2) := by decide +kernel
theorem dX1_fitOf_5 : decode cX1_fitOf 5 = .ok (.iload 4, 2) := by decide +kernel
theorem dX1_fitOf_7 : decode cX1_fitOf 7 = .ok (.bipush 12, 2) := by decide +kernel
theorem dX1_fitOf_9 : decode cX1_fitOf 9 = .ok (.if_icmp .ge 32, 3) := by decide +kernel
theorem dX1_fitOf_12 : decode cX1_fitOf 12 = .ok (.iload_n 3, 1) := by decide +kernel
theorem dX1_fitOf_13 : decode cX1_fitOf 13 = .ok (.aload_n 0, 1) := by decide +kernel
theorem dX1_fitOf_14 : decode cX1_fitOf 14 = .ok (.getfield 7, 3) := by decide +kernel
theorem dX1_fitOf_17 : decode cX1_fitOf 17 = .ok (.bipush 12, 2) := by decide +kernel
theorem dX1_fitOf_19 : decode cX1_fitOf 19 = .ok (.iload_n 1, 1) := by decide +kernel
theorem dX1_fitOf_20 : decode cX1_fitOf 20 = .ok (.imul, 1) := by decide +kernel
theorem dX1_fitOf_21 : decode cX1_fitOf 21 = .ok (.iload 4, 2) := by decide +kernel
theorem dX1_fitOf_23 : decode cX1_fitOf 23 = .ok (.iadd, 1) := by decide +kernel
theorem dX1_fitOf_24 : decode cX1_fitOf 24 = .ok (.iaload, 1) := by decide +kernel
theorem dX1_fitOf_25 : decode cX1_fitOf 25 = .ok (.aload_n 0, 1) := by decide +kernel
theorem dX1_fitOf_26 : decode cX1_fitOf 26 = .ok (.iload 4, 2) := by decide +kernel
theorem dX1_fitOf_28 : decode cX1_fitOf 28 = .ok (.iload_n 2, 1) := by decide +kernel
theorem dX1_fitOf_29 : decode cX1_fitOf 29 = .ok (.invokevirtual 72, 3) := by decide +kernel
theorem dX1_fitOf_32 : decode cX1_fitOf 32 = .ok (.imul, 1) := by decide +kernel
theorem dX1_fitOf_33 : decode cX1_fitOf 33 = .ok (.iadd, 1) := by decide +kernel
theorem dX1_fitOf_34 : decode cX1_fitOf 34 = .ok (.istore_n 3, 1) := by decide +kernel
theorem dX1_fitOf_35 : decode cX1_fitOf 35 = .ok (.iinc 4 1, 3) := by decide +kernel
theorem dX1_fitOf_38 : decode cX1_fitOf 38 = .ok (.goto (-33), 3) := by decide +kernel
theorem dX1_fitOf_41 : decode cX1_fitOf 41 = .ok (.iload_n 3, 1) := by decide +kernel
theorem dX1_fitOf_42 : decode cX1_fitOf 42 = .ok (.ireturn, 1) := by decide +kernel
theorem dX1_costOf_0 : decode cX1_costOf 0 = .ok (.iconst 0, 1) := by decide +kernel
theorem dX1_costOf_1 : decode cX1_costOf 1 = .ok (.istore_n 3, 1) := by decide +kernel
theorem dX1_costOf_2 : decode cX1_costOf 2 = .ok (.iconst 0, 1) := by decide +kernel
theorem dX1_costOf_3 : decode cX1_costOf 3 = .ok (.istore 4, 2) := by decide +kernel
theorem dX1_costOf_5 : decode cX1_costOf 5 = .ok (.iload 4, 2) := by decide +kernel
theorem dX1_costOf_7 : decode cX1_costOf 7 = .ok (.bipush 24, 2) := by decide +kernel
theorem dX1_costOf_9 : decode cX1_costOf 9 = .ok (.if_icmp .ge 32, 3) := by decide +kernel
theorem dX1_costOf_12 : decode cX1_costOf 12 = .ok (.aload_n 0, 1) := by decide +kernel
theorem dX1_costOf_13 : decode cX1_costOf 13 = .ok (.iload_n 1, 1) := by decide +kernel
theorem dX1_costOf_14 : decode cX1_costOf 14 = .ok (.iload 4, 2) := by decide +kernel
theorem dX1_costOf_16 : decode cX1_costOf 16 = .ok (.invokevirtual 76, 3) := by decide +kernel
theorem dX1_costOf_19 : decode cX1_costOf 19 = .ok (.iload_n 3, 1) := by decide +kernel
theorem dX1_costOf_20 : decode cX1_costOf 20 = .ok (.if_icmp .le 13, 3) := by decide +kernel
theorem dX1_costOf_23 : decode cX1_costOf 23 = .ok (.aload_n 0, 1) := by decide +kernel
theorem dX1_costOf_24 : decode cX1_costOf 24 = .ok (.iload_n 1, 1) := by decide +kernel
theorem dX1_costOf_25 : decode cX1_costOf 25 = .ok (.iload 4, 2) := by decide +kernel
theorem dX1_costOf_27 : decode cX1_costOf 27 = .ok (.invokevirtual 76, 3) := by decide +kernel
theorem dX1_costOf_30 : decode cX1_costOf 30 = .ok (.goto 4, 3) := by decide +kernel
theorem dX1_costOf_33 : decode cX1_costOf 33 = .ok (.iload_n 3, 1) := by decide +kernel
theorem dX1_costOf_34 : decode cX1_costOf 34 = .ok (.istore_n 3, 1) := by decide +kernel
theorem dX1_costOf_35 : decode cX1_costOf 35 = .ok (.iinc 4 1, 3) := by decide +kernel
theorem dX1_costOf_38 : decode cX1_costOf 38 = .ok (.goto (-33), 3) := by decide +kernel
theorem dX1_costOf_41 : decode cX1_costOf 41 = .ok (.iload_n 3, 1) := by decide +kernel
theorem dX1_costOf_42 : decode cX1_costOf 42 = .ok (.aload_n 0, 1) := by decide +kernel
theorem dX1_costOf_43 : decode cX1_costOf 43 = .ok (.iload_n 1, 1) := by decide +kernel
theorem dX1_costOf_44 : decode cX1_costOf 44 = .ok (.iload_n 2, 1) := by decide +kernel
theorem dX1_costOf_45 : decode cX1_costOf 45 = .ok (.invokevirtual 76, 3) := by decide +kernel
theorem dX1_costOf_48 : decode cX1_costOf 48 = .ok (.isub, 1) := by decide +kernel
theorem dX1_costOf_49 : decode cX1_costOf 49 = .ok (.ireturn, 1) := by decide +kernel
theorem dX1_placeOf_0 : decode cX1_placeOf 0 = .ok (.iload_n 0, 1) := by decide +kernel
theorem dX1_placeOf_1 : decode cX1_placeOf 1 = .ok (.bipush 12, 2) := by decide +kernel
theorem dX1_placeOf_3 : decode cX1_placeOf 3 = .ok (.if_icmp .ge 13, 3) := by decide +kernel
theorem dX1_placeOf_6 : decode cX1_placeOf 6 = .ok (.bipush 7, 2) := by decide +kernel
theorem dX1_placeOf_8 : decode cX1_placeOf 8 = .ok (.iload_n 0, 1) := by decide +kernel
theorem dX1_placeOf_9 : decode cX1_placeOf 9 = .ok (.imul, 1) := by decide +kernel
theorem dX1_placeOf_10 : decode cX1_placeOf 10 = .ok (.bipush 12, 2) := by decide +kernel
theorem dX1_placeOf_12 : decode cX1_placeOf 12 = .ok (.irem, 1) := by decide +kernel
theorem dX1_placeOf_13 : decode cX1_placeOf 13 = .ok (.goto 15, 3) := by decide +kernel
theorem dX1_placeOf_16 : decode cX1_placeOf 16 = .ok (.bipush 7, 2) := by decide +kernel
theorem dX1_placeOf_18 : decode cX1_placeOf 18 = .ok (.iload_n 0, 1) := by decide +kernel
theorem dX1_placeOf_19 : decode cX1_placeOf 19 = .ok (.bipush 12, 2) := by decide +kernel
theorem dX1_placeOf_21 : decode cX1_placeOf 21 = .ok (.isub, 1) := by decide +kernel
theorem dX1_placeOf_22 : decode cX1_placeOf 22 = .ok (.iconst 3, 1) := by decide +kernel
theorem dX1_placeOf_23 : decode cX1_placeOf 23 = .ok (.iadd, 1) := by decide +kernel
theorem dX1_placeOf_24 : decode cX1_placeOf 24 = .ok (.imul, 1) := by decide +kernel
theorem dX1_placeOf_25 : decode cX1_placeOf 25 = .ok (.bipush 12, 2) := by decide +kernel
theorem dX1_placeOf_27 : decode cX1_placeOf 27 = .ok (.irem, 1) := by decide +kernel
theorem dX1_placeOf_28 : decode cX1_placeOf 28 = .ok (.ireturn, 1) := by decide +kernel
theorem dX1_turnOf_0 : decode cX1_turnOf 0 = .ok (.iload_n 1, 1) := by decide +kernel
theorem dX1_turnOf_1 : decode cX1_turnOf 1 = .ok (.iload_n 2, 1) := by decide +kernel
theorem dX1_turnOf_2 : decode cX1_turnOf 2 = .ok (.if_icmp .ne 5, 3) := by decide +kernel
theorem dX1_turnOf_5 : decode cX1_turnOf 5 = .ok (.iconst 0, 1) := by decide +kernel
theorem dX1_turnOf_6 : decode cX1_turnOf 6 = .ok (.ireturn, 1) := by decide +kernel
theorem dX1_turnOf_7 : decode cX1_turnOf 7 = .ok (.iload_n 2, 1) := by decide +kernel
theorem dX1_turnOf_8 : decode cX1_turnOf 8 = .ok (.invokestatic 79, 3) := by decide +kernel
theorem dX1_turnOf_11 : decode cX1_turnOf 11 = .ok (.iload_n 1, 1) := by decide +kernel
theorem dX1_turnOf_12 : decode cX1_turnOf 12 = .ok (.invokestatic 79, 3) := by decide +kernel
theorem dX1_turnOf_15 : decode cX1_turnOf 15 = .ok (.isub, 1) := by decide +kernel
theorem dX1_turnOf_16 : decode cX1_turnOf 16 = .ok (.bipush 12, 2) := by decide +kernel
theorem dX1_turnOf_18 : decode cX1_turnOf 18 = .ok (.iadd, 1) := by decide +kernel
theorem dX1_turnOf_19 : decode cX1_turnOf 19 = .ok (.bipush 12, 2) := by decide +kernel
theorem dX1_turnOf_21 : decode cX1_turnOf 21 = .ok (.irem, 1) := by decide +kernel
theorem dX1_turnOf_22 : decode cX1_turnOf 22 = .ok (.istore_n 3, 1) := by decide +kernel
theorem dX1_turnOf_23 : decode cX1_turnOf 23 = .ok (.iload_n 3, 1) := by decide +kernel
theorem dX1_turnOf_24 : decode cX1_turnOf 24 = .ok (.bipush 6, 2) := by decide +kernel
theorem dX1_turnOf_26 : decode cX1_turnOf 26 = .ok (.if_icmp .le 10, 3) := by decide +kernel
theorem dX1_turnOf_29 : decode cX1_turnOf 29 = .ok (.bipush 12, 2) := by decide +kernel
theorem dX1_turnOf_31 : decode cX1_turnOf 31 = .ok (.iload_n 3, 1) := by decide +kernel
theorem dX1_turnOf_32 : decode cX1_turnOf 32 = .ok (.isub, 1) := by decide +kernel
theorem dX1_turnOf_33 : decode cX1_turnOf 33 = .ok (.goto 4, 3) := by decide +kernel
theorem dX1_turnOf_36 : decode cX1_turnOf 36 = .ok (.iload_n 3, 1) := by decide +kernel
theorem dX1_turnOf_37 : decode cX1_turnOf 37 = .ok (.istore_n 3, 1) := by decide +kernel
theorem dX1_turnOf_38 : decode cX1_turnOf 38 = .ok (.aload_n 0, 1) := by decide +kernel
theorem dX1_turnOf_39 : decode cX1_turnOf 39 = .ok (.getfield 42, 3) := by decide +kernel
theorem dX1_turnOf_42 : decode cX1_turnOf 42 = .ok (.aload_n 0, 1) := by decide +kernel
theorem dX1_turnOf_43 : decode cX1_turnOf 43 = .ok (.getfield 45, 3) := by decide +kernel
theorem dX1_turnOf_46 : decode cX1_turnOf 46 = .ok (.iload_n 3, 1) := by decide +kernel
theorem dX1_turnOf_47 : decode cX1_turnOf 47 = .ok (.imul, 1) := by decide +kernel
theorem dX1_turnOf_48 : decode cX1_turnOf 48 = .ok (.iadd, 1) := by decide +kernel
theorem dX1_turnOf_49 : decode cX1_turnOf 49 = .ok (.iload_n 1, 1) := by decide +kernel
theorem dX1_turnOf_50 : decode cX1_turnOf 50 = .ok (.bipush 12, 2) := by decide +kernel
theorem dX1_turnOf_52 : decode cX1_turnOf 52 = .ok (.idiv, 1) := by decide +kernel
theorem dX1_turnOf_53 : decode cX1_turnOf 53 = .ok (.iload_n 2, 1) := by decide +kernel
theorem dX1_turnOf_54 : decode cX1_turnOf 54 = .ok (.bipush 12, 2) := by decide +kernel
theorem dX1_turnOf_56 : decode cX1_turnOf 56 = .ok (.idiv, 1) := by decide +kernel
theorem dX1_turnOf_57 : decode cX1_turnOf 57 = .ok (.if_icmp .ne 7, 3) := by decide +kernel
theorem dX1_turnOf_60 : decode cX1_turnOf 60 = .ok (.iconst 0, 1) := by decide +kernel
theorem dX1_turnOf_61 : decode cX1_turnOf 61 = .ok (.goto 7, 3) := by decide +kernel
theorem dX1_turnOf_64 : decode cX1_turnOf 64 = .ok (.aload_n 0, 1) := by decide +kernel
theorem dX1_turnOf_65 : decode cX1_turnOf 65 = .ok (.getfield 48, 3) := by decide +kernel
theorem dX1_turnOf_68 : decode cX1_turnOf 68 = .ok (.iadd, 1) := by decide +kernel
theorem dX1_turnOf_69 : decode cX1_turnOf 69 = .ok (.ireturn, 1) := by decide +kernel
theorem dX1_fit_0 : decode cX1_fit 0 = .ok (.aload_n 0, 1) := by decide +kernel
theorem dX1_fit_1 : decode cX1_fit 1 = .ok (.aload_n 0, 1) := by decide +kernel
theorem dX1_fit_2 : decode cX1_fit 2 = .ok (.iload_n 1, 1) := by decide +kernel
theorem dX1_fit_3 : decode cX1_fit 3 = .ok (.invokevirtual 67, 3) := by decide +kernel
theorem dX1_fit_6 : decode cX1_fit 6 = .ok (.ifCond .eq 14, 3) := by decide +kernel
theorem dX1_fit_9 : decode cX1_fit 9 = .ok (.iload_n 2, 1) := by decide +kernel
theorem dX1_fit_10 : decode cX1_fit 10 = .ok (.invokestatic 83, 3) := by decide +kernel
theorem dX1_fit_13 : decode cX1_fit 13 = .ok (.ifCond .eq 7, 3) := by decide +kernel
theorem dX1_fit_16 : decode cX1_fit 16 = .ok (.iconst 0, 1) := by decide +kernel
theorem dX1_fit_17 : decode cX1_fit 17 = .ok (.goto 4, 3) := by decide +kernel
theorem dX1_fit_20 : decode cX1_fit 20 = .ok (.iconst 1, 1) := by decide +kernel
theorem dX1_fit_21 : decode cX1_fit 21 = .ok (.invokevirtual 61, 3) := by decide +kernel
theorem dX1_fit_24 : decode cX1_fit 24 = .ok (.ifCond .eq 12, 3) := by decide +kernel
theorem dX1_fit_27 : decode cX1_fit 27 = .ok (.aload_n 0, 1) := by decide +kernel
theorem dX1_fit_28 : decode cX1_fit 28 = .ok (.iload_n 1, 1) := by decide +kernel
theorem dX1_fit_29 : decode cX1_fit 29 = .ok (.iload_n 2, 1) := by decide +kernel
theorem dX1_fit_30 : decode cX1_fit 30 = .ok (.invokevirtual 76, 3) := by decide +kernel
theorem dX1_fit_33 : decode cX1_fit 33 = .ok (.goto 4, 3) := by decide +kernel
theorem dX1_fit_36 : decode cX1_fit 36 = .ok (.iconst 0, 1) := by decide +kernel
theorem dX1_fit_37 : decode cX1_fit 37 = .ok (.ireturn, 1) := by decide +kernel
theorem dX1_cost_0 : decode cX1_cost 0 = .ok (.aload_n 0, 1) := by decide +kernel
theorem dX1_cost_1 : decode cX1_cost 1 = .ok (.aload_n 0, 1) := by decide +kernel
theorem dX1_cost_2 : decode cX1_cost 2 = .ok (.iload_n 1, 1) := by decide +kernel
theorem dX1_cost_3 : decode cX1_cost 3 = .ok (.invokevirtual 67, 3) := by decide +kernel
theorem dX1_cost_6 : decode cX1_cost 6 = .ok (.ifCond .eq 14, 3) := by decide +kernel
theorem dX1_cost_9 : decode cX1_cost 9 = .ok (.iload_n 2, 1) := by decide +kernel
theorem dX1_cost_10 : decode cX1_cost 10 = .ok (.invokestatic 83, 3) := by decide +kernel
theorem dX1_cost_13 : decode cX1_cost 13 = .ok (.ifCond .eq 7, 3) := by decide +kernel
theorem dX1_cost_16 : decode cX1_cost 16 = .ok (.iconst 0, 1) := by decide +kernel
theorem dX1_cost_17 : decode cX1_cost 17 = .ok (.goto 4, 3) := by decide +kernel
theorem dX1_cost_20 : decode cX1_cost 20 = .ok (.iconst 1, 1) := by decide +kernel
theorem dX1_cost_21 : decode cX1_cost 21 = .ok (.invokevirtual 61, 3) := by decide +kernel
theorem dX1_cost_24 : decode cX1_cost 24 = .ok (.ifCond .eq 12, 3) := by decide +kernel
theorem dX1_cost_27 : decode cX1_cost 27 = .ok (.aload_n 0, 1) := by decide +kernel
theorem dX1_cost_28 : decode cX1_cost 28 = .ok (.iload_n 1, 1) := by decide +kernel
theorem dX1_cost_29 : decode cX1_cost 29 = .ok (.iload_n 2, 1) := by decide +kernel
theorem dX1_cost_30 : decode cX1_cost 30 = .ok (.invokevirtual 86, 3) := by decide +kernel
theorem dX1_cost_33 : decode cX1_cost 33 = .ok (.goto 4, 3) := by decide +kernel
theorem dX1_cost_36 : decode cX1_cost 36 = .ok (.iconst 0, 1) := by decide +kernel
theorem dX1_cost_37 : decode cX1_cost 37 = .ok (.ireturn, 1) := by decide +kernel
theorem dX1_turn_0 : decode cX1_turn 0 = .ok (.aload_n 0, 1) := by decide +kernel
theorem dX1_turn_1 : decode cX1_turn 1 = .ok (.iload_n 1, 1) := by decide +kernel
theorem dX1_turn_2 : decode cX1_turn 2 = .ok (.invokestatic 83, 3) := by decide +kernel
theorem dX1_turn_5 : decode cX1_turn 5 = .ok (.ifCond .eq 14, 3) := by decide +kernel
theorem dX1_turn_8 : decode cX1_turn 8 = .ok (.iload_n 2, 1) := by decide +kernel
theorem dX1_turn_9 : decode cX1_turn 9 = .ok (.invokestatic 83, 3) := by decide +kernel
theorem dX1_turn_12 : decode cX1_turn 12 = .ok (.ifCond .eq 7, 3) := by decide +kernel
theorem dX1_turn_15 : decode cX1_turn 15 = .ok (.iconst 0, 1) := by decide +kernel
theorem dX1_turn_16 : decode cX1_turn 16 = .ok (.goto 4, 3) := by decide +kernel
theorem dX1_turn_19 : decode cX1_turn 19 = .ok (.iconst 1, 1) := by decide +kernel
theorem dX1_turn_20 : decode cX1_turn 20 = .ok (.invokevirtual 61, 3) := by decide +kernel
theorem dX1_turn_23 : decode cX1_turn 23 = .ok (.ifCond .eq 12, 3) := by decide +kernel
theorem dX1_turn_26 : decode cX1_turn 26 = .ok (.aload_n 0, 1) := by decide +kernel
theorem dX1_turn_27 : decode cX1_turn 27 = .ok (.iload_n 1, 1) := by decide +kernel
theorem dX1_turn_28 : decode cX1_turn 28 = .ok (.iload_n 2, 1) := by decide +kernel
theorem dX1_turn_29 : decode cX1_turn 29 = .ok (.invokevirtual 89, 3) := by decide +kernel
theorem dX1_turn_32 : decode cX1_turn 32 = .ok (.goto 4, 3) := by decide +kernel
theorem dX1_turn_35 : decode cX1_turn 35 = .ok (.iconst 0, 1) := by decide +kernel
theorem dX1_turn_36 : decode cX1_turn 36 = .ok (.ireturn, 1) := by decide +kernel
theorem dX1_lay_0 : decode cX1_lay 0 = .ok (.iconst 0, 1) := by decide +kernel
theorem dX1_lay_1 : decode cX1_lay 1 = .ok (.istore_n 1, 1) := by decide +kernel
theorem dX1_lay_2 : decode cX1_lay 2 = .ok (.iload_n 1, 1) := by decide +kernel
theorem dX1_lay_3 : decode cX1_lay 3 = .ok (.sipush 576, 3) := by decide +kernel
theorem dX1_lay_6 : decode cX1_lay 6 = .ok (.if_icmp .ge 27, 3) := by decide +kernel
theorem dX1_lay_9 : decode cX1_lay 9 = .ok (.aload_n 0, 1) := by decide +kernel
theorem dX1_lay_10 : decode cX1_lay 10 = .ok (.getfield 23, 3) := by decide +kernel
theorem dX1_lay_13 : decode cX1_lay 13 = .ok (.iload_n 1, 1) := by decide +kernel
theorem dX1_lay_14 : decode cX1_lay 14 = .ok (.aload_n 0, 1) := by decide +kernel
theorem dX1_lay_15 : decode cX1_lay 15 = .ok (.iload_n 1, 1) := by decide +kernel
theorem dX1_lay_16 : decode cX1_lay 16 = .ok (.bipush 24, 2) := by decide +kernel
theorem dX1_lay_18 : decode cX1_lay 18 = .ok (.idiv, 1) := by decide +kernel
theorem dX1_lay_19 : decode cX1_lay 19 = .ok (.iload_n 1, 1) := by decide +kernel
theorem dX1_lay_20 : decode cX1_lay 20 = .ok (.bipush 24, 2) := by decide +kernel
theorem dX1_lay_22 : decode cX1_lay 22 = .ok (.irem, 1) := by decide +kernel
theorem dX1_lay_23 : decode cX1_lay 23 = .ok (.invokevirtual 89, 3) := by decide +kernel
theorem dX1_lay_26 : decode cX1_lay 26 = .ok (.iastore, 1) := by decide +kernel
theorem dX1_lay_27 : decode cX1_lay 27 = .ok (.iinc 1 1, 3) := by decide +kernel
theorem dX1_lay_30 : decode cX1_lay 30 = .ok (.goto (-28), 3) := by decide +kernel
theorem dX1_lay_33 : decode cX1_lay 33 = .ok (.iconst 0, 1) := by decide +kernel
theorem dX1_lay_34 : decode cX1_lay 34 = .ok (.istore_n 1, 1) := by decide +kernel
theorem dX1_lay_35 : decode cX1_lay 35 = .ok (.iload_n 1, 1) := by decide +kernel
theorem dX1_lay_36 : decode cX1_lay 36 = .ok (.aload_n 0, 1) := by decide +kernel
theorem dX1_lay_37 : decode cX1_lay 37 = .ok (.getfield 39, 3) := by decide +kernel
theorem dX1_lay_40 : decode cX1_lay 40 = .ok (.if_icmp .ge 111, 3) := by decide +kernel
theorem dX1_lay_43 : decode cX1_lay 43 = .ok (.iconst 0, 1) := by decide +kernel
theorem dX1_lay_44 : decode cX1_lay 44 = .ok (.istore_n 2, 1) := by decide +kernel
theorem dX1_lay_45 : decode cX1_lay 45 = .ok (.iconst 0, 1) := by decide +kernel
theorem dX1_lay_46 : decode cX1_lay 46 = .ok (.istore_n 3, 1) := by decide +kernel
theorem dX1_lay_47 : decode cX1_lay 47 = .ok (.iload_n 3, 1) := by decide +kernel
theorem dX1_lay_48 : decode cX1_lay 48 = .ok (.bipush 24, 2) := by decide +kernel
theorem dX1_lay_50 : decode cX1_lay 50 = .ok (.if_icmp .ge 57, 3) := by decide +kernel
theorem dX1_lay_53 : decode cX1_lay 53 = .ok (.aload_n 0, 1) := by decide +kernel
theorem dX1_lay_54 : decode cX1_lay 54 = .ok (.getfield 26, 3) := by decide +kernel
theorem dX1_lay_57 : decode cX1_lay 57 = .ok (.bipush 24, 2) := by decide +kernel
theorem dX1_lay_59 : decode cX1_lay 59 = .ok (.iload_n 1, 1) := by decide +kernel
theorem dX1_lay_60 : decode cX1_lay 60 = .ok (.imul, 1) := by decide +kernel
theorem dX1_lay_61 : decode cX1_lay 61 = .ok (.iload_n 3, 1) := by decide +kernel
theorem dX1_lay_62 : decode cX1_lay 62 = .ok (.iadd, 1) := by decide +kernel
theorem dX1_lay_63 : decode cX1_lay 63 = .ok (.aload_n 0, 1) := by decide +kernel
theorem dX1_lay_64 : decode cX1_lay 64 = .ok (.iload_n 1, 1) := by decide +kernel
theorem dX1_lay_65 : decode cX1_lay 65 = .ok (.iload_n 3, 1) := by decide +kernel
theorem dX1_lay_66 : decode cX1_lay 66 = .ok (.invokevirtual 76, 3) := by decide +kernel
theorem dX1_lay_69 : decode cX1_lay 69 = .ok (.iastore, 1) := by decide +kernel
theorem dX1_lay_70 : decode cX1_lay 70 = .ok (.aload_n 0, 1) := by decide +kernel
theorem dX1_lay_71 : decode cX1_lay 71 = .ok (.getfield 26, 3) := by decide +kernel
theorem dX1_lay_74 : decode cX1_lay 74 = .ok (.bipush 24, 2) := by decide +kernel
theorem dX1_lay_76 : decode cX1_lay 76 = .ok (.iload_n 1, 1) := by decide +kernel
theorem dX1_lay_77 : decode cX1_lay 77 = .ok (.imul, 1) := by decide +kernel
theorem dX1_lay_78 : decode cX1_lay 78 = .ok (.iload_n 3, 1) := by decide +kernel
theorem dX1_lay_79 : decode cX1_lay 79 = .ok (.iadd, 1) := by decide +kernel
theorem dX1_lay_80 : decode cX1_lay 80 = .ok (.iaload, 1) := by decide +kernel
theorem dX1_lay_81 : decode cX1_lay 81 = .ok (.iload_n 2, 1) := by decide +kernel
theorem dX1_lay_82 : decode cX1_lay 82 = .ok (.if_icmp .le 17, 3) := by decide +kernel
theorem dX1_lay_85 : decode cX1_lay 85 = .ok (.aload_n 0, 1) := by decide +kernel
theorem dX1_lay_86 : decode cX1_lay 86 = .ok (.getfield 26, 3) := by decide +kernel
theorem dX1_lay_89 : decode cX1_lay 89 = .ok (.bipush 24, 2) := by decide +kernel
theorem dX1_lay_91 : decode cX1_lay 91 = .ok (.iload_n 1, 1) := by decide +kernel
theorem dX1_lay_92 : decode cX1_lay 92 = .ok (.imul, 1) := by decide +kernel
theorem dX1_lay_93 : decode cX1_lay 93 = .ok (.iload_n 3, 1) := by decide +kernel
theorem dX1_lay_94 : decode cX1_lay 94 = .ok (.iadd, 1) := by decide +kernel
theorem dX1_lay_95 : decode cX1_lay 95 = .ok (.iaload, 1) := by decide +kernel
theorem dX1_lay_96 : decode cX1_lay 96 = .ok (.goto 4, 3) := by decide +kernel
theorem dX1_lay_99 : decode cX1_lay 99 = .ok (.iload_n 2, 1) := by decide +kernel
theorem dX1_lay_100 : decode cX1_lay 100 = .ok (.istore_n 2, 1) := by decide +kernel
theorem dX1_lay_101 : decode cX1_lay 101 = .ok (.iinc 3 1, 3) := by decide +kernel
theorem dX1_lay_104 : decode cX1_lay 104 = .ok (.goto (-57), 3) := by decide +kernel
theorem dX1_lay_107 : decode cX1_lay 107 = .ok (.iconst 0, 1) := by decide +kernel
theorem dX1_lay_108 : decode cX1_lay 108 = .ok (.istore_n 3, 1) := by decide +kernel
theorem dX1_lay_109 : decode cX1_lay 109 = .ok (.iload_n 3, 1) := by decide +kernel
theorem dX1_lay_110 : decode cX1_lay 110 = .ok (.bipush 24, 2) := by decide +kernel
theorem dX1_lay_112 : decode cX1_lay 112 = .ok (.if_icmp .ge 33, 3) := by decide +kernel
theorem dX1_lay_115 : decode cX1_lay 115 = .ok (.aload_n 0, 1) := by decide +kernel
theorem dX1_lay_116 : decode cX1_lay 116 = .ok (.getfield 26, 3) := by decide +kernel
theorem dX1_lay_119 : decode cX1_lay 119 = .ok (.bipush 24, 2) := by decide +kernel
theorem dX1_lay_121 : decode cX1_lay 121 = .ok (.iload_n 1, 1) := by decide +kernel
theorem dX1_lay_122 : decode cX1_lay 122 = .ok (.imul, 1) := by decide +kernel
theorem dX1_lay_123 : decode cX1_lay 123 = .ok (.iload_n 3, 1) := by decide +kernel
theorem dX1_lay_124 : decode cX1_lay 124 = .ok (.iadd, 1) := by decide +kernel
theorem dX1_lay_125 : decode cX1_lay 125 = .ok (.iload_n 2, 1) := by decide +kernel
theorem dX1_lay_126 : decode cX1_lay 126 = .ok (.aload_n 0, 1) := by decide +kernel
theorem dX1_lay_127 : decode cX1_lay 127 = .ok (.getfield 26, 3) := by decide +kernel
theorem dX1_lay_130 : decode cX1_lay 130 = .ok (.bipush 24, 2) := by decide +kernel
theorem dX1_lay_132 : decode cX1_lay 132 = .ok (.iload_n 1, 1) := by decide +kernel
theorem dX1_lay_133 : decode cX1_lay 133 = .ok (.imul, 1) := by decide +kernel
theorem dX1_lay_134 : decode cX1_lay 134 = .ok (.iload_n 3, 1) := by decide +kernel
theorem dX1_lay_135 : decode cX1_lay 135 = .ok (.iadd, 1) := by decide +kernel
theorem dX1_lay_136 : decode cX1_lay 136 = .ok (.iaload, 1) := by decide +kernel
theorem dX1_lay_137 : decode cX1_lay 137 = .ok (.isub, 1) := by decide +kernel
theorem dX1_lay_138 : decode cX1_lay 138 = .ok (.iastore, 1) := by decide +kernel
theorem dX1_lay_139 : decode cX1_lay 139 = .ok (.iinc 3 1, 3) := by decide +kernel
theorem dX1_lay_142 : decode cX1_lay 142 = .ok (.goto (-33), 3) := by decide +kernel
theorem dX1_lay_145 : decode cX1_lay 145 = .ok (.iinc 1 1, 3) := by decide +kernel
theorem dX1_lay_148 : decode cX1_lay 148 = .ok (.goto (-113), 3) := by decide +kernel
theorem dX1_lay_151 : decode cX1_lay 151 = .ok (.return_, 1) := by decide +kernel
theorem dX1_weigh_0 : decode cX1_weigh 0 = .ok (.aload_n 0, 1) := by decide +kernel
theorem dX1_weigh_1 : decode cX1_weigh 1 = .ok (.getfield 39, 3) := by decide +kernel
theorem dX1_weigh_4 : decode cX1_weigh 4 = .ok (.iconst 1, 1) := by decide +kernel
theorem dX1_weigh_5 : decode cX1_weigh 5 = .ok (.isub, 1) := by decide +kernel
theorem dX1_weigh_6 : decode cX1_weigh 6 = .ok (.istore_n 3, 1) := by decide +kernel
theorem dX1_weigh_7 : decode cX1_weigh 7 = .ok (.iload_n 3, 1) := by decide +kernel
theorem dX1_weigh_8 : decode cX1_weigh 8 = .ok (.ifCond .lt 336, 3) := by decide +kernel
theorem dX1_weigh_11 : decode cX1_weigh 11 = .ok (.iconst 0, 1) := by decide +kernel
theorem dX1_weigh_12 : decode cX1_weigh 12 = .ok (.istore 4, 2) := by decide +kernel
theorem dX1_weigh_14 : decode cX1_weigh 14 = .ok (.iload 4, 2) := by decide +kernel
theorem dX1_weigh_16 : decode cX1_weigh 16 = .ok (.bipush 24, 2) := by decide +kernel
theorem dX1_weigh_18 : decode cX1_weigh 18 = .ok (.if_icmp .ge 320, 3) := by decide +kernel
theorem dX1_weigh_21 : decode cX1_weigh 21 = .ok (.bipush 24, 2) := by decide +kernel
theorem dX1_weigh_23 : decode cX1_weigh 23 = .ok (.iload_n 3, 1) := by decide +kernel
theorem dX1_weigh_24 : decode cX1_weigh 24 = .ok (.imul, 1) := by decide +kernel
theorem dX1_weigh_25 : decode cX1_weigh 25 = .ok (.iload 4, 2) := by decide +kernel
theorem dX1_weigh_27 : decode cX1_weigh 27 = .ok (.iadd, 1) := by decide +kernel
theorem dX1_weigh_28 : decode cX1_weigh 28 = .ok (.istore 5, 2) := by decide +kernel
theorem dX1_weigh_30 : decode cX1_weigh 30 = .ok (.aload_n 0, 1) := by decide +kernel
theorem dX1_weigh_31 : decode cX1_weigh 31 = .ok (.getfield 16, 3) := by decide +kernel
theorem dX1_weigh_34 : decode cX1_weigh 34 = .ok (.iload 5, 2) := by decide +kernel
theorem dX1_weigh_36 : decode cX1_weigh 36 = .ok (.iload_n 3, 1) := by decide +kernel
theorem dX1_weigh_37 : decode cX1_weigh 37 = .ok (.aload_n 0, 1) := by decide +kernel
theorem dX1_weigh_38 : decode cX1_weigh 38 = .ok (.getfield 39, 3) := by decide +kernel
theorem dX1_weigh_41 : decode cX1_weigh 41 = .ok (.iconst 1, 1) := by decide +kernel
theorem dX1_weigh_42 : decode cX1_weigh 42 = .ok (.isub, 1) := by decide +kernel
theorem dX1_weigh_43 : decode cX1_weigh 43 = .ok (.if_icmp .ne 7, 3) := by decide +kernel
theorem dX1_weigh_46 : decode cX1_weigh 46 = .ok (.iconst 0, 1) := by decide +kernel
theorem dX1_weigh_47 : decode cX1_weigh 47 = .ok (.goto 5, 3) := by decide +kernel
theorem dX1_weigh_50 : decode cX1_weigh 50 = .ok (.ldc 92, 2) := by decide +kernel
theorem dX1_weigh_52 : decode cX1_weigh 52 = .ok (.iastore, 1) := by decide +kernel
theorem dX1_weigh_53 : decode cX1_weigh 53 = .ok (.aload_n 0, 1) := by decide +kernel
theorem dX1_weigh_54 : decode cX1_weigh 54 = .ok (.getfield 19, 3) := by decide +kernel
theorem dX1_weigh_57 : decode cX1_weigh 57 = .ok (.iload 5, 2) := by decide +kernel
theorem dX1_weigh_59 : decode cX1_weigh 59 = .ok (.iload_n 3, 1) := by decide +kernel
theorem dX1_weigh_60 : decode cX1_weigh 60 = .ok (.aload_n 0, 1) := by decide +kernel
theorem dX1_weigh_61 : decode cX1_weigh 61 = .ok (.getfield 39, 3) := by decide +kernel
theorem dX1_weigh_64 : decode cX1_weigh 64 = .ok (.iconst 1, 1) := by decide +kernel
theorem dX1_weigh_65 : decode cX1_weigh 65 = .ok (.isub, 1) := by decide +kernel
theorem dX1_weigh_66 : decode cX1_weigh 66 = .ok (.if_icmp .ne 7, 3) := by decide +kernel
theorem dX1_weigh_69 : decode cX1_weigh 69 = .ok (.lconst 1, 1) := by decide +kernel
theorem dX1_weigh_70 : decode cX1_weigh 70 = .ok (.goto 4, 3) := by decide +kernel
theorem dX1_weigh_73 : decode cX1_weigh 73 = .ok (.lconst 0, 1) := by decide +kernel
theorem dX1_weigh_74 : decode cX1_weigh 74 = .ok (.lastore, 1) := by decide +kernel
theorem dX1_weigh_75 : decode cX1_weigh 75 = .ok (.iconst 0, 1) := by decide +kernel
theorem dX1_weigh_76 : decode cX1_weigh 76 = .ok (.istore 6, 2) := by decide +kernel
theorem dX1_weigh_78 : decode cX1_weigh 78 = .ok (.iload 6, 2) := by decide +kernel
theorem dX1_weigh_80 : decode cX1_weigh 80 = .ok (.bipush 24, 2) := by decide +kernel
theorem dX1_weigh_82 : decode cX1_weigh 82 = .ok (.if_icmp .ge 173, 3) := by decide +kernel
theorem dX1_weigh_85 : decode cX1_weigh 85 = .ok (.iload_n 3, 1) := by decide +kernel
theorem dX1_weigh_86 : decode cX1_weigh 86 = .ok (.aload_n 0, 1) := by decide +kernel
theorem dX1_weigh_87 : decode cX1_weigh 87 = .ok (.getfield 39, 3) := by decide +kernel
theorem dX1_weigh_90 : decode cX1_weigh 90 = .ok (.iconst 1, 1) := by decide +kernel
theorem dX1_weigh_91 : decode cX1_weigh 91 = .ok (.isub, 1) := by decide +kernel
theorem dX1_weigh_92 : decode cX1_weigh 92 = .ok (.if_icmp .ge 163, 3) := by decide +kernel
theorem dX1_weigh_95 : decode cX1_weigh 95 = .ok (.aload_n 0, 1) := by decide +kernel
theorem dX1_weigh_96 : decode cX1_weigh 96 = .ok (.getfield 23, 3) := by decide +kernel
theorem dX1_weigh_99 : decode cX1_weigh 99 = .ok (.bipush 24, 2) := by decide +kernel
theorem dX1_weigh_101 : decode cX1_weigh 101 = .ok (.iload 4, 2) := by decide +kernel
theorem dX1_weigh_103 : decode cX1_weigh 103 = .ok (.imul, 1) := by decide +kernel
theorem dX1_weigh_104 : decode cX1_weigh 104 = .ok (.iload 6, 2) := by decide +kernel
theorem dX1_weigh_106 : decode cX1_weigh 106 = .ok (.iadd, 1) := by decide +kernel
theorem dX1_weigh_107 : decode cX1_weigh 107 = .ok (.iaload, 1) := by decide +kernel
theorem dX1_weigh_108 : decode cX1_weigh 108 = .ok (.aload_n 0, 1) := by decide +kernel
theorem dX1_weigh_109 : decode cX1_weigh 109 = .ok (.getfield 16, 3) := by decide +kernel
theorem dX1_weigh_112 : decode cX1_weigh 112 = .ok (.iload 5, 2) := by decide +kernel
theorem dX1_weigh_114 : decode cX1_weigh 114 = .ok (.iload 4, 2) := by decide +kernel
theorem dX1_weigh_116 : decode cX1_weigh 116 = .ok (.isub, 1) := by decide +kernel
theorem dX1_weigh_117 : decode cX1_weigh 117 = .ok (.bipush 24, 2) := by decide +kernel
theorem dX1_weigh_119 : decode cX1_weigh 119 = .ok (.iadd, 1) := by decide +kernel
theorem dX1_weigh_120 : decode cX1_weigh 120 = .ok (.iload 6, 2) := by decide +kernel
theorem dX1_weigh_122 : decode cX1_weigh 122 = .ok (.iadd, 1) := by decide +kernel
theorem dX1_weigh_123 : decode cX1_weigh 123 = .ok (.iaload, 1) := by decide +kernel
theorem dX1_weigh_124 : decode cX1_weigh 124 = .ok (.iadd, 1) := by decide +kernel
theorem dX1_weigh_125 : decode cX1_weigh 125 = .ok (.istore 7, 2) := by decide +kernel
theorem dX1_weigh_127 : decode cX1_weigh 127 = .ok (.iload 7, 2) := by decide +kernel
theorem dX1_weigh_129 : decode cX1_weigh 129 = .ok (.aload_n 0, 1) := by decide +kernel
theorem dX1_weigh_130 : decode cX1_weigh 130 = .ok (.getfield 16, 3) := by decide +kernel
theorem dX1_weigh_133 : decode cX1_weigh 133 = .ok (.iload 5, 2) := by decide +kernel
theorem dX1_weigh_135 : decode cX1_weigh 135 = .ok (.iaload, 1) := by decide +kernel
theorem dX1_weigh_136 : decode cX1_weigh 136 = .ok (.if_icmp .le 7, 3) := by decide +kernel
theorem dX1_weigh_139 : decode cX1_weigh 139 = .ok (.lconst 0, 1) := by decide +kernel
theorem dX1_weigh_140 : decode cX1_weigh 140 = .ok (.goto 19, 3) := by decide +kernel
theorem dX1_weigh_143 : decode cX1_weigh 143 = .ok (.aload_n 0, 1) := by decide +kernel
theorem dX1_weigh_144 : decode cX1_weigh 144 = .ok (.getfield 19, 3) := by decide +kernel
theorem dX1_weigh_147 : decode cX1_weigh 147 = .ok (.iload 5, 2) := by decide +kernel
theorem dX1_weigh_149 : decode cX1_weigh 149 = .ok (.iload 4, 2) := by decide +kernel
theorem dX1_weigh_151 : decode cX1_weigh 151 = .ok (.isub, 1) := by decide +kernel
theorem dX1_weigh_152 : decode cX1_weigh 152 = .ok (.bipush 24, 2) := by decide +kernel
theorem dX1_weigh_154 : decode cX1_weigh 154 = .ok (.iadd, 1) := by decide +kernel
theorem dX1_weigh_155 : decode cX1_weigh 155 = .ok (.iload 6, 2) := by decide +kernel
theorem dX1_weigh_157 : decode cX1_weigh 157 = .ok (.iadd, 1) := by decide +kernel
theorem dX1_weigh_158 : decode cX1_weigh 158 = .ok (.laload, 1) := by decide +kernel
theorem dX1_weigh_159 : decode cX1_weigh 159 = .ok (.lstore 8, 2) := by decide +kernel
theorem dX1_weigh_161 : decode cX1_weigh 161 = .ok (.aload_n 0, 1) := by decide +kernel
theorem dX1_weigh_162 : decode cX1_weigh 162 = .ok (.getfield 19, 3) := by decide +kernel
theorem dX1_weigh_165 : decode cX1_weigh 165 = .ok (.iload 5, 2) := by decide +kernel
theorem dX1_weigh_167 : decode cX1_weigh 167 = .ok (.iload 7, 2) := by decide +kernel
theorem dX1_weigh_169 : decode cX1_weigh 169 = .ok (.aload_n 0, 1) := by decide +kernel
theorem dX1_weigh_170 : decode cX1_weigh 170 = .ok (.getfield 16, 3) := by decide +kernel
theorem dX1_weigh_173 : decode cX1_weigh 173 = .ok (.iload 5, 2) := by decide +kernel
theorem dX1_weigh_175 : decode cX1_weigh 175 = .ok (.iaload, 1) := by decide +kernel
theorem dX1_weigh_176 : decode cX1_weigh 176 = .ok (.if_icmp .ge 8, 3) := by decide +kernel
theorem dX1_weigh_179 : decode cX1_weigh 179 = .ok (.lload 8, 2) := by decide +kernel
theorem dX1_weigh_181 : decode cX1_weigh 181 = .ok (.goto 36, 3) := by decide +kernel
theorem dX1_weigh_184 : decode cX1_weigh 184 = .ok (.aload_n 0, 1) := by decide +kernel
theorem dX1_weigh_185 : decode cX1_weigh 185 = .ok (.getfield 19, 3) := by decide +kernel
theorem dX1_weigh_188 : decode cX1_weigh 188 = .ok (.iload 5, 2) := by decide +kernel
theorem dX1_weigh_190 : decode cX1_weigh 190 = .ok (.laload, 1) := by decide +kernel
theorem dX1_weigh_191 : decode cX1_weigh 191 = .ok (.lload 8, 2) := by decide +kernel
theorem dX1_weigh_193 : decode cX1_weigh 193 = .ok (.ladd, 1) := by decide +kernel
theorem dX1_weigh_194 : decode cX1_weigh 194 = .ok (.ldc2_w 93, 3) := by decide +kernel
theorem dX1_weigh_197 : decode cX1_weigh 197 = .ok (.lcmp, 1) := by decide +kernel
theorem dX1_weigh_198 : decode cX1_weigh 198 = .ok (.ifCond .le 9, 3) := by decide +kernel
theorem dX1_weigh_201 : decode cX1_weigh 201 = .ok (.ldc2_w 93, 3) := by decide +kernel
theorem dX1_weigh_204 : decode cX1_weigh 204 = .ok (.goto 13, 3) := by decide +kernel
theorem dX1_weigh_207 : decode cX1_weigh 207 = .ok (.aload_n 0, 1) := by decide +kernel
theorem dX1_weigh_208 : decode cX1_weigh 208 = .ok (.getfield 19, 3) := by decide +kernel
theorem dX1_weigh_211 : decode cX1_weigh 211 = .ok (.iload 5, 2) := by decide +kernel
theorem dX1_weigh_213 : decode cX1_weigh 213 = .ok (.laload, 1) := by decide +kernel
theorem dX1_weigh_214 : decode cX1_weigh 214 = .ok (.lload 8, 2) := by decide +kernel
theorem dX1_weigh_216 : decode cX1_weigh 216 = .ok (.ladd, 1) := by decide +kernel
theorem dX1_weigh_217 : decode cX1_weigh 217 = .ok (.lastore, 1) := by decide +kernel
theorem dX1_weigh_218 : decode cX1_weigh 218 = .ok (.aload_n 0, 1) := by decide +kernel
theorem dX1_weigh_219 : decode cX1_weigh 219 = .ok (.getfield 16, 3) := by decide +kernel
theorem dX1_weigh_222 : decode cX1_weigh 222 = .ok (.iload 5, 2) := by decide +kernel
theorem dX1_weigh_224 : decode cX1_weigh 224 = .ok (.iload 7, 2) := by decide +kernel
theorem dX1_weigh_226 : decode cX1_weigh 226 = .ok (.aload_n 0, 1) := by decide +kernel
theorem dX1_weigh_227 : decode cX1_weigh 227 = .ok (.getfield 16, 3) := by decide +kernel
theorem dX1_weigh_230 : decode cX1_weigh 230 = .ok (.iload 5, 2) := by decide +kernel
theorem dX1_weigh_232 : decode cX1_weigh 232 = .ok (.iaload, 1) := by decide +kernel
theorem dX1_weigh_233 : decode cX1_weigh 233 = .ok (.if_icmp .ge 8, 3) := by decide +kernel
theorem dX1_weigh_236 : decode cX1_weigh 236 = .ok (.iload 7, 2) := by decide +kernel
theorem dX1_weigh_238 : decode cX1_weigh 238 = .ok (.goto 10, 3) := by decide +kernel
theorem dX1_weigh_241 : decode cX1_weigh 241 = .ok (.aload_n 0, 1) := by decide +kernel
theorem dX1_weigh_242 : decode cX1_weigh 242 = .ok (.getfield 16, 3) := by decide +kernel
theorem dX1_weigh_245 : decode cX1_weigh 245 = .ok (.iload 5, 2) := by decide +kernel
theorem dX1_weigh_247 : decode cX1_weigh 247 = .ok (.iaload, 1) := by decide +kernel
theorem dX1_weigh_248 : decode cX1_weigh 248 = .ok (.iastore, 1) := by decide +kernel
theorem dX1_weigh_249 : decode cX1_weigh 249 = .ok (.iinc 6 1, 3) := by decide +kernel
theorem dX1_weigh_252 : decode cX1_weigh 252 = .ok (.goto (-174), 3) := by decide +kernel
theorem dX1_weigh_255 : decode cX1_weigh 255 = .ok (.iload_n 3, 1) := by decide +kernel
theorem dX1_weigh_256 : decode cX1_weigh 256 = .ok (.iload_n 1, 1) := by decide +kernel
theorem dX1_weigh_257 : decode cX1_weigh 257 = .ok (.if_icmp .ne 13, 3) := by decide +kernel
theorem dX1_weigh_260 : decode cX1_weigh 260 = .ok (.iload_n 2, 1) := by decide +kernel
theorem dX1_weigh_261 : decode cX1_weigh 261 = .ok (.iload 4, 2) := by decide +kernel
theorem dX1_weigh_263 : decode cX1_weigh 263 = .ok (.ishr, 1) := by decide +kernel
theorem dX1_weigh_264 : decode cX1_weigh 264 = .ok (.iconst 1, 1) := by decide +kernel
theorem dX1_weigh_265 : decode cX1_weigh 265 = .ok (.iand, 1) := by decide +kernel
theorem dX1_weigh_266 : decode cX1_weigh 266 = .ok (.iconst 1, 1) := by decide +kernel
theorem dX1_weigh_267 : decode cX1_weigh 267 = .ok (.if_icmp .ne 7, 3) := by decide +kernel
theorem dX1_weigh_270 : decode cX1_weigh 270 = .ok (.iconst 1, 1) := by decide +kernel
theorem dX1_weigh_271 : decode cX1_weigh 271 = .ok (.goto 4, 3) := by decide +kernel
theorem dX1_weigh_274 : decode cX1_weigh 274 = .ok (.iconst 0, 1) := by decide +kernel
theorem dX1_weigh_275 : decode cX1_weigh 275 = .ok (.istore 6, 2) := by decide +kernel
theorem dX1_weigh_277 : decode cX1_weigh 277 = .ok (.aload_n 0, 1) := by decide +kernel
theorem dX1_weigh_278 : decode cX1_weigh 278 = .ok (.getfield 16, 3) := by decide +kernel
theorem dX1_weigh_281 : decode cX1_weigh 281 = .ok (.iload 5, 2) := by decide +kernel
theorem dX1_weigh_283 : decode cX1_weigh 283 = .ok (.iload 6, 2) := by decide +kernel
theorem dX1_weigh_285 : decode cX1_weigh 285 = .ok (.ifCond .eq 21, 3) := by decide +kernel
theorem dX1_weigh_288 : decode cX1_weigh 288 = .ok (.aload_n 0, 1) := by decide +kernel
theorem dX1_weigh_289 : decode cX1_weigh 289 = .ok (.getfield 16, 3) := by decide +kernel
theorem dX1_weigh_292 : decode cX1_weigh 292 = .ok (.iload 5, 2) := by decide +kernel
theorem dX1_weigh_294 : decode cX1_weigh 294 = .ok (.iaload, 1) := by decide +kernel
theorem dX1_weigh_295 : decode cX1_weigh 295 = .ok (.aload_n 0, 1) := by decide +kernel
theorem dX1_weigh_296 : decode cX1_weigh 296 = .ok (.getfield 26, 3) := by decide +kernel
theorem dX1_weigh_299 : decode cX1_weigh 299 = .ok (.iload 5, 2) := by decide +kernel
theorem dX1_weigh_301 : decode cX1_weigh 301 = .ok (.iaload, 1) := by decide +kernel
theorem dX1_weigh_302 : decode cX1_weigh 302 = .ok (.iadd, 1) := by decide +kernel
theorem dX1_weigh_303 : decode cX1_weigh 303 = .ok (.goto 5, 3) := by decide +kernel
theorem dX1_weigh_306 : decode cX1_weigh 306 = .ok (.ldc 92, 2) := by decide +kernel
theorem dX1_weigh_308 : decode cX1_weigh 308 = .ok (.iastore, 1) := by decide +kernel
theorem dX1_weigh_309 : decode cX1_weigh 309 = .ok (.aload_n 0, 1) := by decide +kernel
theorem dX1_weigh_310 : decode cX1_weigh 310 = .ok (.getfield 19, 3) := by decide +kernel
theorem dX1_weigh_313 : decode cX1_weigh 313 = .ok (.iload 5, 2) := by decide +kernel
theorem dX1_weigh_315 : decode cX1_weigh 315 = .ok (.iload 6, 2) := by decide +kernel
theorem dX1_weigh_317 : decode cX1_weigh 317 = .ok (.ifCond .eq 13, 3) := by decide +kernel
theorem dX1_weigh_320 : decode cX1_weigh 320 = .ok (.aload_n 0, 1) := by decide +kernel
theorem dX1_weigh_321 : decode cX1_weigh 321 = .ok (.getfield 19, 3) := by decide +kernel
theorem dX1_weigh_324 : decode cX1_weigh 324 = .ok (.iload 5, 2) := by decide +kernel
theorem dX1_weigh_326 : decode cX1_weigh 326 = .ok (.laload, 1) := by decide +kernel
theorem dX1_weigh_327 : decode cX1_weigh 327 = .ok (.goto 4, 3) := by decide +kernel
theorem dX1_weigh_330 : decode cX1_weigh 330 = .ok (.lconst 0, 1) := by decide +kernel
theorem dX1_weigh_331 : decode cX1_weigh 331 = .ok (.lastore, 1) := by decide +kernel
theorem dX1_weigh_332 : decode cX1_weigh 332 = .ok (.iinc 4 1, 3) := by decide +kernel
theorem dX1_weigh_335 : decode cX1_weigh 335 = .ok (.goto (-321), 3) := by decide +kernel
theorem dX1_weigh_338 : decode cX1_weigh 338 = .ok (.iinc 3 (-1), 3) := by decide +kernel
theorem dX1_weigh_341 : decode cX1_weigh 341 = .ok (.goto (-334), 3) := by decide +kernel
theorem dX1_weigh_344 : decode cX1_weigh 344 = .ok (.aload_n 0, 1) := by decide +kernel
theorem dX1_weigh_345 : decode cX1_weigh 345 = .ok (.getfield 39, 3) := by decide +kernel
theorem dX1_weigh_348 : decode cX1_weigh 348 = .ok (.ifCond .ne 7, 3) := by decide +kernel
theorem dX1_weigh_351 : decode cX1_weigh 351 = .ok (.iconst 0, 1) := by decide +kernel
theorem dX1_weigh_352 : decode cX1_weigh 352 = .ok (.goto 5, 3) := by decide +kernel
theorem dX1_weigh_355 : decode cX1_weigh 355 = .ok (.ldc 92, 2) := by decide +kernel
theorem dX1_weigh_357 : decode cX1_weigh 357 = .ok (.istore_n 3, 1) := by decide +kernel
theorem dX1_weigh_358 : decode cX1_weigh 358 = .ok (.iconst 0, 1) := by decide +kernel
theorem dX1_weigh_359 : decode cX1_weigh 359 = .ok (.istore 4, 2) := by decide +kernel
theorem dX1_weigh_361 : decode cX1_weigh 361 = .ok (.iload 4, 2) := by decide +kernel
theorem dX1_weigh_363 : decode cX1_weigh 363 = .ok (.bipush 24, 2) := by decide +kernel
theorem dX1_weigh_365 : decode cX1_weigh 365 = .ok (.if_icmp .ge 39, 3) := by decide +kernel
theorem dX1_weigh_368 : decode cX1_weigh 368 = .ok (.aload_n 0, 1) := by decide +kernel
theorem dX1_weigh_369 : decode cX1_weigh 369 = .ok (.getfield 39, 3) := by decide +kernel
theorem dX1_weigh_372 : decode cX1_weigh 372 = .ok (.ifCond .le 32, 3) := by decide +kernel
theorem dX1_weigh_375 : decode cX1_weigh 375 = .ok (.aload_n 0, 1) := by decide +kernel
theorem dX1_weigh_376 : decode cX1_weigh 376 = .ok (.getfield 16, 3) := by decide +kernel
theorem dX1_weigh_379 : decode cX1_weigh 379 = .ok (.iload 4, 2) := by decide +kernel
theorem dX1_weigh_381 : decode cX1_weigh 381 = .ok (.iaload, 1) := by decide +kernel
theorem dX1_weigh_382 : decode cX1_weigh 382 = .ok (.iload_n 3, 1) := by decide +kernel
theorem dX1_weigh_383 : decode cX1_weigh 383 = .ok (.if_icmp .ge 13, 3) := by decide +kernel
theorem dX1_weigh_386 : decode cX1_weigh 386 = .ok (.aload_n 0, 1) := by decide +kernel
theorem dX1_weigh_387 : decode cX1_weigh 387 = .ok (.getfield 16, 3) := by decide +kernel
theorem dX1_weigh_390 : decode cX1_weigh 390 = .ok (.iload 4, 2) := by decide +kernel
theorem dX1_weigh_392 : decode cX1_weigh 392 = .ok (.iaload, 1) := by decide +kernel
theorem dX1_weigh_393 : decode cX1_weigh 393 = .ok (.goto 4, 3) := by decide +kernel
theorem dX1_weigh_396 : decode cX1_weigh 396 = .ok (.iload_n 3, 1) := by decide +kernel
theorem dX1_weigh_397 : decode cX1_weigh 397 = .ok (.istore_n 3, 1) := by decide +kernel
theorem dX1_weigh_398 : decode cX1_weigh 398 = .ok (.iinc 4 1, 3) := by decide +kernel
theorem dX1_weigh_401 : decode cX1_weigh 401 = .ok (.goto (-40), 3) := by decide +kernel
theorem dX1_weigh_404 : decode cX1_weigh 404 = .ok (.iload_n 3, 1) := by decide +kernel
theorem dX1_weigh_405 : decode cX1_weigh 405 = .ok (.ireturn, 1) := by decide +kernel
theorem dX1_least_0 : decode cX1_least 0 = .ok (.aload_n 0, 1) := by decide +kernel
theorem dX1_least_1 : decode cX1_least 1 = .ok (.iconst 0, 1) := by decide +kernel
theorem dX1_least_2 : decode cX1_least 2 = .ok (.putfield 35, 3) := by decide +kernel
theorem dX1_least_5 : decode cX1_least 5 = .ok (.aload_n 0, 1) := by decide +kernel
theorem dX1_least_6 : decode cX1_least 6 = .ok (.invokevirtual 95, 3) := by decide +kernel
theorem dX1_least_9 : decode cX1_least 9 = .ok (.aload_n 0, 1) := by decide +kernel
theorem dX1_least_10 : decode cX1_least 10 = .ok (.iconst (-1), 1) := by decide +kernel
theorem dX1_least_11 : decode cX1_least 11 = .ok (.iconst 0, 1) := by decide +kernel
theorem dX1_least_12 : decode cX1_least 12 = .ok (.invokevirtual 98, 3) := by decide +kernel
theorem dX1_least_15 : decode cX1_least 15 = .ok (.ireturn, 1) := by decide +kernel
theorem dX1_count_0 : decode cX1_count 0 = .ok (.aload_n 0, 1) := by decide +kernel
theorem dX1_count_1 : decode cX1_count 1 = .ok (.iconst 0, 1) := by decide +kernel
theorem dX1_count_2 : decode cX1_count 2 = .ok (.putfield 35, 3) := by decide +kernel
theorem dX1_count_5 : decode cX1_count 5 = .ok (.aload_n 0, 1) := by decide +kernel
theorem dX1_count_6 : decode cX1_count 6 = .ok (.invokevirtual 95, 3) := by decide +kernel
theorem dX1_count_9 : decode cX1_count 9 = .ok (.aload_n 0, 1) := by decide +kernel
theorem dX1_count_10 : decode cX1_count 10 = .ok (.iconst (-1), 1) := by decide +kernel
theorem dX1_count_11 : decode cX1_count 11 = .ok (.iconst 0, 1) := by decide +kernel
theorem dX1_count_12 : decode cX1_count 12 = .ok (.invokevirtual 98, 3) := by decide +kernel
theorem dX1_count_15 : decode cX1_count 15 = .ok (.istore_n 1, 1) := by decide +kernel
theorem dX1_count_16 : decode cX1_count 16 = .ok (.aload_n 0, 1) := by decide +kernel
theorem dX1_count_17 : decode cX1_count 17 = .ok (.getfield 39, 3) := by decide +kernel
theorem dX1_count_20 : decode cX1_count 20 = .ok (.ifCond .ne 5, 3) := by decide +kernel
theorem dX1_count_23 : decode cX1_count 23 = .ok (.lconst 1, 1) := by decide +kernel
theorem dX1_count_24 : decode cX1_count 24 = .ok (.lreturn, 1) := by decide +kernel
theorem dX1_count_25 : decode cX1_count 25 = .ok (.lconst 0, 1) := by decide +kernel
theorem dX1_count_26 : decode cX1_count 26 = .ok (.lstore_n 2, 1) := by decide +kernel
theorem dX1_count_27 : decode cX1_count 27 = .ok (.iconst 0, 1) := by decide +kernel
theorem dX1_count_28 : decode cX1_count 28 = .ok (.istore 4, 2) := by decide +kernel
theorem dX1_count_30 : decode cX1_count 30 = .ok (.iload 4, 2) := by decide +kernel
theorem dX1_count_32 : decode cX1_count 32 = .ok (.bipush 24, 2) := by decide +kernel
theorem dX1_count_34 : decode cX1_count 34 = .ok (.if_icmp .ge 50, 3) := by decide +kernel
theorem dX1_count_37 : decode cX1_count 37 = .ok (.lload_n 2, 1) := by decide +kernel
theorem dX1_count_38 : decode cX1_count 38 = .ok (.aload_n 0, 1) := by decide +kernel
theorem dX1_count_39 : decode cX1_count 39 = .ok (.getfield 16, 3) := by decide +kernel
theorem dX1_count_42 : decode cX1_count 42 = .ok (.iload 4, 2) := by decide +kernel
theorem dX1_count_44 : decode cX1_count 44 = .ok (.iaload, 1) := by decide +kernel
theorem dX1_count_45 : decode cX1_count 45 = .ok (.iload_n 1, 1) := by decide +kernel
theorem dX1_count_46 : decode cX1_count 46 = .ok (.if_icmp .ne 13, 3) := by decide +kernel
theorem dX1_count_49 : decode cX1_count 49 = .ok (.aload_n 0, 1) := by decide +kernel
theorem dX1_count_50 : decode cX1_count 50 = .ok (.getfield 19, 3) := by decide +kernel
theorem dX1_count_53 : decode cX1_count 53 = .ok (.iload 4, 2) := by decide +kernel
theorem dX1_count_55 : decode cX1_count 55 = .ok (.laload, 1) := by decide +kernel
theorem dX1_count_56 : decode cX1_count 56 = .ok (.goto 4, 3) := by decide +kernel
theorem dX1_count_59 : decode cX1_count 59 = .ok (.lconst 0, 1) := by decide +kernel
theorem dX1_count_60 : decode cX1_count 60 = .ok (.ladd, 1) := by decide +kernel
theorem dX1_count_61 : decode cX1_count 61 = .ok (.lstore_n 2, 1) := by decide +kernel
theorem dX1_count_62 : decode cX1_count 62 = .ok (.lload_n 2, 1) := by decide +kernel
theorem dX1_count_63 : decode cX1_count 63 = .ok (.ldc2_w 93, 3) := by decide +kernel
theorem dX1_count_66 : decode cX1_count 66 = .ok (.lcmp, 1) := by decide +kernel
theorem dX1_count_67 : decode cX1_count 67 = .ok (.ifCond .le 9, 3) := by decide +kernel
theorem dX1_count_70 : decode cX1_count 70 = .ok (.ldc2_w 93, 3) := by decide +kernel
theorem dX1_count_73 : decode cX1_count 73 = .ok (.goto 4, 3) := by decide +kernel
theorem dX1_count_76 : decode cX1_count 76 = .ok (.lload_n 2, 1) := by decide +kernel
theorem dX1_count_77 : decode cX1_count 77 = .ok (.lstore_n 2, 1) := by decide +kernel
theorem dX1_count_78 : decode cX1_count 78 = .ok (.iinc 4 1, 3) := by decide +kernel
theorem dX1_count_81 : decode cX1_count 81 = .ok (.goto (-51), 3) := by decide +kernel
theorem dX1_count_84 : decode cX1_count 84 = .ok (.lload_n 2, 1) := by decide +kernel
theorem dX1_count_85 : decode cX1_count 85 = .ok (.lreturn, 1) := by decide +kernel
theorem dX1_walkBehind_0 : decode cX1_walkBehind 0 = .ok (.aload_n 0, 1) := by decide +kernel
theorem dX1_walkBehind_1 : decode cX1_walkBehind 1 = .ok (.invokevirtual 95, 3) := by decide +kernel
theorem dX1_walkBehind_4 : decode cX1_walkBehind 4 = .ok (.aload_n 0, 1) := by decide +kernel
theorem dX1_walkBehind_5 : decode cX1_walkBehind 5 = .ok (.iconst (-1), 1) := by decide +kernel
theorem dX1_walkBehind_6 : decode cX1_walkBehind 6 = .ok (.iconst 0, 1) := by decide +kernel
theorem dX1_walkBehind_7 : decode cX1_walkBehind 7 = .ok (.invokevirtual 98, 3) := by decide +kernel
theorem dX1_walkBehind_10 : decode cX1_walkBehind 10 = .ok (.istore_n 3, 1) := by decide +kernel
theorem dX1_walkBehind_11 : decode cX1_walkBehind 11 = .ok (.lload_n 1, 1) := by decide +kernel
theorem dX1_walkBehind_12 : decode cX1_walkBehind 12 = .ok (.lstore 4, 2) := by decide +kernel
theorem dX1_walkBehind_14 : decode cX1_walkBehind 14 = .ok (.iconst 0, 1) := by decide +kernel
theorem dX1_walkBehind_15 : decode cX1_walkBehind 15 = .ok (.istore 6, 2) := by decide +kernel
theorem dX1_walkBehind_17 : decode cX1_walkBehind 17 = .ok (.iload 6, 2) := by decide +kernel
theorem dX1_walkBehind_19 : decode cX1_walkBehind 19 = .ok (.aload_n 0, 1) := by decide +kernel
theorem dX1_walkBehind_20 : decode cX1_walkBehind 20 = .ok (.getfield 39, 3) := by decide +kernel
theorem dX1_walkBehind_23 : decode cX1_walkBehind 23 = .ok (.if_icmp .ge 210, 3) := by decide +kernel
theorem dX1_walkBehind_26 : decode cX1_walkBehind 26 = .ok (.iconst 0, 1) := by decide +kernel
theorem dX1_walkBehind_27 : decode cX1_walkBehind 27 = .ok (.istore 7, 2) := by decide +kernel
theorem dX1_walkBehind_29 : decode cX1_walkBehind 29 = .ok (.iconst 0, 1) := by decide +kernel
theorem dX1_walkBehind_30 : decode cX1_walkBehind 30 = .ok (.istore 8, 2) := by decide +kernel
theorem dX1_walkBehind_32 : decode cX1_walkBehind 32 = .ok (.iload 7, 2) := by decide +kernel
theorem dX1_walkBehind_34 : decode cX1_walkBehind 34 = .ok (.bipush 24, 2) := by decide +kernel
theorem dX1_walkBehind_36 : decode cX1_walkBehind 36 = .ok (.if_icmp .ge 147, 3) := by decide +kernel
theorem dX1_walkBehind_39 : decode cX1_walkBehind 39 = .ok (.iload 8, 2) := by decide +kernel
theorem dX1_walkBehind_41 : decode cX1_walkBehind 41 = .ok (.ifCond .ne 142, 3) := by decide +kernel
theorem dX1_walkBehind_44 : decode cX1_walkBehind 44 = .ok (.iload 6, 2) := by decide +kernel
theorem dX1_walkBehind_46 : decode cX1_walkBehind 46 = .ok (.ifCond .ne 7, 3) := by decide +kernel
theorem dX1_walkBehind_49 : decode cX1_walkBehind 49 = .ok (.iconst 0, 1) := by decide +kernel
theorem dX1_walkBehind_50 : decode cX1_walkBehind 50 = .ok (.goto 23, 3) := by decide +kernel
theorem dX1_walkBehind_53 : decode cX1_walkBehind 53 = .ok (.aload_n 0, 1) := by decide +kernel
theorem dX1_walkBehind_54 : decode cX1_walkBehind 54 = .ok (.getfield 23, 3) := by decide +kernel
theorem dX1_walkBehind_57 : decode cX1_walkBehind 57 = .ok (.bipush 24, 2) := by decide +kernel
theorem dX1_walkBehind_59 : decode cX1_walkBehind 59 = .ok (.aload_n 0, 1) := by decide +kernel
theorem dX1_walkBehind_60 : decode cX1_walkBehind 60 = .ok (.getfield 29, 3) := by decide +kernel
theorem dX1_walkBehind_63 : decode cX1_walkBehind 63 = .ok (.iload 6, 2) := by decide +kernel
theorem dX1_walkBehind_65 : decode cX1_walkBehind 65 = .ok (.iconst 1, 1) := by decide +kernel
theorem dX1_walkBehind_66 : decode cX1_walkBehind 66 = .ok (.isub, 1) := by decide +kernel
theorem dX1_walkBehind_67 : decode cX1_walkBehind 67 = .ok (.iaload, 1) := by decide +kernel
theorem dX1_walkBehind_68 : decode cX1_walkBehind 68 = .ok (.imul, 1) := by decide +kernel
theorem dX1_walkBehind_69 : decode cX1_walkBehind 69 = .ok (.iload 7, 2) := by decide +kernel
theorem dX1_walkBehind_71 : decode cX1_walkBehind 71 = .ok (.iadd, 1) := by decide +kernel
theorem dX1_walkBehind_72 : decode cX1_walkBehind 72 = .ok (.iaload, 1) := by decide +kernel
theorem dX1_walkBehind_73 : decode cX1_walkBehind 73 = .ok (.istore 9, 2) := by decide +kernel
theorem dX1_walkBehind_75 : decode cX1_walkBehind 75 = .ok (.aload_n 0, 1) := by decide +kernel
theorem dX1_walkBehind_76 : decode cX1_walkBehind 76 = .ok (.getfield 16, 3) := by decide +kernel
theorem dX1_walkBehind_79 : decode cX1_walkBehind 79 = .ok (.bipush 24, 2) := by decide +kernel
theorem dX1_walkBehind_81 : decode cX1_walkBehind 81 = .ok (.iload 6, 2) := by decide +kernel
theorem dX1_walkBehind_83 : decode cX1_walkBehind 83 = .ok (.imul, 1) := by decide +kernel
theorem dX1_walkBehind_84 : decode cX1_walkBehind 84 = .ok (.iload 7, 2) := by decide +kernel
theorem dX1_walkBehind_86 : decode cX1_walkBehind 86 = .ok (.iadd, 1) := by decide +kernel
theorem dX1_walkBehind_87 : decode cX1_walkBehind 87 = .ok (.iaload, 1) := by decide +kernel
theorem dX1_walkBehind_88 : decode cX1_walkBehind 88 = .ok (.iload 9, 2) := by decide +kernel
theorem dX1_walkBehind_90 : decode cX1_walkBehind 90 = .ok (.iadd, 1) := by decide +kernel
theorem dX1_walkBehind_91 : decode cX1_walkBehind 91 = .ok (.iload_n 3, 1) := by decide +kernel
theorem dX1_walkBehind_92 : decode cX1_walkBehind 92 = .ok (.if_icmp .ne 7, 3) := by decide +kernel
theorem dX1_walkBehind_95 : decode cX1_walkBehind 95 = .ok (.iconst 1, 1) := by decide +kernel
theorem dX1_walkBehind_96 : decode cX1_walkBehind 96 = .ok (.goto 4, 3) := by decide +kernel
theorem dX1_walkBehind_99 : decode cX1_walkBehind 99 = .ok (.iconst 0, 1) := by decide +kernel
theorem dX1_walkBehind_100 : decode cX1_walkBehind 100 = .ok (.istore 10, 2) := by decide +kernel
theorem dX1_walkBehind_102 : decode cX1_walkBehind 102 = .ok (.iload 10, 2) := by decide +kernel
theorem dX1_walkBehind_104 : decode cX1_walkBehind 104 = .ok (.ifCond .eq 26, 3) := by decide +kernel
theorem dX1_walkBehind_107 : decode cX1_walkBehind 107 = .ok (.lload 4, 2) := by decide +kernel
theorem dX1_walkBehind_109 : decode cX1_walkBehind 109 = .ok (.aload_n 0, 1) := by decide +kernel
theorem dX1_walkBehind_110 : decode cX1_walkBehind 110 = .ok (.getfield 19, 3) := by decide +kernel
theorem dX1_walkBehind_113 : decode cX1_walkBehind 113 = .ok (.bipush 24, 2) := by decide +kernel
theorem dX1_walkBehind_115 : decode cX1_walkBehind 115 = .ok (.iload 6, 2) := by decide +kernel
theorem dX1_walkBehind_117 : decode cX1_walkBehind 117 = .ok (.imul, 1) := by decide +kernel
theorem dX1_walkBehind_118 : decode cX1_walkBehind 118 = .ok (.iload 7, 2) := by decide +kernel
theorem dX1_walkBehind_120 : decode cX1_walkBehind 120 = .ok (.iadd, 1) := by decide +kernel
theorem dX1_walkBehind_121 : decode cX1_walkBehind 121 = .ok (.laload, 1) := by decide +kernel
theorem dX1_walkBehind_122 : decode cX1_walkBehind 122 = .ok (.lcmp, 1) := by decide +kernel
theorem dX1_walkBehind_123 : decode cX1_walkBehind 123 = .ok (.ifCond .ge 7, 3) := by decide +kernel
theorem dX1_walkBehind_126 : decode cX1_walkBehind 126 = .ok (.iconst 1, 1) := by decide +kernel
theorem dX1_walkBehind_127 : decode cX1_walkBehind 127 = .ok (.goto 4, 3) := by decide +kernel
theorem dX1_walkBehind_130 : decode cX1_walkBehind 130 = .ok (.iconst 0, 1) := by decide +kernel
theorem dX1_walkBehind_131 : decode cX1_walkBehind 131 = .ok (.istore 8, 2) := by decide +kernel
theorem dX1_walkBehind_133 : decode cX1_walkBehind 133 = .ok (.lload 4, 2) := by decide +kernel
theorem dX1_walkBehind_135 : decode cX1_walkBehind 135 = .ok (.iload 10, 2) := by decide +kernel
theorem dX1_walkBehind_137 : decode cX1_walkBehind 137 = .ok (.ifCond .eq 24, 3) := by decide +kernel
theorem dX1_walkBehind_140 : decode cX1_walkBehind 140 = .ok (.iload 8, 2) := by decide +kernel
theorem dX1_walkBehind_142 : decode cX1_walkBehind 142 = .ok (.ifCond .ne 19, 3) := by decide +kernel
theorem dX1_walkBehind_145 : decode cX1_walkBehind 145 = .ok (.aload_n 0, 1) := by decide +kernel
theorem dX1_walkBehind_146 : decode cX1_walkBehind 146 = .ok (.getfield 19, 3) := by decide +kernel
theorem dX1_walkBehind_149 : decode cX1_walkBehind 149 = .ok (.bipush 24, 2) := by decide +kernel
theorem dX1_walkBehind_151 : decode cX1_walkBehind 151 = .ok (.iload 6, 2) := by decide +kernel
theorem dX1_walkBehind_153 : decode cX1_walkBehind 153 = .ok (.imul, 1) := by decide +kernel
theorem dX1_walkBehind_154 : decode cX1_walkBehind 154 = .ok (.iload 7, 2) := by decide +kernel
theorem dX1_walkBehind_156 : decode cX1_walkBehind 156 = .ok (.iadd, 1) := by decide +kernel
theorem dX1_walkBehind_157 : decode cX1_walkBehind 157 = .ok (.laload, 1) := by decide +kernel
theorem dX1_walkBehind_158 : decode cX1_walkBehind 158 = .ok (.goto 4, 3) := by decide +kernel
theorem dX1_walkBehind_161 : decode cX1_walkBehind 161 = .ok (.lconst 0, 1) := by decide +kernel
theorem dX1_walkBehind_162 : decode cX1_walkBehind 162 = .ok (.lsub, 1) := by decide +kernel
theorem dX1_walkBehind_163 : decode cX1_walkBehind 163 = .ok (.lstore 4, 2) := by decide +kernel
theorem dX1_walkBehind_165 : decode cX1_walkBehind 165 = .ok (.iload 7, 2) := by decide +kernel
theorem dX1_walkBehind_167 : decode cX1_walkBehind 167 = .ok (.iload 8, 2) := by decide +kernel
theorem dX1_walkBehind_169 : decode cX1_walkBehind 169 = .ok (.ifCond .eq 7, 3) := by decide +kernel
theorem dX1_walkBehind_172 : decode cX1_walkBehind 172 = .ok (.iconst 0, 1) := by decide +kernel
theorem dX1_walkBehind_173 : decode cX1_walkBehind 173 = .ok (.goto 4, 3) := by decide +kernel
theorem dX1_walkBehind_176 : decode cX1_walkBehind 176 = .ok (.iconst 1, 1) := by decide +kernel
theorem dX1_walkBehind_177 : decode cX1_walkBehind 177 = .ok (.iadd, 1) := by decide +kernel
theorem dX1_walkBehind_178 : decode cX1_walkBehind 178 = .ok (.istore 7, 2) := by decide +kernel
theorem dX1_walkBehind_180 : decode cX1_walkBehind 180 = .ok (.goto (-148), 3) := by decide +kernel
theorem dX1_walkBehind_183 : decode cX1_walkBehind 183 = .ok (.iload 8, 2) := by decide +kernel
theorem dX1_walkBehind_185 : decode cX1_walkBehind 185 = .ok (.ifCond .ne 5, 3) := by decide +kernel
theorem dX1_walkBehind_188 : decode cX1_walkBehind 188 = .ok (.iconst 0, 1) := by decide +kernel
theorem dX1_walkBehind_189 : decode cX1_walkBehind 189 = .ok (.ireturn, 1) := by decide +kernel
theorem dX1_walkBehind_190 : decode cX1_walkBehind 190 = .ok (.aload_n 0, 1) := by decide +kernel
theorem dX1_walkBehind_191 : decode cX1_walkBehind 191 = .ok (.getfield 29, 3) := by decide +kernel
theorem dX1_walkBehind_194 : decode cX1_walkBehind 194 = .ok (.iload 6, 2) := by decide +kernel
theorem dX1_walkBehind_196 : decode cX1_walkBehind 196 = .ok (.iload 7, 2) := by decide +kernel
theorem dX1_walkBehind_198 : decode cX1_walkBehind 198 = .ok (.iastore, 1) := by decide +kernel
theorem dX1_walkBehind_199 : decode cX1_walkBehind 199 = .ok (.aload_n 0, 1) := by decide +kernel
theorem dX1_walkBehind_200 : decode cX1_walkBehind 200 = .ok (.getfield 16, 3) := by decide +kernel
theorem dX1_walkBehind_203 : decode cX1_walkBehind 203 = .ok (.bipush 24, 2) := by decide +kernel
theorem dX1_walkBehind_205 : decode cX1_walkBehind 205 = .ok (.iload 6, 2) := by decide +kernel
theorem dX1_walkBehind_207 : decode cX1_walkBehind 207 = .ok (.imul, 1) := by decide +kernel
theorem dX1_walkBehind_208 : decode cX1_walkBehind 208 = .ok (.iload 7, 2) := by decide +kernel
theorem dX1_walkBehind_210 : decode cX1_walkBehind 210 = .ok (.iadd, 1) := by decide +kernel
theorem dX1_walkBehind_211 : decode cX1_walkBehind 211 = .ok (.iaload, 1) := by decide +kernel
theorem dX1_walkBehind_212 : decode cX1_walkBehind 212 = .ok (.aload_n 0, 1) := by decide +kernel
theorem dX1_walkBehind_213 : decode cX1_walkBehind 213 = .ok (.getfield 26, 3) := by decide +kernel
theorem dX1_walkBehind_216 : decode cX1_walkBehind 216 = .ok (.bipush 24, 2) := by decide +kernel
theorem dX1_walkBehind_218 : decode cX1_walkBehind 218 = .ok (.iload 6, 2) := by decide +kernel
theorem dX1_walkBehind_220 : decode cX1_walkBehind 220 = .ok (.imul, 1) := by decide +kernel
theorem dX1_walkBehind_221 : decode cX1_walkBehind 221 = .ok (.iload 7, 2) := by decide +kernel
theorem dX1_walkBehind_223 : decode cX1_walkBehind 223 = .ok (.iadd, 1) := by decide +kernel
theorem dX1_walkBehind_224 : decode cX1_walkBehind 224 = .ok (.iaload, 1) := by decide +kernel
theorem dX1_walkBehind_225 : decode cX1_walkBehind 225 = .ok (.isub, 1) := by decide +kernel
theorem dX1_walkBehind_226 : decode cX1_walkBehind 226 = .ok (.istore_n 3, 1) := by decide +kernel
theorem dX1_walkBehind_227 : decode cX1_walkBehind 227 = .ok (.iinc 6 1, 3) := by decide +kernel
theorem dX1_walkBehind_230 : decode cX1_walkBehind 230 = .ok (.goto (-213), 3) := by decide +kernel
theorem dX1_walkBehind_233 : decode cX1_walkBehind 233 = .ok (.iconst 1, 1) := by decide +kernel
theorem dX1_walkBehind_234 : decode cX1_walkBehind 234 = .ok (.ireturn, 1) := by decide +kernel
theorem dX1_key_0 : decode cX1_key 0 = .ok (.aload_n 0, 1) := by decide +kernel
theorem dX1_key_1 : decode cX1_key 1 = .ok (.aload_n 0, 1) := by decide +kernel
theorem dX1_key_2 : decode cX1_key 2 = .ok (.iload_n 1, 1) := by decide +kernel
theorem dX1_key_3 : decode cX1_key 3 = .ok (.invokevirtual 67, 3) := by decide +kernel
theorem dX1_key_6 : decode cX1_key 6 = .ok (.ifCond .eq 7, 3) := by decide +kernel
theorem dX1_key_9 : decode cX1_key 9 = .ok (.iconst 0, 1) := by decide +kernel
theorem dX1_key_10 : decode cX1_key 10 = .ok (.goto 4, 3) := by decide +kernel
theorem dX1_key_13 : decode cX1_key 13 = .ok (.iconst 1, 1) := by decide +kernel
theorem dX1_key_14 : decode cX1_key 14 = .ok (.invokevirtual 61, 3) := by decide +kernel
theorem dX1_key_17 : decode cX1_key 17 = .ok (.ifCond .ne 5, 3) := by decide +kernel
theorem dX1_key_20 : decode cX1_key 20 = .ok (.iconst 0, 1) := by decide +kernel
theorem dX1_key_21 : decode cX1_key 21 = .ok (.ireturn, 1) := by decide +kernel
theorem dX1_key_22 : decode cX1_key 22 = .ok (.aload_n 0, 1) := by decide +kernel
theorem dX1_key_23 : decode cX1_key 23 = .ok (.lconst 0, 1) := by decide +kernel
theorem dX1_key_24 : decode cX1_key 24 = .ok (.invokevirtual 101, 3) := by decide +kernel
theorem dX1_key_27 : decode cX1_key 27 = .ok (.pop, 1) := by decide +kernel
theorem dX1_key_28 : decode cX1_key 28 = .ok (.aload_n 0, 1) := by decide +kernel
theorem dX1_key_29 : decode cX1_key 29 = .ok (.getfield 29, 3) := by decide +kernel
theorem dX1_key_32 : decode cX1_key 32 = .ok (.iload_n 1, 1) := by decide +kernel
theorem dX1_key_33 : decode cX1_key 33 = .ok (.iaload, 1) := by decide +kernel
theorem dX1_key_34 : decode cX1_key 34 = .ok (.ireturn, 1) := by decide +kernel
theorem dX1_pick_0 : decode cX1_pick 0 = .ok (.aload_n 0, 1) := by decide +kernel
theorem dX1_pick_1 : decode cX1_pick 1 = .ok (.aload_n 0, 1) := by decide +kernel
theorem dX1_pick_2 : decode cX1_pick 2 = .ok (.iload_n 3, 1) := by decide +kernel
theorem dX1_pick_3 : decode cX1_pick 3 = .ok (.invokevirtual 67, 3) := by decide +kernel
theorem dX1_pick_6 : decode cX1_pick 6 = .ok (.ifCond .eq 18, 3) := by decide +kernel
theorem dX1_pick_9 : decode cX1_pick 9 = .ok (.lload_n 1, 1) := by decide +kernel
theorem dX1_pick_10 : decode cX1_pick 10 = .ok (.lconst 0, 1) := by decide +kernel
theorem dX1_pick_11 : decode cX1_pick 11 = .ok (.ldc2_w 105, 3) := by decide +kernel
theorem dX1_pick_14 : decode cX1_pick 14 = .ok (.invokestatic 51, 3) := by decide +kernel
theorem dX1_pick_17 : decode cX1_pick 17 = .ok (.ifCond .eq 7, 3) := by decide +kernel
theorem dX1_pick_20 : decode cX1_pick 20 = .ok (.iconst 0, 1) := by decide +kernel
theorem dX1_pick_21 : decode cX1_pick 21 = .ok (.goto 4, 3) := by decide +kernel
theorem dX1_pick_24 : decode cX1_pick 24 = .ok (.iconst 1, 1) := by decide +kernel
theorem dX1_pick_25 : decode cX1_pick 25 = .ok (.invokevirtual 61, 3) := by decide +kernel
theorem dX1_pick_28 : decode cX1_pick 28 = .ok (.ifCond .ne 5, 3) := by decide +kernel
theorem dX1_pick_31 : decode cX1_pick 31 = .ok (.iconst 0, 1) := by decide +kernel
theorem dX1_pick_32 : decode cX1_pick 32 = .ok (.ireturn, 1) := by decide +kernel
theorem dX1_pick_33 : decode cX1_pick 33 = .ok (.aload_n 0, 1) := by decide +kernel
theorem dX1_pick_34 : decode cX1_pick 34 = .ok (.lload_n 1, 1) := by decide +kernel
theorem dX1_pick_35 : decode cX1_pick 35 = .ok (.invokevirtual 101, 3) := by decide +kernel
theorem dX1_pick_38 : decode cX1_pick 38 = .ok (.ifCond .eq 12, 3) := by decide +kernel
theorem dX1_pick_41 : decode cX1_pick 41 = .ok (.aload_n 0, 1) := by decide +kernel
theorem dX1_pick_42 : decode cX1_pick 42 = .ok (.getfield 29, 3) := by decide +kernel
theorem dX1_pick_45 : decode cX1_pick 45 = .ok (.iload_n 3, 1) := by decide +kernel
theorem dX1_pick_46 : decode cX1_pick 46 = .ok (.iaload, 1) := by decide +kernel
theorem dX1_pick_47 : decode cX1_pick 47 = .ok (.goto 4, 3) := by decide +kernel
theorem dX1_pick_50 : decode cX1_pick 50 = .ok (.iconst (-1), 1) := by decide +kernel
theorem dX1_pick_51 : decode cX1_pick 51 = .ok (.ireturn, 1) := by decide +kernel
theorem dX1_through_0 : decode cX1_through 0 = .ok (.aload_n 0, 1) := by decide +kernel
theorem dX1_through_1 : decode cX1_through 1 = .ok (.aload_n 0, 1) := by decide +kernel
theorem dX1_through_2 : decode cX1_through 2 = .ok (.iload_n 1, 1) := by decide +kernel
theorem dX1_through_3 : decode cX1_through 3 = .ok (.invokevirtual 67, 3) := by decide +kernel
theorem dX1_through_6 : decode cX1_through 6 = .ok (.ifCond .eq 14, 3) := by decide +kernel
theorem dX1_through_9 : decode cX1_through 9 = .ok (.iload_n 2, 1) := by decide +kernel
theorem dX1_through_10 : decode cX1_through 10 = .ok (.invokestatic 83, 3) := by decide +kernel
theorem dX1_through_13 : decode cX1_through 13 = .ok (.ifCond .eq 7, 3) := by decide +kernel
theorem dX1_through_16 : decode cX1_through 16 = .ok (.iconst 0, 1) := by decide +kernel
theorem dX1_through_17 : decode cX1_through 17 = .ok (.goto 4, 3) := by decide +kernel
theorem dX1_through_20 : decode cX1_through 20 = .ok (.iconst 1, 1) := by decide +kernel
theorem dX1_through_21 : decode cX1_through 21 = .ok (.invokevirtual 61, 3) := by decide +kernel
theorem dX1_through_24 : decode cX1_through 24 = .ok (.ifCond .ne 5, 3) := by decide +kernel
theorem dX1_through_27 : decode cX1_through 27 = .ok (.iconst 0, 1) := by decide +kernel
theorem dX1_through_28 : decode cX1_through 28 = .ok (.ireturn, 1) := by decide +kernel
theorem dX1_through_29 : decode cX1_through 29 = .ok (.aload_n 0, 1) := by decide +kernel
theorem dX1_through_30 : decode cX1_through 30 = .ok (.invokevirtual 95, 3) := by decide +kernel
theorem dX1_through_33 : decode cX1_through 33 = .ok (.aload_n 0, 1) := by decide +kernel
theorem dX1_through_34 : decode cX1_through 34 = .ok (.iload_n 1, 1) := by decide +kernel
theorem dX1_through_35 : decode cX1_through 35 = .ok (.iconst 1, 1) := by decide +kernel
theorem dX1_through_36 : decode cX1_through 36 = .ok (.iload_n 2, 1) := by decide +kernel
theorem dX1_through_37 : decode cX1_through 37 = .ok (.ishl, 1) := by decide +kernel
theorem dX1_through_38 : decode cX1_through 38 = .ok (.invokevirtual 98, 3) := by decide +kernel
theorem dX1_through_41 : decode cX1_through 41 = .ok (.ireturn, 1) := by decide +kernel
theorem dX1_near_0 : decode cX1_near 0 = .ok (.aload_n 0, 1) := by decide +kernel
theorem dX1_near_1 : decode cX1_near 1 = .ok (.aload_n 0, 1) := by decide +kernel
theorem dX1_near_2 : decode cX1_near 2 = .ok (.iload_n 1, 1) := by decide +kernel
theorem dX1_near_3 : decode cX1_near 3 = .ok (.invokevirtual 67, 3) := by decide +kernel
theorem dX1_near_6 : decode cX1_near 6 = .ok (.ifCond .eq 19, 3) := by decide +kernel
theorem dX1_near_9 : decode cX1_near 9 = .ok (.iload_n 2, 1) := by decide +kernel
theorem dX1_near_10 : decode cX1_near 10 = .ok (.i2l, 1) := by decide +kernel
theorem dX1_near_11 : decode cX1_near 11 = .ok (.lconst 0, 1) := by decide +kernel
theorem dX1_near_12 : decode cX1_near 12 = .ok (.ldc2_w 107, 3) := by decide +kernel
theorem dX1_near_15 : decode cX1_near 15 = .ok (.invokestatic 51, 3) := by decide +kernel
theorem dX1_near_18 : decode cX1_near 18 = .ok (.ifCond .eq 7, 3) := by decide +kernel
theorem dX1_near_21 : decode cX1_near 21 = .ok (.iconst 0, 1) := by decide +kernel
theorem dX1_near_22 : decode cX1_near 22 = .ok (.goto 4, 3) := by decide +kernel
theorem dX1_near_25 : decode cX1_near 25 = .ok (.iconst 1, 1) := by decide +kernel
theorem dX1_near_26 : decode cX1_near 26 = .ok (.invokevirtual 61, 3) := by decide +kernel
theorem dX1_near_29 : decode cX1_near 29 = .ok (.ifCond .ne 5, 3) := by decide +kernel
theorem dX1_near_32 : decode cX1_near 32 = .ok (.iconst 0, 1) := by decide +kernel
theorem dX1_near_33 : decode cX1_near 33 = .ok (.ireturn, 1) := by decide +kernel
theorem dX1_near_34 : decode cX1_near 34 = .ok (.aload_n 0, 1) := by decide +kernel
theorem dX1_near_35 : decode cX1_near 35 = .ok (.invokevirtual 95, 3) := by decide +kernel
theorem dX1_near_38 : decode cX1_near 38 = .ok (.aload_n 0, 1) := by decide +kernel
theorem dX1_near_39 : decode cX1_near 39 = .ok (.iconst (-1), 1) := by decide +kernel
theorem dX1_near_40 : decode cX1_near 40 = .ok (.iconst 0, 1) := by decide +kernel
theorem dX1_near_41 : decode cX1_near 41 = .ok (.invokevirtual 98, 3) := by decide +kernel
theorem dX1_near_44 : decode cX1_near 44 = .ok (.istore_n 3, 1) := by decide +kernel
theorem dX1_near_45 : decode cX1_near 45 = .ok (.iconst 0, 1) := by decide +kernel
theorem dX1_near_46 : decode cX1_near 46 = .ok (.istore 4, 2) := by decide +kernel
theorem dX1_near_48 : decode cX1_near 48 = .ok (.iconst 0, 1) := by decide +kernel
theorem dX1_near_49 : decode cX1_near 49 = .ok (.istore 5, 2) := by decide +kernel
theorem dX1_near_51 : decode cX1_near 51 = .ok (.iload 5, 2) := by decide +kernel
theorem dX1_near_53 : decode cX1_near 53 = .ok (.bipush 24, 2) := by decide +kernel
theorem dX1_near_55 : decode cX1_near 55 = .ok (.if_icmp .ge 37, 3) := by decide +kernel
theorem dX1_near_58 : decode cX1_near 58 = .ok (.iload 4, 2) := by decide +kernel
theorem dX1_near_60 : decode cX1_near 60 = .ok (.aload_n 0, 1) := by decide +kernel
theorem dX1_near_61 : decode cX1_near 61 = .ok (.iload_n 1, 1) := by decide +kernel
theorem dX1_near_62 : decode cX1_near 62 = .ok (.iconst 1, 1) := by decide +kernel
theorem dX1_near_63 : decode cX1_near 63 = .ok (.iload 5, 2) := by decide +kernel
theorem dX1_near_65 : decode cX1_near 65 = .ok (.ishl, 1) := by decide +kernel
theorem dX1_near_66 : decode cX1_near 66 = .ok (.invokevirtual 98, 3) := by decide +kernel
theorem dX1_near_69 : decode cX1_near 69 = .ok (.iload_n 3, 1) := by decide +kernel
theorem dX1_near_70 : decode cX1_near 70 = .ok (.iload_n 2, 1) := by decide +kernel
theorem dX1_near_71 : decode cX1_near 71 = .ok (.iadd, 1) := by decide +kernel
theorem dX1_near_72 : decode cX1_near 72 = .ok (.if_icmp .gt 10, 3) := by decide +kernel
theorem dX1_near_75 : decode cX1_near 75 = .ok (.iconst 1, 1) := by decide +kernel
theorem dX1_near_76 : decode cX1_near 76 = .ok (.iload 5, 2) := by decide +kernel
theorem dX1_near_78 : decode cX1_near 78 = .ok (.ishl, 1) := by decide +kernel
theorem dX1_near_79 : decode cX1_near 79 = .ok (.goto 4, 3) := by decide +kernel
theorem dX1_near_82 : decode cX1_near 82 = .ok (.iconst 0, 1) := by decide +kernel
theorem dX1_near_83 : decode cX1_near 83 = .ok (.ior, 1) := by decide +kernel
theorem dX1_near_84 : decode cX1_near 84 = .ok (.istore 4, 2) := by decide +kernel
theorem dX1_near_86 : decode cX1_near 86 = .ok (.iinc 5 1, 3) := by decide +kernel
theorem dX1_near_89 : decode cX1_near 89 = .ok (.goto (-38), 3) := by decide +kernel
theorem dX1_near_92 : decode cX1_near 92 = .ok (.iload 4, 2) := by decide +kernel
theorem dX1_near_94 : decode cX1_near 94 = .ok (.ireturn, 1) := by decide +kernel
theorem dX1_sure_0 : decode cX1_sure 0 = .ok (.aload_n 0, 1) := by decide +kernel
theorem dX1_sure_1 : decode cX1_sure 1 = .ok (.aload_n 0, 1) := by decide +kernel
theorem dX1_sure_2 : decode cX1_sure 2 = .ok (.iload_n 1, 1) := by decide +kernel
theorem dX1_sure_3 : decode cX1_sure 3 = .ok (.invokevirtual 67, 3) := by decide +kernel
theorem dX1_sure_6 : decode cX1_sure 6 = .ok (.ifCond .eq 7, 3) := by decide +kernel
theorem dX1_sure_9 : decode cX1_sure 9 = .ok (.iconst 0, 1) := by decide +kernel
theorem dX1_sure_10 : decode cX1_sure 10 = .ok (.goto 4, 3) := by decide +kernel
theorem dX1_sure_13 : decode cX1_sure 13 = .ok (.iconst 1, 1) := by decide +kernel
theorem dX1_sure_14 : decode cX1_sure 14 = .ok (.invokevirtual 61, 3) := by decide +kernel
theorem dX1_sure_17 : decode cX1_sure 17 = .ok (.ifCond .ne 5, 3) := by decide +kernel
theorem dX1_sure_20 : decode cX1_sure 20 = .ok (.iconst 0, 1) := by decide +kernel
theorem dX1_sure_21 : decode cX1_sure 21 = .ok (.ireturn, 1) := by decide +kernel
theorem dX1_sure_22 : decode cX1_sure 22 = .ok (.aload_n 0, 1) := by decide +kernel
theorem dX1_sure_23 : decode cX1_sure 23 = .ok (.lconst 0, 1) := by decide +kernel
theorem dX1_sure_24 : decode cX1_sure 24 = .ok (.invokevirtual 101, 3) := by decide +kernel
theorem dX1_sure_27 : decode cX1_sure 27 = .ok (.pop, 1) := by decide +kernel
theorem dX1_sure_28 : decode cX1_sure 28 = .ok (.aload_n 0, 1) := by decide +kernel
theorem dX1_sure_29 : decode cX1_sure 29 = .ok (.iconst (-1), 1) := by decide +kernel
theorem dX1_sure_30 : decode cX1_sure 30 = .ok (.iconst 0, 1) := by decide +kernel
theorem dX1_sure_31 : decode cX1_sure 31 = .ok (.invokevirtual 98, 3) := by decide +kernel
theorem dX1_sure_34 : decode cX1_sure 34 = .ok (.istore_n 2, 1) := by decide +kernel
theorem dX1_sure_35 : decode cX1_sure 35 = .ok (.aload_n 0, 1) := by decide +kernel
theorem dX1_sure_36 : decode cX1_sure 36 = .ok (.iload_n 1, 1) := by decide +kernel
theorem dX1_sure_37 : decode cX1_sure 37 = .ok (.iconst 1, 1) := by decide +kernel
theorem dX1_sure_38 : decode cX1_sure 38 = .ok (.aload_n 0, 1) := by decide +kernel
theorem dX1_sure_39 : decode cX1_sure 39 = .ok (.getfield 29, 3) := by decide +kernel
theorem dX1_sure_42 : decode cX1_sure 42 = .ok (.iload_n 1, 1) := by decide +kernel
theorem dX1_sure_43 : decode cX1_sure 43 = .ok (.iaload, 1) := by decide +kernel
theorem dX1_sure_44 : decode cX1_sure 44 = .ok (.ishl, 1) := by decide +kernel
theorem dX1_sure_45 : decode cX1_sure 45 = .ok (.iconst (-1), 1) := by decide +kernel
theorem dX1_sure_46 : decode cX1_sure 46 = .ok (.ixor, 1) := by decide +kernel
theorem dX1_sure_47 : decode cX1_sure 47 = .ok (.invokevirtual 98, 3) := by decide +kernel
theorem dX1_sure_50 : decode cX1_sure 50 = .ok (.istore_n 3, 1) := by decide +kernel
theorem dX1_sure_51 : decode cX1_sure 51 = .ok (.aload_n 0, 1) := by decide +kernel
theorem dX1_sure_52 : decode cX1_sure 52 = .ok (.iload_n 3, 1) := by decide +kernel
theorem dX1_sure_53 : decode cX1_sure 53 = .ok (.ifCond .ne 7, 3) := by decide +kernel
theorem dX1_sure_56 : decode cX1_sure 56 = .ok (.iconst 2, 1) := by decide +kernel
theorem dX1_sure_57 : decode cX1_sure 57 = .ok (.goto 4, 3) := by decide +kernel
theorem dX1_sure_60 : decode cX1_sure 60 = .ok (.iconst 0, 1) := by decide +kernel
theorem dX1_sure_61 : decode cX1_sure 61 = .ok (.invokevirtual 61, 3) := by decide +kernel
theorem dX1_sure_64 : decode cX1_sure 64 = .ok (.ifCond .eq 18, 3) := by decide +kernel
theorem dX1_sure_67 : decode cX1_sure 67 = .ok (.ldc2_w 109, 3) := by decide +kernel
theorem dX1_sure_70 : decode cX1_sure 70 = .ok (.iload_n 3, 1) := by decide +kernel
theorem dX1_sure_71 : decode cX1_sure 71 = .ok (.iload_n 2, 1) := by decide +kernel
theorem dX1_sure_72 : decode cX1_sure 72 = .ok (.isub, 1) := by decide +kernel
theorem dX1_sure_73 : decode cX1_sure 73 = .ok (.i2l, 1) := by decide +kernel
theorem dX1_sure_74 : decode cX1_sure 74 = .ok (.lmul, 1) := by decide +kernel
theorem dX1_sure_75 : decode cX1_sure 75 = .ok (.iload_n 3, 1) := by decide +kernel
theorem dX1_sure_76 : decode cX1_sure 76 = .ok (.i2l, 1) := by decide +kernel
theorem dX1_sure_77 : decode cX1_sure 77 = .ok (.ldiv, 1) := by decide +kernel
theorem dX1_sure_78 : decode cX1_sure 78 = .ok (.l2i, 1) := by decide +kernel
theorem dX1_sure_79 : decode cX1_sure 79 = .ok (.goto 4, 3) := by decide +kernel
theorem dX1_sure_82 : decode cX1_sure 82 = .ok (.iconst 0, 1) := by decide +kernel
theorem dX1_sure_83 : decode cX1_sure 83 = .ok (.ireturn, 1) := by decide +kernel
theorem dX1_changeAt_0 : decode cX1_changeAt 0 = .ok (.aload_n 0, 1) := by decide +kernel
theorem dX1_changeAt_1 : decode cX1_changeAt 1 = .ok (.lconst 0, 1) := by decide +kernel
theorem dX1_changeAt_2 : decode cX1_changeAt 2 = .ok (.invokevirtual 101, 3) := by decide +kernel
theorem dX1_changeAt_5 : decode cX1_changeAt 5 = .ok (.pop, 1) := by decide +kernel
theorem dX1_changeAt_6 : decode cX1_changeAt 6 = .ok (.iconst 0, 1) := by decide +kernel
theorem dX1_changeAt_7 : decode cX1_changeAt 7 = .ok (.istore_n 2, 1) := by decide +kernel
theorem dX1_changeAt_8 : decode cX1_changeAt 8 = .ok (.iconst 1, 1) := by decide +kernel
theorem dX1_changeAt_9 : decode cX1_changeAt 9 = .ok (.istore_n 3, 1) := by decide +kernel
theorem dX1_changeAt_10 : decode cX1_changeAt 10 = .ok (.iload_n 3, 1) := by decide +kernel
theorem dX1_changeAt_11 : decode cX1_changeAt 11 = .ok (.aload_n 0, 1) := by decide +kernel
theorem dX1_changeAt_12 : decode cX1_changeAt 12 = .ok (.getfield 39, 3) := by decide +kernel
theorem dX1_changeAt_15 : decode cX1_changeAt 15 = .ok (.if_icmp .ge 36, 3) := by decide +kernel
theorem dX1_changeAt_18 : decode cX1_changeAt 18 = .ok (.aload_n 0, 1) := by decide +kernel
theorem dX1_changeAt_19 : decode cX1_changeAt 19 = .ok (.getfield 29, 3) := by decide +kernel
theorem dX1_changeAt_22 : decode cX1_changeAt 22 = .ok (.iload_n 3, 1) := by decide +kernel
theorem dX1_changeAt_23 : decode cX1_changeAt 23 = .ok (.iaload, 1) := by decide +kernel
theorem dX1_changeAt_24 : decode cX1_changeAt 24 = .ok (.aload_n 0, 1) := by decide +kernel
theorem dX1_changeAt_25 : decode cX1_changeAt 25 = .ok (.getfield 29, 3) := by decide +kernel
theorem dX1_changeAt_28 : decode cX1_changeAt 28 = .ok (.iload_n 3, 1) := by decide +kernel
theorem dX1_changeAt_29 : decode cX1_changeAt 29 = .ok (.iconst 1, 1) := by decide +kernel
theorem dX1_changeAt_30 : decode cX1_changeAt 30 = .ok (.isub, 1) := by decide +kernel
theorem dX1_changeAt_31 : decode cX1_changeAt 31 = .ok (.iaload, 1) := by decide +kernel
theorem dX1_changeAt_32 : decode cX1_changeAt 32 = .ok (.if_icmp .eq 13, 3) := by decide +kernel
theorem dX1_changeAt_35 : decode cX1_changeAt 35 = .ok (.iload_n 2, 1) := by decide +kernel
theorem dX1_changeAt_36 : decode cX1_changeAt 36 = .ok (.iload_n 1, 1) := by decide +kernel
theorem dX1_changeAt_37 : decode cX1_changeAt 37 = .ok (.if_icmp .ne 5, 3) := by decide +kernel
theorem dX1_changeAt_40 : decode cX1_changeAt 40 = .ok (.iload_n 3, 1) := by decide +kernel
theorem dX1_changeAt_41 : decode cX1_changeAt 41 = .ok (.ireturn, 1) := by decide +kernel
theorem dX1_changeAt_42 : decode cX1_changeAt 42 = .ok (.iinc 2 1, 3) := by decide +kernel
theorem dX1_changeAt_45 : decode cX1_changeAt 45 = .ok (.iinc 3 1, 3) := by decide +kernel
theorem dX1_changeAt_48 : decode cX1_changeAt 48 = .ok (.goto (-38), 3) := by decide +kernel
theorem dX1_changeAt_51 : decode cX1_changeAt 51 = .ok (.iconst (-1), 1) := by decide +kernel
theorem dX1_changeAt_52 : decode cX1_changeAt 52 = .ok (.ireturn, 1) := by decide +kernel
theorem dX1_change_0 : decode cX1_change 0 = .ok (.aload_n 0, 1) := by decide +kernel
theorem dX1_change_1 : decode cX1_change 1 = .ok (.iload_n 1, 1) := by decide +kernel
theorem dX1_change_2 : decode cX1_change 2 = .ok (.ifCond .ge 7, 3) := by decide +kernel
theorem dX1_change_5 : decode cX1_change 5 = .ok (.iconst 1, 1) := by decide +kernel
theorem dX1_change_6 : decode cX1_change 6 = .ok (.goto 4, 3) := by decide +kernel
theorem dX1_change_9 : decode cX1_change 9 = .ok (.iconst 0, 1) := by decide +kernel
theorem dX1_change_10 : decode cX1_change 10 = .ok (.invokevirtual 61, 3) := by decide +kernel
theorem dX1_change_13 : decode cX1_change 13 = .ok (.ifCond .eq 11, 3) := by decide +kernel
theorem dX1_change_16 : decode cX1_change 16 = .ok (.aload_n 0, 1) := by decide +kernel
theorem dX1_change_17 : decode cX1_change 17 = .ok (.iload_n 1, 1) := by decide +kernel
theorem dX1_change_18 : decode cX1_change 18 = .ok (.invokevirtual 111, 3) := by decide +kernel
theorem dX1_change_21 : decode cX1_change 21 = .ok (.goto 4, 3) := by decide +kernel
theorem dX1_change_24 : decode cX1_change 24 = .ok (.iconst 0, 1) := by decide +kernel
theorem dX1_change_25 : decode cX1_change 25 = .ok (.ireturn, 1) := by decide +kernel
theorem dX1_pivot_0 : decode cX1_pivot 0 = .ok (.aload_n 0, 1) := by decide +kernel
theorem dX1_pivot_1 : decode cX1_pivot 1 = .ok (.aload_n 0, 1) := by decide +kernel
theorem dX1_pivot_2 : decode cX1_pivot 2 = .ok (.iload_n 1, 1) := by decide +kernel
theorem dX1_pivot_3 : decode cX1_pivot 3 = .ok (.invokevirtual 67, 3) := by decide +kernel
theorem dX1_pivot_6 : decode cX1_pivot 6 = .ok (.ifCond .eq 21, 3) := by decide +kernel
theorem dX1_pivot_9 : decode cX1_pivot 9 = .ok (.iload_n 2, 1) := by decide +kernel
theorem dX1_pivot_10 : decode cX1_pivot 10 = .ok (.invokestatic 83, 3) := by decide +kernel
theorem dX1_pivot_13 : decode cX1_pivot 13 = .ok (.ifCond .eq 14, 3) := by decide +kernel
theorem dX1_pivot_16 : decode cX1_pivot 16 = .ok (.iload_n 3, 1) := by decide +kernel
theorem dX1_pivot_17 : decode cX1_pivot 17 = .ok (.invokestatic 83, 3) := by decide +kernel
theorem dX1_pivot_20 : decode cX1_pivot 20 = .ok (.ifCond .eq 7, 3) := by decide +kernel
theorem dX1_pivot_23 : decode cX1_pivot 23 = .ok (.iconst 0, 1) := by decide +kernel
theorem dX1_pivot_24 : decode cX1_pivot 24 = .ok (.goto 4, 3) := by decide +kernel
theorem dX1_pivot_27 : decode cX1_pivot 27 = .ok (.iconst 1, 1) := by decide +kernel
theorem dX1_pivot_28 : decode cX1_pivot 28 = .ok (.invokevirtual 61, 3) := by decide +kernel
theorem dX1_pivot_31 : decode cX1_pivot 31 = .ok (.ifCond .ne 5, 3) := by decide +kernel
theorem dX1_pivot_34 : decode cX1_pivot 34 = .ok (.iconst 0, 1) := by decide +kernel
theorem dX1_pivot_35 : decode cX1_pivot 35 = .ok (.ireturn, 1) := by decide +kernel
theorem dX1_pivot_36 : decode cX1_pivot 36 = .ok (.iconst 1, 1) := by decide +kernel
theorem dX1_pivot_37 : decode cX1_pivot 37 = .ok (.istore 4, 2) := by decide +kernel
theorem dX1_pivot_39 : decode cX1_pivot 39 = .ok (.iconst 0, 1) := by decide +kernel
theorem dX1_pivot_40 : decode cX1_pivot 40 = .ok (.istore 5, 2) := by decide +kernel
theorem dX1_pivot_42 : decode cX1_pivot 42 = .ok (.iload 5, 2) := by decide +kernel
theorem dX1_pivot_44 : decode cX1_pivot 44 = .ok (.bipush 12, 2) := by decide +kernel
theorem dX1_pivot_46 : decode cX1_pivot 46 = .ok (.if_icmp .ge 56, 3) := by decide +kernel
theorem dX1_pivot_49 : decode cX1_pivot 49 = .ok (.iload 4, 2) := by decide +kernel
theorem dX1_pivot_51 : decode cX1_pivot 51 = .ok (.ifCond .eq 42, 3) := by decide +kernel
theorem dX1_pivot_54 : decode cX1_pivot 54 = .ok (.aload_n 0, 1) := by decide +kernel
theorem dX1_pivot_55 : decode cX1_pivot 55 = .ok (.getfield 7, 3) := by decide +kernel
theorem dX1_pivot_58 : decode cX1_pivot 58 = .ok (.bipush 12, 2) := by decide +kernel
theorem dX1_pivot_60 : decode cX1_pivot 60 = .ok (.iload_n 1, 1) := by decide +kernel
theorem dX1_pivot_61 : decode cX1_pivot 61 = .ok (.imul, 1) := by decide +kernel
theorem dX1_pivot_62 : decode cX1_pivot 62 = .ok (.iload 5, 2) := by decide +kernel
theorem dX1_pivot_64 : decode cX1_pivot 64 = .ok (.iadd, 1) := by decide +kernel
theorem dX1_pivot_65 : decode cX1_pivot 65 = .ok (.iaload, 1) := by decide +kernel
theorem dX1_pivot_66 : decode cX1_pivot 66 = .ok (.ifCond .eq 23, 3) := by decide +kernel
theorem dX1_pivot_69 : decode cX1_pivot 69 = .ok (.aload_n 0, 1) := by decide +kernel
theorem dX1_pivot_70 : decode cX1_pivot 70 = .ok (.iload 5, 2) := by decide +kernel
theorem dX1_pivot_72 : decode cX1_pivot 72 = .ok (.iload_n 2, 1) := by decide +kernel
theorem dX1_pivot_73 : decode cX1_pivot 73 = .ok (.invokevirtual 72, 3) := by decide +kernel
theorem dX1_pivot_76 : decode cX1_pivot 76 = .ok (.ifCond .le 17, 3) := by decide +kernel
theorem dX1_pivot_79 : decode cX1_pivot 79 = .ok (.aload_n 0, 1) := by decide +kernel
theorem dX1_pivot_80 : decode cX1_pivot 80 = .ok (.iload 5, 2) := by decide +kernel
theorem dX1_pivot_82 : decode cX1_pivot 82 = .ok (.iload_n 3, 1) := by decide +kernel
theorem dX1_pivot_83 : decode cX1_pivot 83 = .ok (.invokevirtual 72, 3) := by decide +kernel
theorem dX1_pivot_86 : decode cX1_pivot 86 = .ok (.ifCond .le 7, 3) := by decide +kernel
theorem dX1_pivot_89 : decode cX1_pivot 89 = .ok (.iconst 1, 1) := by decide +kernel
theorem dX1_pivot_90 : decode cX1_pivot 90 = .ok (.goto 4, 3) := by decide +kernel
theorem dX1_pivot_93 : decode cX1_pivot 93 = .ok (.iconst 0, 1) := by decide +kernel
theorem dX1_pivot_94 : decode cX1_pivot 94 = .ok (.istore 4, 2) := by decide +kernel
theorem dX1_pivot_96 : decode cX1_pivot 96 = .ok (.iinc 5 1, 3) := by decide +kernel
theorem dX1_pivot_99 : decode cX1_pivot 99 = .ok (.goto (-57), 3) := by decide +kernel
theorem dX1_pivot_102 : decode cX1_pivot 102 = .ok (.iload 4, 2) := by decide +kernel
theorem dX1_pivot_104 : decode cX1_pivot 104 = .ok (.ireturn, 1) := by decide +kernel
theorem dX1_whole_0 : decode cX1_whole 0 = .ok (.aload_n 0, 1) := by decide +kernel
theorem dX1_whole_1 : decode cX1_whole 1 = .ok (.aload_n 0, 1) := by decide +kernel
theorem dX1_whole_2 : decode cX1_whole 2 = .ok (.iload_n 1, 1) := by decide +kernel
theorem dX1_whole_3 : decode cX1_whole 3 = .ok (.invokevirtual 67, 3) := by decide +kernel
theorem dX1_whole_6 : decode cX1_whole 6 = .ok (.ifCond .eq 20, 3) := by decide +kernel
theorem dX1_whole_9 : decode cX1_whole 9 = .ok (.aload_n 0, 1) := by decide +kernel
theorem dX1_whole_10 : decode cX1_whole 10 = .ok (.iload_n 2, 1) := by decide +kernel
theorem dX1_whole_11 : decode cX1_whole 11 = .ok (.invokevirtual 67, 3) := by decide +kernel
theorem dX1_whole_14 : decode cX1_whole 14 = .ok (.ifCond .eq 12, 3) := by decide +kernel
theorem dX1_whole_17 : decode cX1_whole 17 = .ok (.iload_n 1, 1) := by decide +kernel
theorem dX1_whole_18 : decode cX1_whole 18 = .ok (.iload_n 2, 1) := by decide +kernel
theorem dX1_whole_19 : decode cX1_whole 19 = .ok (.if_icmp .gt 7, 3) := by decide +kernel
theorem dX1_whole_22 : decode cX1_whole 22 = .ok (.iconst 0, 1) := by decide +kernel
theorem dX1_whole_23 : decode cX1_whole 23 = .ok (.goto 4, 3) := by decide +kernel
theorem dX1_whole_26 : decode cX1_whole 26 = .ok (.iconst 1, 1) := by decide +kernel
theorem dX1_whole_27 : decode cX1_whole 27 = .ok (.invokevirtual 61, 3) := by decide +kernel
theorem dX1_whole_30 : decode cX1_whole 30 = .ok (.ifCond .ne 5, 3) := by decide +kernel
theorem dX1_whole_33 : decode cX1_whole 33 = .ok (.iconst 0, 1) := by decide +kernel
theorem dX1_whole_34 : decode cX1_whole 34 = .ok (.ireturn, 1) := by decide +kernel
theorem dX1_whole_35 : decode cX1_whole 35 = .ok (.iconst 0, 1) := by decide +kernel
theorem dX1_whole_36 : decode cX1_whole 36 = .ok (.istore_n 3, 1) := by decide +kernel
theorem dX1_whole_37 : decode cX1_whole 37 = .ok (.iconst (-1), 1) := by decide +kernel
theorem dX1_whole_38 : decode cX1_whole 38 = .ok (.istore 4, 2) := by decide +kernel
theorem dX1_whole_40 : decode cX1_whole 40 = .ok (.iconst 0, 1) := by decide +kernel
theorem dX1_whole_41 : decode cX1_whole 41 = .ok (.istore 5, 2) := by decide +kernel
theorem dX1_whole_43 : decode cX1_whole 43 = .ok (.iload 5, 2) := by decide +kernel
theorem dX1_whole_45 : decode cX1_whole 45 = .ok (.bipush 24, 2) := by decide +kernel
theorem dX1_whole_47 : decode cX1_whole 47 = .ok (.if_icmp .ge 70, 3) := by decide +kernel
theorem dX1_whole_50 : decode cX1_whole 50 = .ok (.iconst 0, 1) := by decide +kernel
theorem dX1_whole_51 : decode cX1_whole 51 = .ok (.istore 6, 2) := by decide +kernel
theorem dX1_whole_53 : decode cX1_whole 53 = .ok (.iload_n 1, 1) := by decide +kernel
theorem dX1_whole_54 : decode cX1_whole 54 = .ok (.istore 7, 2) := by decide +kernel
theorem dX1_whole_56 : decode cX1_whole 56 = .ok (.iload 7, 2) := by decide +kernel
theorem dX1_whole_58 : decode cX1_whole 58 = .ok (.iload_n 2, 1) := by decide +kernel
theorem dX1_whole_59 : decode cX1_whole 59 = .ok (.if_icmp .gt 22, 3) := by decide +kernel
theorem dX1_whole_62 : decode cX1_whole 62 = .ok (.iload 6, 2) := by decide +kernel
theorem dX1_whole_64 : decode cX1_whole 64 = .ok (.aload_n 0, 1) := by decide +kernel
theorem dX1_whole_65 : decode cX1_whole 65 = .ok (.iload 7, 2) := by decide +kernel
theorem dX1_whole_67 : decode cX1_whole 67 = .ok (.iload 5, 2) := by decide +kernel
theorem dX1_whole_69 : decode cX1_whole 69 = .ok (.invokevirtual 76, 3) := by decide +kernel
theorem dX1_whole_72 : decode cX1_whole 72 = .ok (.iadd, 1) := by decide +kernel
theorem dX1_whole_73 : decode cX1_whole 73 = .ok (.istore 6, 2) := by decide +kernel
theorem dX1_whole_75 : decode cX1_whole 75 = .ok (.iinc 7 1, 3) := by decide +kernel
theorem dX1_whole_78 : decode cX1_whole 78 = .ok (.goto (-22), 3) := by decide +kernel
theorem dX1_whole_81 : decode cX1_whole 81 = .ok (.iload 6, 2) := by decide +kernel
theorem dX1_whole_83 : decode cX1_whole 83 = .ok (.iload 4, 2) := by decide +kernel
theorem dX1_whole_85 : decode cX1_whole 85 = .ok (.if_icmp .le 8, 3) := by decide +kernel
theorem dX1_whole_88 : decode cX1_whole 88 = .ok (.iload 5, 2) := by decide +kernel
theorem dX1_whole_90 : decode cX1_whole 90 = .ok (.goto 4, 3) := by decide +kernel
theorem dX1_whole_93 : decode cX1_whole 93 = .ok (.iload_n 3, 1) := by decide +kernel
theorem dX1_whole_94 : decode cX1_whole 94 = .ok (.istore_n 3, 1) := by decide +kernel
theorem dX1_whole_95 : decode cX1_whole 95 = .ok (.iload 6, 2) := by decide +kernel
theorem dX1_whole_97 : decode cX1_whole 97 = .ok (.iload 4, 2) := by decide +kernel
theorem dX1_whole_99 : decode cX1_whole 99 = .ok (.if_icmp .le 8, 3) := by decide +kernel
theorem dX1_whole_102 : decode cX1_whole 102 = .ok (.iload 6, 2) := by decide +kernel
theorem dX1_whole_104 : decode cX1_whole 104 = .ok (.goto 5, 3) := by decide +kernel
theorem dX1_whole_107 : decode cX1_whole 107 = .ok (.iload 4, 2) := by decide +kernel
theorem dX1_whole_109 : decode cX1_whole 109 = .ok (.istore 4, 2) := by decide +kernel
theorem dX1_whole_111 : decode cX1_whole 111 = .ok (.iinc 5 1, 3) := by decide +kernel
theorem dX1_whole_114 : decode cX1_whole 114 = .ok (.goto (-71), 3) := by decide +kernel
theorem dX1_whole_117 : decode cX1_whole 117 = .ok (.iload_n 3, 1) := by decide +kernel
theorem dX1_whole_118 : decode cX1_whole 118 = .ok (.ireturn, 1) := by decide +kernel
theorem dX1_of_0 : decode cX1_of 0 = .ok (.aload_n 0, 1) := by decide +kernel
theorem dX1_of_1 : decode cX1_of 1 = .ok (.iload_n 1, 1) := by decide +kernel
theorem dX1_of_2 : decode cX1_of 2 = .ok (.i2l, 1) := by decide +kernel
theorem dX1_of_3 : decode cX1_of 3 = .ok (.lconst 0, 1) := by decide +kernel
theorem dX1_of_4 : decode cX1_of 4 = .ok (.ldc2_w 114, 3) := by decide +kernel
theorem dX1_of_7 : decode cX1_of 7 = .ok (.invokestatic 51, 3) := by decide +kernel
theorem dX1_of_10 : decode cX1_of 10 = .ok (.ifCond .eq 7, 3) := by decide +kernel
theorem dX1_of_13 : decode cX1_of 13 = .ok (.iconst 0, 1) := by decide +kernel
theorem dX1_of_14 : decode cX1_of 14 = .ok (.goto 4, 3) := by decide +kernel
theorem dX1_of_17 : decode cX1_of 17 = .ok (.iconst 1, 1) := by decide +kernel
theorem dX1_of_18 : decode cX1_of 18 = .ok (.invokevirtual 61, 3) := by decide +kernel
theorem dX1_of_21 : decode cX1_of 21 = .ok (.ifCond .ne 5, 3) := by decide +kernel
theorem dX1_of_24 : decode cX1_of 24 = .ok (.iconst 0, 1) := by decide +kernel
theorem dX1_of_25 : decode cX1_of 25 = .ok (.ireturn, 1) := by decide +kernel
theorem dX1_of_26 : decode cX1_of 26 = .ok (.iload_n 1, 1) := by decide +kernel
theorem dX1_of_27 : decode cX1_of 27 = .ok (.iconst 4, 1) := by decide +kernel
theorem dX1_of_28 : decode cX1_of 28 = .ok (.if_icmp .ne 54, 3) := by decide +kernel
theorem dX1_of_31 : decode cX1_of 31 = .ok (.iconst 0, 1) := by decide +kernel
theorem dX1_of_32 : decode cX1_of 32 = .ok (.istore_n 2, 1) := by decide +kernel
theorem dX1_of_33 : decode cX1_of 33 = .ok (.aload_n 0, 1) := by decide +kernel
theorem dX1_of_34 : decode cX1_of 34 = .ok (.lconst 0, 1) := by decide +kernel
theorem dX1_of_35 : decode cX1_of 35 = .ok (.invokevirtual 101, 3) := by decide +kernel
theorem dX1_of_38 : decode cX1_of 38 = .ok (.pop, 1) := by decide +kernel
theorem dX1_of_39 : decode cX1_of 39 = .ok (.iconst 1, 1) := by decide +kernel
theorem dX1_of_40 : decode cX1_of 40 = .ok (.istore_n 3, 1) := by decide +kernel
theorem dX1_of_41 : decode cX1_of 41 = .ok (.iload_n 3, 1) := by decide +kernel
theorem dX1_of_42 : decode cX1_of 42 = .ok (.aload_n 0, 1) := by decide +kernel
theorem dX1_of_43 : decode cX1_of 43 = .ok (.getfield 39, 3) := by decide +kernel
theorem dX1_of_46 : decode cX1_of 46 = .ok (.if_icmp .ge 34, 3) := by decide +kernel
theorem dX1_of_49 : decode cX1_of 49 = .ok (.iload_n 2, 1) := by decide +kernel
theorem dX1_of_50 : decode cX1_of 50 = .ok (.aload_n 0, 1) := by decide +kernel
theorem dX1_of_51 : decode cX1_of 51 = .ok (.getfield 29, 3) := by decide +kernel
theorem dX1_of_54 : decode cX1_of 54 = .ok (.iload_n 3, 1) := by decide +kernel
theorem dX1_of_55 : decode cX1_of 55 = .ok (.iaload, 1) := by decide +kernel
theorem dX1_of_56 : decode cX1_of 56 = .ok (.aload_n 0, 1) := by decide +kernel
theorem dX1_of_57 : decode cX1_of 57 = .ok (.getfield 29, 3) := by decide +kernel
theorem dX1_of_60 : decode cX1_of 60 = .ok (.iload_n 3, 1) := by decide +kernel
theorem dX1_of_61 : decode cX1_of 61 = .ok (.iconst 1, 1) := by decide +kernel
theorem dX1_of_62 : decode cX1_of 62 = .ok (.isub, 1) := by decide +kernel
theorem dX1_of_63 : decode cX1_of 63 = .ok (.iaload, 1) := by decide +kernel
theorem dX1_of_64 : decode cX1_of 64 = .ok (.if_icmp .ne 7, 3) := by decide +kernel
theorem dX1_of_67 : decode cX1_of 67 = .ok (.iconst 0, 1) := by decide +kernel
theorem dX1_of_68 : decode cX1_of 68 = .ok (.goto 4, 3) := by decide +kernel
theorem dX1_of_71 : decode cX1_of 71 = .ok (.iconst 1, 1) := by decide +kernel
theorem dX1_of_72 : decode cX1_of 72 = .ok (.iadd, 1) := by decide +kernel
theorem dX1_of_73 : decode cX1_of 73 = .ok (.istore_n 2, 1) := by decide +kernel
theorem dX1_of_74 : decode cX1_of 74 = .ok (.iinc 3 1, 3) := by decide +kernel
theorem dX1_of_77 : decode cX1_of 77 = .ok (.goto (-36), 3) := by decide +kernel
theorem dX1_of_80 : decode cX1_of 80 = .ok (.iload_n 2, 1) := by decide +kernel
theorem dX1_of_81 : decode cX1_of 81 = .ok (.ireturn, 1) := by decide +kernel
theorem dX1_of_82 : decode cX1_of 82 = .ok (.iload_n 1, 1) := by decide +kernel
theorem dX1_of_83 : decode cX1_of 83 = .ok (.ifCond .ne 10, 3) := by decide +kernel
theorem dX1_of_86 : decode cX1_of 86 = .ok (.aload_n 0, 1) := by decide +kernel
theorem dX1_of_87 : decode cX1_of 87 = .ok (.getfield 39, 3) := by decide +kernel
theorem dX1_of_90 : decode cX1_of 90 = .ok (.goto 31, 3) := by decide +kernel
theorem dX1_of_93 : decode cX1_of 93 = .ok (.iload_n 1, 1) := by decide +kernel
theorem dX1_of_94 : decode cX1_of 94 = .ok (.iconst 1, 1) := by decide +kernel
theorem dX1_of_95 : decode cX1_of 95 = .ok (.if_icmp .ne 10, 3) := by decide +kernel
theorem dX1_of_98 : decode cX1_of 98 = .ok (.aload_n 0, 1) := by decide +kernel
theorem dX1_of_99 : decode cX1_of 99 = .ok (.getfield 42, 3) := by decide +kernel
theorem dX1_of_102 : decode cX1_of 102 = .ok (.goto 19, 3) := by decide +kernel
theorem dX1_of_105 : decode cX1_of 105 = .ok (.iload_n 1, 1) := by decide +kernel
theorem dX1_of_106 : decode cX1_of 106 = .ok (.iconst 2, 1) := by decide +kernel
theorem dX1_of_107 : decode cX1_of 107 = .ok (.if_icmp .ne 10, 3) := by decide +kernel
theorem dX1_of_110 : decode cX1_of 110 = .ok (.aload_n 0, 1) := by decide +kernel
theorem dX1_of_111 : decode cX1_of 111 = .ok (.getfield 45, 3) := by decide +kernel
theorem dX1_of_114 : decode cX1_of 114 = .ok (.goto 7, 3) := by decide +kernel
theorem dX1_of_117 : decode cX1_of 117 = .ok (.aload_n 0, 1) := by decide +kernel
theorem dX1_of_118 : decode cX1_of 118 = .ok (.getfield 48, 3) := by decide +kernel
theorem dX1_of_121 : decode cX1_of 121 = .ok (.ireturn, 1) := by decide +kernel

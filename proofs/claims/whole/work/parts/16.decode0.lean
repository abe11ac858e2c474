theorem dX0_init_0 : decode cX0_init 0 = .ok (.aload_n 0, 1) := by decide +kernel
theorem dX0_init_1 : decode cX0_init 1 = .ok (.invokespecial 1, 3) := by decide +kernel
theorem dX0_init_4 : decode cX0_init 4 = .ok (.aload_n 0, 1) := by decide +kernel
theorem dX0_init_5 : decode cX0_init 5 = .ok (.bipush 24, 2) := by decide +kernel
theorem dX0_init_7 : decode cX0_init 7 = .ok (.newarray .int, 2) := by decide +kernel
theorem dX0_init_9 : decode cX0_init 9 = .ok (.putfield 9, 3) := by decide +kernel
theorem dX0_init_12 : decode cX0_init 12 = .ok (.aload_n 0, 1) := by decide +kernel
theorem dX0_init_13 : decode cX0_init 13 = .ok (.sipush 480, 3) := by decide +kernel
theorem dX0_init_16 : decode cX0_init 16 = .ok (.newarray .int, 2) := by decide +kernel
theorem dX0_init_18 : decode cX0_init 18 = .ok (.putfield 13, 3) := by decide +kernel
theorem dX0_init_21 : decode cX0_init 21 = .ok (.aload_n 0, 1) := by decide +kernel
theorem dX0_init_22 : decode cX0_init 22 = .ok (.sipush 576, 3) := by decide +kernel
theorem dX0_init_25 : decode cX0_init 25 = .ok (.newarray .int, 2) := by decide +kernel
theorem dX0_init_27 : decode cX0_init 27 = .ok (.putfield 16, 3) := by decide +kernel
theorem dX0_init_30 : decode cX0_init 30 = .ok (.aload_n 0, 1) := by decide +kernel
theorem dX0_init_31 : decode cX0_init 31 = .ok (.sipush 960, 3) := by decide +kernel
theorem dX0_init_34 : decode cX0_init 34 = .ok (.newarray .int, 2) := by decide +kernel
theorem dX0_init_36 : decode cX0_init 36 = .ok (.putfield 19, 3) := by decide +kernel
theorem dX0_init_39 : decode cX0_init 39 = .ok (.aload_n 0, 1) := by decide +kernel
theorem dX0_init_40 : decode cX0_init 40 = .ok (.sipush 960, 3) := by decide +kernel
theorem dX0_init_43 : decode cX0_init 43 = .ok (.newarray .int, 2) := by decide +kernel
theorem dX0_init_45 : decode cX0_init 45 = .ok (.putfield 22, 3) := by decide +kernel
theorem dX0_init_48 : decode cX0_init 48 = .ok (.aload_n 0, 1) := by decide +kernel
theorem dX0_init_49 : decode cX0_init 49 = .ok (.sipush 960, 3) := by decide +kernel
theorem dX0_init_52 : decode cX0_init 52 = .ok (.newarray .long, 2) := by decide +kernel
theorem dX0_init_54 : decode cX0_init 54 = .ok (.putfield 25, 3) := by decide +kernel
theorem dX0_init_57 : decode cX0_init 57 = .ok (.aload_n 0, 1) := by decide +kernel
theorem dX0_init_58 : decode cX0_init 58 = .ok (.sipush 960, 3) := by decide +kernel
theorem dX0_init_61 : decode cX0_init 61 = .ok (.newarray .int, 2) := by decide +kernel
theorem dX0_init_63 : decode cX0_init 63 = .ok (.putfield 29, 3) := by decide +kernel
theorem dX0_init_66 : decode cX0_init 66 = .ok (.aload_n 0, 1) := by decide +kernel
theorem dX0_init_67 : decode cX0_init 67 = .ok (.bipush 40, 2) := by decide +kernel
theorem dX0_init_69 : decode cX0_init 69 = .ok (.newarray .int, 2) := by decide +kernel
theorem dX0_init_71 : decode cX0_init 71 = .ok (.putfield 32, 3) := by decide +kernel
theorem dX0_init_74 : decode cX0_init 74 = .ok (.aload_n 0, 1) := by decide +kernel
theorem dX0_init_75 : decode cX0_init 75 = .ok (.bipush 40, 2) := by decide +kernel
theorem dX0_init_77 : decode cX0_init 77 = .ok (.newarray .int, 2) := by decide +kernel
theorem dX0_init_79 : decode cX0_init 79 = .ok (.putfield 35, 3) := by decide +kernel
theorem dX0_init_82 : decode cX0_init 82 = .ok (.aload_n 0, 1) := by decide +kernel
theorem dX0_init_83 : decode cX0_init 83 = .ok (.invokevirtual 38, 3) := by decide +kernel
theorem dX0_init_86 : decode cX0_init 86 = .ok (.return_, 1) := by decide +kernel
theorem dX0_clear_0 : decode cX0_clear 0 = .ok (.aload_n 0, 1) := by decide +kernel
theorem dX0_clear_1 : decode cX0_clear 1 = .ok (.getfield 41, 3) := by decide +kernel
theorem dX0_clear_4 : decode cX0_clear 4 = .ok (.istore_n 1, 1) := by decide +kernel
theorem dX0_clear_5 : decode cX0_clear 5 = .ok (.aload_n 0, 1) := by decide +kernel
theorem dX0_clear_6 : decode cX0_clear 6 = .ok (.invokevirtual 38, 3) := by decide +kernel
theorem dX0_clear_9 : decode cX0_clear 9 = .ok (.iload_n 1, 1) := by decide +kernel
theorem dX0_clear_10 : decode cX0_clear 10 = .ok (.ireturn, 1) := by decide +kernel
theorem dX0_profile_0 : decode cX0_profile 0 = .ok (.iload_n 1, 1) := by decide +kernel
theorem dX0_profile_1 : decode cX0_profile 1 = .ok (.iconst 0, 1) := by decide +kernel
theorem dX0_profile_2 : decode cX0_profile 2 = .ok (.iconst 1, 1) := by decide +kernel
theorem dX0_profile_3 : decode cX0_profile 3 = .ok (.invokestatic 45, 3) := by decide +kernel
theorem dX0_profile_6 : decode cX0_profile 6 = .ok (.iload_n 2, 1) := by decide +kernel
theorem dX0_profile_7 : decode cX0_profile 7 = .ok (.iconst 0, 1) := by decide +kernel
theorem dX0_profile_8 : decode cX0_profile 8 = .ok (.bipush 11, 2) := by decide +kernel
theorem dX0_profile_10 : decode cX0_profile 10 = .ok (.invokestatic 45, 3) := by decide +kernel
theorem dX0_profile_13 : decode cX0_profile 13 = .ok (.iload_n 3, 1) := by decide +kernel
theorem dX0_profile_14 : decode cX0_profile 14 = .ok (.iconst 0, 1) := by decide +kernel
theorem dX0_profile_15 : decode cX0_profile 15 = .ok (.bipush 99, 2) := by decide +kernel
theorem dX0_profile_17 : decode cX0_profile 17 = .ok (.invokestatic 45, 3) := by decide +kernel
theorem dX0_profile_20 : decode cX0_profile 20 = .ok (.iload_n 1, 1) := by decide +kernel
theorem dX0_profile_21 : decode cX0_profile 21 = .ok (.bipush 12, 2) := by decide +kernel
theorem dX0_profile_23 : decode cX0_profile 23 = .ok (.imul, 1) := by decide +kernel
theorem dX0_profile_24 : decode cX0_profile 24 = .ok (.iload_n 2, 1) := by decide +kernel
theorem dX0_profile_25 : decode cX0_profile 25 = .ok (.iadd, 1) := by decide +kernel
theorem dX0_profile_26 : decode cX0_profile 26 = .ok (.istore 4, 2) := by decide +kernel
theorem dX0_profile_28 : decode cX0_profile 28 = .ok (.aload_n 0, 1) := by decide +kernel
theorem dX0_profile_29 : decode cX0_profile 29 = .ok (.getfield 9, 3) := by decide +kernel
theorem dX0_profile_32 : decode cX0_profile 32 = .ok (.iload 4, 2) := by decide +kernel
theorem dX0_profile_34 : decode cX0_profile 34 = .ok (.iaload, 1) := by decide +kernel
theorem dX0_profile_35 : decode cX0_profile 35 = .ok (.istore 5, 2) := by decide +kernel
theorem dX0_profile_37 : decode cX0_profile 37 = .ok (.aload_n 0, 1) := by decide +kernel
theorem dX0_profile_38 : decode cX0_profile 38 = .ok (.getfield 9, 3) := by decide +kernel
theorem dX0_profile_41 : decode cX0_profile 41 = .ok (.iload 4, 2) := by decide +kernel
theorem dX0_profile_43 : decode cX0_profile 43 = .ok (.iload_n 3, 1) := by decide +kernel
theorem dX0_profile_44 : decode cX0_profile 44 = .ok (.iastore, 1) := by decide +kernel
theorem dX0_profile_45 : decode cX0_profile 45 = .ok (.aload_n 0, 1) := by decide +kernel
theorem dX0_profile_46 : decode cX0_profile 46 = .ok (.invokevirtual 49, 3) := by decide +kernel
theorem dX0_profile_49 : decode cX0_profile 49 = .ok (.iload 5, 2) := by decide +kernel
theorem dX0_profile_51 : decode cX0_profile 51 = .ok (.ireturn, 1) := by decide +kernel
theorem dX0_costs_0 : decode cX0_costs 0 = .ok (.iload_n 1, 1) := by decide +kernel
theorem dX0_costs_1 : decode cX0_costs 1 = .ok (.iconst 0, 1) := by decide +kernel
theorem dX0_costs_2 : decode cX0_costs 2 = .ok (.sipush 1000, 3) := by decide +kernel
theorem dX0_costs_5 : decode cX0_costs 5 = .ok (.invokestatic 45, 3) := by decide +kernel
theorem dX0_costs_8 : decode cX0_costs 8 = .ok (.iload_n 2, 1) := by decide +kernel
theorem dX0_costs_9 : decode cX0_costs 9 = .ok (.iconst 0, 1) := by decide +kernel
theorem dX0_costs_10 : decode cX0_costs 10 = .ok (.sipush 1000, 3) := by decide +kernel
theorem dX0_costs_13 : decode cX0_costs 13 = .ok (.invokestatic 45, 3) := by decide +kernel
theorem dX0_costs_16 : decode cX0_costs 16 = .ok (.iload_n 3, 1) := by decide +kernel
theorem dX0_costs_17 : decode cX0_costs 17 = .ok (.iconst 0, 1) := by decide +kernel
theorem dX0_costs_18 : decode cX0_costs 18 = .ok (.sipush 1000, 3) := by decide +kernel
theorem dX0_costs_21 : decode cX0_costs 21 = .ok (.invokestatic 45, 3) := by decide +kernel
theorem dX0_costs_24 : decode cX0_costs 24 = .ok (.aload_n 0, 1) := by decide +kernel
theorem dX0_costs_25 : decode cX0_costs 25 = .ok (.getfield 52, 3) := by decide +kernel
theorem dX0_costs_28 : decode cX0_costs 28 = .ok (.iload_n 1, 1) := by decide +kernel
theorem dX0_costs_29 : decode cX0_costs 29 = .ok (.if_icmp .eq 7, 3) := by decide +kernel
theorem dX0_costs_32 : decode cX0_costs 32 = .ok (.iconst 1, 1) := by decide +kernel
theorem dX0_costs_33 : decode cX0_costs 33 = .ok (.goto 4, 3) := by decide +kernel
theorem dX0_costs_36 : decode cX0_costs 36 = .ok (.iconst 0, 1) := by decide +kernel
theorem dX0_costs_37 : decode cX0_costs 37 = .ok (.aload_n 0, 1) := by decide +kernel
theorem dX0_costs_38 : decode cX0_costs 38 = .ok (.getfield 55, 3) := by decide +kernel
theorem dX0_costs_41 : decode cX0_costs 41 = .ok (.iload_n 2, 1) := by decide +kernel
theorem dX0_costs_42 : decode cX0_costs 42 = .ok (.if_icmp .eq 7, 3) := by decide +kernel
theorem dX0_costs_45 : decode cX0_costs 45 = .ok (.iconst 1, 1) := by decide +kernel
theorem dX0_costs_46 : decode cX0_costs 46 = .ok (.goto 4, 3) := by decide +kernel
theorem dX0_costs_49 : decode cX0_costs 49 = .ok (.iconst 0, 1) := by decide +kernel
theorem dX0_costs_50 : decode cX0_costs 50 = .ok (.iadd, 1) := by decide +kernel
theorem dX0_costs_51 : decode cX0_costs 51 = .ok (.aload_n 0, 1) := by decide +kernel
theorem dX0_costs_52 : decode cX0_costs 52 = .ok (.getfield 58, 3) := by decide +kernel
theorem dX0_costs_55 : decode cX0_costs 55 = .ok (.iload_n 3, 1) := by decide +kernel
theorem dX0_costs_56 : decode cX0_costs 56 = .ok (.if_icmp .eq 7, 3) := by decide +kernel
theorem dX0_costs_59 : decode cX0_costs 59 = .ok (.iconst 1, 1) := by decide +kernel
theorem dX0_costs_60 : decode cX0_costs 60 = .ok (.goto 4, 3) := by decide +kernel
theorem dX0_costs_63 : decode cX0_costs 63 = .ok (.iconst 0, 1) := by decide +kernel
theorem dX0_costs_64 : decode cX0_costs 64 = .ok (.iadd, 1) := by decide +kernel
theorem dX0_costs_65 : decode cX0_costs 65 = .ok (.istore 4, 2) := by decide +kernel
theorem dX0_costs_67 : decode cX0_costs 67 = .ok (.aload_n 0, 1) := by decide +kernel
theorem dX0_costs_68 : decode cX0_costs 68 = .ok (.iload_n 1, 1) := by decide +kernel
theorem dX0_costs_69 : decode cX0_costs 69 = .ok (.putfield 52, 3) := by decide +kernel
theorem dX0_costs_72 : decode cX0_costs 72 = .ok (.aload_n 0, 1) := by decide +kernel
theorem dX0_costs_73 : decode cX0_costs 73 = .ok (.iload_n 2, 1) := by decide +kernel
theorem dX0_costs_74 : decode cX0_costs 74 = .ok (.putfield 55, 3) := by decide +kernel
theorem dX0_costs_77 : decode cX0_costs 77 = .ok (.aload_n 0, 1) := by decide +kernel
theorem dX0_costs_78 : decode cX0_costs 78 = .ok (.iload_n 3, 1) := by decide +kernel
theorem dX0_costs_79 : decode cX0_costs 79 = .ok (.putfield 58, 3) := by decide +kernel
theorem dX0_costs_82 : decode cX0_costs 82 = .ok (.aload_n 0, 1) := by decide +kernel
theorem dX0_costs_83 : decode cX0_costs 83 = .ok (.invokevirtual 49, 3) := by decide +kernel
theorem dX0_costs_86 : decode cX0_costs 86 = .ok (.iload 4, 2) := by decide +kernel
theorem dX0_costs_88 : decode cX0_costs 88 = .ok (.ireturn, 1) := by decide +kernel
theorem dX0_slice_0 : decode cX0_slice 0 = .ok (.aload_n 0, 1) := by decide +kernel
theorem dX0_slice_1 : decode cX0_slice 1 = .ok (.getfield 41, 3) := by decide +kernel
theorem dX0_slice_4 : decode cX0_slice 4 = .ok (.bipush 40, 2) := by decide +kernel
theorem dX0_slice_6 : decode cX0_slice 6 = .ok (.if_icmp .lt 13, 3) := by decide +kernel
theorem dX0_slice_9 : decode cX0_slice 9 = .ok (.new 61, 3) := by decide +kernel
theorem dX0_slice_12 : decode cX0_slice 12 = .ok (.dup, 1) := by decide +kernel
theorem dX0_slice_13 : decode cX0_slice 13 = .ok (.ldc 63, 2) := by decide +kernel
theorem dX0_slice_15 : decode cX0_slice 15 = .ok (.invokespecial 65, 3) := by decide +kernel
theorem dX0_slice_18 : decode cX0_slice 18 = .ok (.athrow, 1) := by decide +kernel
theorem dX0_slice_19 : decode cX0_slice 19 = .ok (.aload_n 0, 1) := by decide +kernel
theorem dX0_slice_20 : decode cX0_slice 20 = .ok (.getfield 41, 3) := by decide +kernel
theorem dX0_slice_23 : decode cX0_slice 23 = .ok (.istore_n 1, 1) := by decide +kernel
theorem dX0_slice_24 : decode cX0_slice 24 = .ok (.iconst 0, 1) := by decide +kernel
theorem dX0_slice_25 : decode cX0_slice 25 = .ok (.istore_n 2, 1) := by decide +kernel
theorem dX0_slice_26 : decode cX0_slice 26 = .ok (.iload_n 2, 1) := by decide +kernel
theorem dX0_slice_27 : decode cX0_slice 27 = .ok (.bipush 12, 2) := by decide +kernel
theorem dX0_slice_29 : decode cX0_slice 29 = .ok (.if_icmp .ge 21, 3) := by decide +kernel
theorem dX0_slice_32 : decode cX0_slice 32 = .ok (.aload_n 0, 1) := by decide +kernel
theorem dX0_slice_33 : decode cX0_slice 33 = .ok (.getfield 13, 3) := by decide +kernel
theorem dX0_slice_36 : decode cX0_slice 36 = .ok (.iload_n 1, 1) := by decide +kernel
theorem dX0_slice_37 : decode cX0_slice 37 = .ok (.bipush 12, 2) := by decide +kernel
theorem dX0_slice_39 : decode cX0_slice 39 = .ok (.imul, 1) := by decide +kernel
theorem dX0_slice_40 : decode cX0_slice 40 = .ok (.iload_n 2, 1) := by decide +kernel
theorem dX0_slice_41 : decode cX0_slice 41 = .ok (.iadd, 1) := by decide +kernel
theorem dX0_slice_42 : decode cX0_slice 42 = .ok (.iconst 0, 1) := by decide +kernel
theorem dX0_slice_43 : decode cX0_slice 43 = .ok (.iastore, 1) := by decide +kernel
theorem dX0_slice_44 : decode cX0_slice 44 = .ok (.iinc 2 1, 3) := by decide +kernel
theorem dX0_slice_47 : decode cX0_slice 47 = .ok (.goto (-21), 3) := by decide +kernel
theorem dX0_slice_50 : decode cX0_slice 50 = .ok (.aload_n 0, 1) := by decide +kernel
theorem dX0_slice_51 : decode cX0_slice 51 = .ok (.dup, 1) := by decide +kernel
theorem dX0_slice_52 : decode cX0_slice 52 = .ok (.getfield 41, 3) := by decide +kernel
theorem dX0_slice_55 : decode cX0_slice 55 = .ok (.iconst 1, 1) := by decide +kernel
theorem dX0_slice_56 : decode cX0_slice 56 = .ok (.iadd, 1) := by decide +kernel
theorem dX0_slice_57 : decode cX0_slice 57 = .ok (.putfield 41, 3) := by decide +kernel
theorem dX0_slice_60 : decode cX0_slice 60 = .ok (.aload_n 0, 1) := by decide +kernel
theorem dX0_slice_61 : decode cX0_slice 61 = .ok (.invokevirtual 49, 3) := by decide +kernel
theorem dX0_slice_64 : decode cX0_slice 64 = .ok (.iload_n 1, 1) := by decide +kernel
theorem dX0_slice_65 : decode cX0_slice 65 = .ok (.ireturn, 1) := by decide +kernel
theorem dX0_note_0 : decode cX0_note 0 = .ok (.aload_n 0, 1) := by decide +kernel
theorem dX0_note_1 : decode cX0_note 1 = .ok (.iload_n 1, 1) := by decide +kernel
theorem dX0_note_2 : decode cX0_note 2 = .ok (.invokevirtual 68, 3) := by decide +kernel
theorem dX0_note_5 : decode cX0_note 5 = .ok (.iload_n 2, 1) := by decide +kernel
theorem dX0_note_6 : decode cX0_note 6 = .ok (.iconst 0, 1) := by decide +kernel
theorem dX0_note_7 : decode cX0_note 7 = .ok (.bipush 11, 2) := by decide +kernel
theorem dX0_note_9 : decode cX0_note 9 = .ok (.invokestatic 45, 3) := by decide +kernel
theorem dX0_note_12 : decode cX0_note 12 = .ok (.iload_n 3, 1) := by decide +kernel
theorem dX0_note_13 : decode cX0_note 13 = .ok (.iconst 1, 1) := by decide +kernel
theorem dX0_note_14 : decode cX0_note 14 = .ok (.sipush 200, 3) := by decide +kernel
theorem dX0_note_17 : decode cX0_note 17 = .ok (.invokestatic 45, 3) := by decide +kernel
theorem dX0_note_20 : decode cX0_note 20 = .ok (.iload_n 1, 1) := by decide +kernel
theorem dX0_note_21 : decode cX0_note 21 = .ok (.bipush 12, 2) := by decide +kernel
theorem dX0_note_23 : decode cX0_note 23 = .ok (.imul, 1) := by decide +kernel
theorem dX0_note_24 : decode cX0_note 24 = .ok (.iload_n 2, 1) := by decide +kernel
theorem dX0_note_25 : decode cX0_note 25 = .ok (.iadd, 1) := by decide +kernel
theorem dX0_note_26 : decode cX0_note 26 = .ok (.istore 4, 2) := by decide +kernel
theorem dX0_note_28 : decode cX0_note 28 = .ok (.aload_n 0, 1) := by decide +kernel
theorem dX0_note_29 : decode cX0_note 29 = .ok (.getfield 13, 3) := by decide +kernel
theorem dX0_note_32 : decode cX0_note 32 = .ok (.iload 4, 2) := by decide +kernel
theorem dX0_note_34 : decode cX0_note 34 = .ok (.iaload, 1) := by decide +kernel
theorem dX0_note_35 : decode cX0_note 35 = .ok (.iload_n 3, 1) := by decide +kernel
theorem dX0_note_36 : decode cX0_note 36 = .ok (.iadd, 1) := by decide +kernel
theorem dX0_note_37 : decode cX0_note 37 = .ok (.istore 5, 2) := by decide +kernel
theorem dX0_note_39 : decode cX0_note 39 = .ok (.iload 5, 2) := by decide +kernel
theorem dX0_note_41 : decode cX0_note 41 = .ok (.sipush 200, 3) := by decide +kernel
theorem dX0_note_44 : decode cX0_note 44 = .ok (.if_icmp .le 13, 3) := by decide +kernel
theorem dX0_note_47 : decode cX0_note 47 = .ok (.new 61, 3) := by decide +kernel
theorem dX0_note_50 : decode cX0_note 50 = .ok (.dup, 1) := by decide +kernel
theorem dX0_note_51 : decode cX0_note 51 = .ok (.ldc 72, 2) := by decide +kernel
theorem dX0_note_53 : decode cX0_note 53 = .ok (.invokespecial 65, 3) := by decide +kernel
theorem dX0_note_56 : decode cX0_note 56 = .ok (.athrow, 1) := by decide +kernel
theorem dX0_note_57 : decode cX0_note 57 = .ok (.aload_n 0, 1) := by decide +kernel
theorem dX0_note_58 : decode cX0_note 58 = .ok (.getfield 13, 3) := by decide +kernel
theorem dX0_note_61 : decode cX0_note 61 = .ok (.iload 4, 2) := by decide +kernel
theorem dX0_note_63 : decode cX0_note 63 = .ok (.iload 5, 2) := by decide +kernel
theorem dX0_note_65 : decode cX0_note 65 = .ok (.iastore, 1) := by decide +kernel
theorem dX0_note_66 : decode cX0_note 66 = .ok (.aload_n 0, 1) := by decide +kernel
theorem dX0_note_67 : decode cX0_note 67 = .ok (.invokevirtual 49, 3) := by decide +kernel
theorem dX0_note_70 : decode cX0_note 70 = .ok (.iload 5, 2) := by decide +kernel
theorem dX0_note_72 : decode cX0_note 72 = .ok (.ireturn, 1) := by decide +kernel
theorem dX0_drop_0 : decode cX0_drop 0 = .ok (.aload_n 0, 1) := by decide +kernel
theorem dX0_drop_1 : decode cX0_drop 1 = .ok (.getfield 41, 3) := by decide +kernel
theorem dX0_drop_4 : decode cX0_drop 4 = .ok (.ifCond .gt 13, 3) := by decide +kernel
theorem dX0_drop_7 : decode cX0_drop 7 = .ok (.new 61, 3) := by decide +kernel
theorem dX0_drop_10 : decode cX0_drop 10 = .ok (.dup, 1) := by decide +kernel
theorem dX0_drop_11 : decode cX0_drop 11 = .ok (.ldc 74, 2) := by decide +kernel
theorem dX0_drop_13 : decode cX0_drop 13 = .ok (.invokespecial 65, 3) := by decide +kernel
theorem dX0_drop_16 : decode cX0_drop 16 = .ok (.athrow, 1) := by decide +kernel
theorem dX0_drop_17 : decode cX0_drop 17 = .ok (.aload_n 0, 1) := by decide +kernel
theorem dX0_drop_18 : decode cX0_drop 18 = .ok (.dup, 1) := by decide +kernel
theorem dX0_drop_19 : decode cX0_drop 19 = .ok (.getfield 41, 3) := by decide +kernel
theorem dX0_drop_22 : decode cX0_drop 22 = .ok (.iconst 1, 1) := by decide +kernel
theorem dX0_drop_23 : decode cX0_drop 23 = .ok (.isub, 1) := by decide +kernel
theorem dX0_drop_24 : decode cX0_drop 24 = .ok (.putfield 41, 3) := by decide +kernel
theorem dX0_drop_27 : decode cX0_drop 27 = .ok (.aload_n 0, 1) := by decide +kernel
theorem dX0_drop_28 : decode cX0_drop 28 = .ok (.invokevirtual 49, 3) := by decide +kernel
theorem dX0_drop_31 : decode cX0_drop 31 = .ok (.aload_n 0, 1) := by decide +kernel
theorem dX0_drop_32 : decode cX0_drop 32 = .ok (.getfield 41, 3) := by decide +kernel
theorem dX0_drop_35 : decode cX0_drop 35 = .ok (.ireturn, 1) := by decide +kernel
theorem dX0_fit_0 : decode cX0_fit 0 = .ok (.aload_n 0, 1) := by decide +kernel
theorem dX0_fit_1 : decode cX0_fit 1 = .ok (.iload_n 1, 1) := by decide +kernel
theorem dX0_fit_2 : decode cX0_fit 2 = .ok (.invokevirtual 68, 3) := by decide +kernel
theorem dX0_fit_5 : decode cX0_fit 5 = .ok (.iload_n 2, 1) := by decide +kernel
theorem dX0_fit_6 : decode cX0_fit 6 = .ok (.invokestatic 76, 3) := by decide +kernel
theorem dX0_fit_9 : decode cX0_fit 9 = .ok (.aload_n 0, 1) := by decide +kernel
theorem dX0_fit_10 : decode cX0_fit 10 = .ok (.iload_n 1, 1) := by decide +kernel
theorem dX0_fit_11 : decode cX0_fit 11 = .ok (.iload_n 2, 1) := by decide +kernel
theorem dX0_fit_12 : decode cX0_fit 12 = .ok (.invokevirtual 79, 3) := by decide +kernel
theorem dX0_fit_15 : decode cX0_fit 15 = .ok (.ireturn, 1) := by decide +kernel
theorem dX0_cost_0 : decode cX0_cost 0 = .ok (.aload_n 0, 1) := by decide +kernel
theorem dX0_cost_1 : decode cX0_cost 1 = .ok (.iload_n 1, 1) := by decide +kernel
theorem dX0_cost_2 : decode cX0_cost 2 = .ok (.invokevirtual 68, 3) := by decide +kernel
theorem dX0_cost_5 : decode cX0_cost 5 = .ok (.iload_n 2, 1) := by decide +kernel
theorem dX0_cost_6 : decode cX0_cost 6 = .ok (.invokestatic 76, 3) := by decide +kernel
theorem dX0_cost_9 : decode cX0_cost 9 = .ok (.aload_n 0, 1) := by decide +kernel
theorem dX0_cost_10 : decode cX0_cost 10 = .ok (.iload_n 1, 1) := by decide +kernel
theorem dX0_cost_11 : decode cX0_cost 11 = .ok (.invokevirtual 83, 3) := by decide +kernel
theorem dX0_cost_14 : decode cX0_cost 14 = .ok (.aload_n 0, 1) := by decide +kernel
theorem dX0_cost_15 : decode cX0_cost 15 = .ok (.iload_n 1, 1) := by decide +kernel
theorem dX0_cost_16 : decode cX0_cost 16 = .ok (.iload_n 2, 1) := by decide +kernel
theorem dX0_cost_17 : decode cX0_cost 17 = .ok (.invokevirtual 79, 3) := by decide +kernel
theorem dX0_cost_20 : decode cX0_cost 20 = .ok (.isub, 1) := by decide +kernel
theorem dX0_cost_21 : decode cX0_cost 21 = .ok (.ireturn, 1) := by decide +kernel
theorem dX0_turn_0 : decode cX0_turn 0 = .ok (.iload_n 1, 1) := by decide +kernel
theorem dX0_turn_1 : decode cX0_turn 1 = .ok (.invokestatic 76, 3) := by decide +kernel
theorem dX0_turn_4 : decode cX0_turn 4 = .ok (.iload_n 2, 1) := by decide +kernel
theorem dX0_turn_5 : decode cX0_turn 5 = .ok (.invokestatic 76, 3) := by decide +kernel
theorem dX0_turn_8 : decode cX0_turn 8 = .ok (.aload_n 0, 1) := by decide +kernel
theorem dX0_turn_9 : decode cX0_turn 9 = .ok (.iload_n 1, 1) := by decide +kernel
theorem dX0_turn_10 : decode cX0_turn 10 = .ok (.iload_n 2, 1) := by decide +kernel
theorem dX0_turn_11 : decode cX0_turn 11 = .ok (.invokevirtual 87, 3) := by decide +kernel
theorem dX0_turn_14 : decode cX0_turn 14 = .ok (.ireturn, 1) := by decide +kernel
theorem dX0_least_0 : decode cX0_least 0 = .ok (.aload_n 0, 1) := by decide +kernel
theorem dX0_least_1 : decode cX0_least 1 = .ok (.invokevirtual 90, 3) := by decide +kernel
theorem dX0_least_4 : decode cX0_least 4 = .ok (.aload_n 0, 1) := by decide +kernel
theorem dX0_least_5 : decode cX0_least 5 = .ok (.getfield 93, 3) := by decide +kernel
theorem dX0_least_8 : decode cX0_least 8 = .ok (.ireturn, 1) := by decide +kernel
theorem dX0_key_0 : decode cX0_key 0 = .ok (.aload_n 0, 1) := by decide +kernel
theorem dX0_key_1 : decode cX0_key 1 = .ok (.iload_n 1, 1) := by decide +kernel
theorem dX0_key_2 : decode cX0_key 2 = .ok (.invokevirtual 68, 3) := by decide +kernel
theorem dX0_key_5 : decode cX0_key 5 = .ok (.aload_n 0, 1) := by decide +kernel
theorem dX0_key_6 : decode cX0_key 6 = .ok (.invokevirtual 90, 3) := by decide +kernel
theorem dX0_key_9 : decode cX0_key 9 = .ok (.aload_n 0, 1) := by decide +kernel
theorem dX0_key_10 : decode cX0_key 10 = .ok (.getfield 32, 3) := by decide +kernel
theorem dX0_key_13 : decode cX0_key 13 = .ok (.iload_n 1, 1) := by decide +kernel
theorem dX0_key_14 : decode cX0_key 14 = .ok (.iaload, 1) := by decide +kernel
theorem dX0_key_15 : decode cX0_key 15 = .ok (.ireturn, 1) := by decide +kernel
theorem dX0_count_0 : decode cX0_count 0 = .ok (.aload_n 0, 1) := by decide +kernel
theorem dX0_count_1 : decode cX0_count 1 = .ok (.invokevirtual 90, 3) := by decide +kernel
theorem dX0_count_4 : decode cX0_count 4 = .ok (.aload_n 0, 1) := by decide +kernel
theorem dX0_count_5 : decode cX0_count 5 = .ok (.getfield 96, 3) := by decide +kernel
theorem dX0_count_8 : decode cX0_count 8 = .ok (.lreturn, 1) := by decide +kernel
theorem dX0_pick_0 : decode cX0_pick 0 = .ok (.lload_n 1, 1) := by decide +kernel
theorem dX0_pick_1 : decode cX0_pick 1 = .ok (.lconst 0, 1) := by decide +kernel
theorem dX0_pick_2 : decode cX0_pick 2 = .ok (.lcmp, 1) := by decide +kernel
theorem dX0_pick_3 : decode cX0_pick 3 = .ok (.ifCond .lt 11, 3) := by decide +kernel
theorem dX0_pick_6 : decode cX0_pick 6 = .ok (.lload_n 1, 1) := by decide +kernel
theorem dX0_pick_7 : decode cX0_pick 7 = .ok (.ldc2_w 100, 3) := by decide +kernel
theorem dX0_pick_10 : decode cX0_pick 10 = .ok (.lcmp, 1) := by decide +kernel
theorem dX0_pick_11 : decode cX0_pick 11 = .ok (.ifCond .lt 13, 3) := by decide +kernel
theorem dX0_pick_14 : decode cX0_pick 14 = .ok (.new 102, 3) := by decide +kernel
theorem dX0_pick_17 : decode cX0_pick 17 = .ok (.dup, 1) := by decide +kernel
theorem dX0_pick_18 : decode cX0_pick 18 = .ok (.ldc 104, 2) := by decide +kernel
theorem dX0_pick_20 : decode cX0_pick 20 = .ok (.invokespecial 106, 3) := by decide +kernel
theorem dX0_pick_23 : decode cX0_pick 23 = .ok (.athrow, 1) := by decide +kernel
theorem dX0_pick_24 : decode cX0_pick 24 = .ok (.aload_n 0, 1) := by decide +kernel
theorem dX0_pick_25 : decode cX0_pick 25 = .ok (.iload_n 3, 1) := by decide +kernel
theorem dX0_pick_26 : decode cX0_pick 26 = .ok (.invokevirtual 68, 3) := by decide +kernel
theorem dX0_pick_29 : decode cX0_pick 29 = .ok (.aload_n 0, 1) := by decide +kernel
theorem dX0_pick_30 : decode cX0_pick 30 = .ok (.invokevirtual 90, 3) := by decide +kernel
theorem dX0_pick_33 : decode cX0_pick 33 = .ok (.aload_n 0, 1) := by decide +kernel
theorem dX0_pick_34 : decode cX0_pick 34 = .ok (.lload_n 1, 1) := by decide +kernel
theorem dX0_pick_35 : decode cX0_pick 35 = .ok (.iload_n 3, 1) := by decide +kernel
theorem dX0_pick_36 : decode cX0_pick 36 = .ok (.aload_n 0, 1) := by decide +kernel
theorem dX0_pick_37 : decode cX0_pick 37 = .ok (.getfield 35, 3) := by decide +kernel
theorem dX0_pick_40 : decode cX0_pick 40 = .ok (.invokevirtual 107, 3) := by decide +kernel
theorem dX0_pick_43 : decode cX0_pick 43 = .ok (.ireturn, 1) := by decide +kernel
theorem dX0_through_0 : decode cX0_through 0 = .ok (.aload_n 0, 1) := by decide +kernel
theorem dX0_through_1 : decode cX0_through 1 = .ok (.iload_n 1, 1) := by decide +kernel
theorem dX0_through_2 : decode cX0_through 2 = .ok (.invokevirtual 68, 3) := by decide +kernel
theorem dX0_through_5 : decode cX0_through 5 = .ok (.iload_n 2, 1) := by decide +kernel
theorem dX0_through_6 : decode cX0_through 6 = .ok (.invokestatic 76, 3) := by decide +kernel
theorem dX0_through_9 : decode cX0_through 9 = .ok (.aload_n 0, 1) := by decide +kernel
theorem dX0_through_10 : decode cX0_through 10 = .ok (.invokevirtual 111, 3) := by decide +kernel
theorem dX0_through_13 : decode cX0_through 13 = .ok (.aload_n 0, 1) := by decide +kernel
theorem dX0_through_14 : decode cX0_through 14 = .ok (.iload_n 1, 1) := by decide +kernel
theorem dX0_through_15 : decode cX0_through 15 = .ok (.iload_n 2, 1) := by decide +kernel
theorem dX0_through_16 : decode cX0_through 16 = .ok (.invokevirtual 114, 3) := by decide +kernel
theorem dX0_through_19 : decode cX0_through 19 = .ok (.ireturn, 1) := by decide +kernel
theorem dX0_near_0 : decode cX0_near 0 = .ok (.aload_n 0, 1) := by decide +kernel
theorem dX0_near_1 : decode cX0_near 1 = .ok (.iload_n 1, 1) := by decide +kernel
theorem dX0_near_2 : decode cX0_near 2 = .ok (.invokevirtual 68, 3) := by decide +kernel
theorem dX0_near_5 : decode cX0_near 5 = .ok (.iload_n 2, 1) := by decide +kernel
theorem dX0_near_6 : decode cX0_near 6 = .ok (.iconst 0, 1) := by decide +kernel
theorem dX0_near_7 : decode cX0_near 7 = .ok (.ldc 117, 2) := by decide +kernel
theorem dX0_near_9 : decode cX0_near 9 = .ok (.invokestatic 45, 3) := by decide +kernel
theorem dX0_near_12 : decode cX0_near 12 = .ok (.aload_n 0, 1) := by decide +kernel
theorem dX0_near_13 : decode cX0_near 13 = .ok (.invokevirtual 111, 3) := by decide +kernel
theorem dX0_near_16 : decode cX0_near 16 = .ok (.iconst 0, 1) := by decide +kernel
theorem dX0_near_17 : decode cX0_near 17 = .ok (.istore_n 3, 1) := by decide +kernel
theorem dX0_near_18 : decode cX0_near 18 = .ok (.iconst 0, 1) := by decide +kernel
theorem dX0_near_19 : decode cX0_near 19 = .ok (.istore 4, 2) := by decide +kernel
theorem dX0_near_21 : decode cX0_near 21 = .ok (.iload 4, 2) := by decide +kernel
theorem dX0_near_23 : decode cX0_near 23 = .ok (.bipush 24, 2) := by decide +kernel
theorem dX0_near_25 : decode cX0_near 25 = .ok (.if_icmp .ge 32, 3) := by decide +kernel
theorem dX0_near_28 : decode cX0_near 28 = .ok (.aload_n 0, 1) := by decide +kernel
theorem dX0_near_29 : decode cX0_near 29 = .ok (.iload_n 1, 1) := by decide +kernel
theorem dX0_near_30 : decode cX0_near 30 = .ok (.iload 4, 2) := by decide +kernel
theorem dX0_near_32 : decode cX0_near 32 = .ok (.invokevirtual 114, 3) := by decide +kernel
theorem dX0_near_35 : decode cX0_near 35 = .ok (.aload_n 0, 1) := by decide +kernel
theorem dX0_near_36 : decode cX0_near 36 = .ok (.getfield 93, 3) := by decide +kernel
theorem dX0_near_39 : decode cX0_near 39 = .ok (.iload_n 2, 1) := by decide +kernel
theorem dX0_near_40 : decode cX0_near 40 = .ok (.iadd, 1) := by decide +kernel
theorem dX0_near_41 : decode cX0_near 41 = .ok (.if_icmp .gt 10, 3) := by decide +kernel
theorem dX0_near_44 : decode cX0_near 44 = .ok (.iload_n 3, 1) := by decide +kernel
theorem dX0_near_45 : decode cX0_near 45 = .ok (.iconst 1, 1) := by decide +kernel
theorem dX0_near_46 : decode cX0_near 46 = .ok (.iload 4, 2) := by decide +kernel
theorem dX0_near_48 : decode cX0_near 48 = .ok (.ishl, 1) := by decide +kernel
theorem dX0_near_49 : decode cX0_near 49 = .ok (.ior, 1) := by decide +kernel
theorem dX0_near_50 : decode cX0_near 50 = .ok (.istore_n 3, 1) := by decide +kernel
theorem dX0_near_51 : decode cX0_near 51 = .ok (.iinc 4 1, 3) := by decide +kernel
theorem dX0_near_54 : decode cX0_near 54 = .ok (.goto (-33), 3) := by decide +kernel
theorem dX0_near_57 : decode cX0_near 57 = .ok (.iload_n 3, 1) := by decide +kernel
theorem dX0_near_58 : decode cX0_near 58 = .ok (.ireturn, 1) := by decide +kernel
theorem dX0_sure_0 : decode cX0_sure 0 = .ok (.aload_n 0, 1) := by decide +kernel
theorem dX0_sure_1 : decode cX0_sure 1 = .ok (.iload_n 1, 1) := by decide +kernel
theorem dX0_sure_2 : decode cX0_sure 2 = .ok (.invokevirtual 68, 3) := by decide +kernel
theorem dX0_sure_5 : decode cX0_sure 5 = .ok (.aload_n 0, 1) := by decide +kernel
theorem dX0_sure_6 : decode cX0_sure 6 = .ok (.invokevirtual 111, 3) := by decide +kernel
theorem dX0_sure_9 : decode cX0_sure 9 = .ok (.aload_n 0, 1) := by decide +kernel
theorem dX0_sure_10 : decode cX0_sure 10 = .ok (.iload_n 1, 1) := by decide +kernel
theorem dX0_sure_11 : decode cX0_sure 11 = .ok (.invokevirtual 118, 3) := by decide +kernel
theorem dX0_sure_14 : decode cX0_sure 14 = .ok (.istore_n 2, 1) := by decide +kernel
theorem dX0_sure_15 : decode cX0_sure 15 = .ok (.iload_n 2, 1) := by decide +kernel
theorem dX0_sure_16 : decode cX0_sure 16 = .ok (.ifCond .ne 13, 3) := by decide +kernel
theorem dX0_sure_19 : decode cX0_sure 19 = .ok (.new 121, 3) := by decide +kernel
theorem dX0_sure_22 : decode cX0_sure 22 = .ok (.dup, 1) := by decide +kernel
theorem dX0_sure_23 : decode cX0_sure 23 = .ok (.ldc 123, 2) := by decide +kernel
theorem dX0_sure_25 : decode cX0_sure 25 = .ok (.invokespecial 125, 3) := by decide +kernel
theorem dX0_sure_28 : decode cX0_sure 28 = .ok (.athrow, 1) := by decide +kernel
theorem dX0_sure_29 : decode cX0_sure 29 = .ok (.bipush 100, 2) := by decide +kernel
theorem dX0_sure_31 : decode cX0_sure 31 = .ok (.iload_n 2, 1) := by decide +kernel
theorem dX0_sure_32 : decode cX0_sure 32 = .ok (.aload_n 0, 1) := by decide +kernel
theorem dX0_sure_33 : decode cX0_sure 33 = .ok (.getfield 93, 3) := by decide +kernel
theorem dX0_sure_36 : decode cX0_sure 36 = .ok (.isub, 1) := by decide +kernel
theorem dX0_sure_37 : decode cX0_sure 37 = .ok (.imul, 1) := by decide +kernel
theorem dX0_sure_38 : decode cX0_sure 38 = .ok (.iload_n 2, 1) := by decide +kernel
theorem dX0_sure_39 : decode cX0_sure 39 = .ok (.idiv, 1) := by decide +kernel
theorem dX0_sure_40 : decode cX0_sure 40 = .ok (.ireturn, 1) := by decide +kernel
theorem dX0_change_0 : decode cX0_change 0 = .ok (.iload_n 1, 1) := by decide +kernel
theorem dX0_change_1 : decode cX0_change 1 = .ok (.ifCond .ge 13, 3) := by decide +kernel
theorem dX0_change_4 : decode cX0_change 4 = .ok (.new 102, 3) := by decide +kernel
theorem dX0_change_7 : decode cX0_change 7 = .ok (.dup, 1) := by decide +kernel
theorem dX0_change_8 : decode cX0_change 8 = .ok (.ldc 126, 2) := by decide +kernel
theorem dX0_change_10 : decode cX0_change 10 = .ok (.invokespecial 106, 3) := by decide +kernel
theorem dX0_change_13 : decode cX0_change 13 = .ok (.athrow, 1) := by decide +kernel
theorem dX0_change_14 : decode cX0_change 14 = .ok (.aload_n 0, 1) := by decide +kernel
theorem dX0_change_15 : decode cX0_change 15 = .ok (.invokevirtual 90, 3) := by decide +kernel
theorem dX0_change_18 : decode cX0_change 18 = .ok (.iconst 0, 1) := by decide +kernel
theorem dX0_change_19 : decode cX0_change 19 = .ok (.istore_n 2, 1) := by decide +kernel
theorem dX0_change_20 : decode cX0_change 20 = .ok (.iconst 1, 1) := by decide +kernel
theorem dX0_change_21 : decode cX0_change 21 = .ok (.istore_n 3, 1) := by decide +kernel
theorem dX0_change_22 : decode cX0_change 22 = .ok (.iload_n 3, 1) := by decide +kernel
theorem dX0_change_23 : decode cX0_change 23 = .ok (.aload_n 0, 1) := by decide +kernel
theorem dX0_change_24 : decode cX0_change 24 = .ok (.getfield 41, 3) := by decide +kernel
theorem dX0_change_27 : decode cX0_change 27 = .ok (.if_icmp .ge 27, 3) := by decide +kernel
theorem dX0_change_30 : decode cX0_change 30 = .ok (.aload_n 0, 1) := by decide +kernel
theorem dX0_change_31 : decode cX0_change 31 = .ok (.iload_n 3, 1) := by decide +kernel
theorem dX0_change_32 : decode cX0_change 32 = .ok (.invokevirtual 128, 3) := by decide +kernel
theorem dX0_change_35 : decode cX0_change 35 = .ok (.ifCond .eq 13, 3) := by decide +kernel
theorem dX0_change_38 : decode cX0_change 38 = .ok (.iload_n 2, 1) := by decide +kernel
theorem dX0_change_39 : decode cX0_change 39 = .ok (.iload_n 1, 1) := by decide +kernel
theorem dX0_change_40 : decode cX0_change 40 = .ok (.if_icmp .ne 5, 3) := by decide +kernel
theorem dX0_change_43 : decode cX0_change 43 = .ok (.iload_n 3, 1) := by decide +kernel
theorem dX0_change_44 : decode cX0_change 44 = .ok (.ireturn, 1) := by decide +kernel
theorem dX0_change_45 : decode cX0_change 45 = .ok (.iinc 2 1, 3) := by decide +kernel
theorem dX0_change_48 : decode cX0_change 48 = .ok (.iinc 3 1, 3) := by decide +kernel
theorem dX0_change_51 : decode cX0_change 51 = .ok (.goto (-29), 3) := by decide +kernel
theorem dX0_change_54 : decode cX0_change 54 = .ok (.iconst (-1), 1) := by decide +kernel
theorem dX0_change_55 : decode cX0_change 55 = .ok (.ireturn, 1) := by decide +kernel
theorem dX0_pivot_0 : decode cX0_pivot 0 = .ok (.aload_n 0, 1) := by decide +kernel
theorem dX0_pivot_1 : decode cX0_pivot 1 = .ok (.iload_n 1, 1) := by decide +kernel
theorem dX0_pivot_2 : decode cX0_pivot 2 = .ok (.invokevirtual 68, 3) := by decide +kernel
theorem dX0_pivot_5 : decode cX0_pivot 5 = .ok (.iload_n 2, 1) := by decide +kernel
theorem dX0_pivot_6 : decode cX0_pivot 6 = .ok (.invokestatic 76, 3) := by decide +kernel
theorem dX0_pivot_9 : decode cX0_pivot 9 = .ok (.iload_n 3, 1) := by decide +kernel
theorem dX0_pivot_10 : decode cX0_pivot 10 = .ok (.invokestatic 76, 3) := by decide +kernel
theorem dX0_pivot_13 : decode cX0_pivot 13 = .ok (.iconst 0, 1) := by decide +kernel
theorem dX0_pivot_14 : decode cX0_pivot 14 = .ok (.istore 4, 2) := by decide +kernel
theorem dX0_pivot_16 : decode cX0_pivot 16 = .ok (.iload 4, 2) := by decide +kernel
theorem dX0_pivot_18 : decode cX0_pivot 18 = .ok (.bipush 12, 2) := by decide +kernel
theorem dX0_pivot_20 : decode cX0_pivot 20 = .ok (.if_icmp .ge 58, 3) := by decide +kernel
theorem dX0_pivot_23 : decode cX0_pivot 23 = .ok (.aload_n 0, 1) := by decide +kernel
theorem dX0_pivot_24 : decode cX0_pivot 24 = .ok (.getfield 13, 3) := by decide +kernel
theorem dX0_pivot_27 : decode cX0_pivot 27 = .ok (.iload_n 1, 1) := by decide +kernel
theorem dX0_pivot_28 : decode cX0_pivot 28 = .ok (.bipush 12, 2) := by decide +kernel
theorem dX0_pivot_30 : decode cX0_pivot 30 = .ok (.imul, 1) := by decide +kernel
theorem dX0_pivot_31 : decode cX0_pivot 31 = .ok (.iload 4, 2) := by decide +kernel
theorem dX0_pivot_33 : decode cX0_pivot 33 = .ok (.iadd, 1) := by decide +kernel
theorem dX0_pivot_34 : decode cX0_pivot 34 = .ok (.iaload, 1) := by decide +kernel
theorem dX0_pivot_35 : decode cX0_pivot 35 = .ok (.ifCond .le 7, 3) := by decide +kernel
theorem dX0_pivot_38 : decode cX0_pivot 38 = .ok (.iconst 1, 1) := by decide +kernel
theorem dX0_pivot_39 : decode cX0_pivot 39 = .ok (.goto 4, 3) := by decide +kernel
theorem dX0_pivot_42 : decode cX0_pivot 42 = .ok (.iconst 0, 1) := by decide +kernel
theorem dX0_pivot_43 : decode cX0_pivot 43 = .ok (.istore 5, 2) := by decide +kernel
theorem dX0_pivot_45 : decode cX0_pivot 45 = .ok (.iload 5, 2) := by decide +kernel
theorem dX0_pivot_47 : decode cX0_pivot 47 = .ok (.ifCond .eq 25, 3) := by decide +kernel
theorem dX0_pivot_50 : decode cX0_pivot 50 = .ok (.aload_n 0, 1) := by decide +kernel
theorem dX0_pivot_51 : decode cX0_pivot 51 = .ok (.iload 4, 2) := by decide +kernel
theorem dX0_pivot_53 : decode cX0_pivot 53 = .ok (.iload_n 2, 1) := by decide +kernel
theorem dX0_pivot_54 : decode cX0_pivot 54 = .ok (.invokevirtual 132, 3) := by decide +kernel
theorem dX0_pivot_57 : decode cX0_pivot 57 = .ok (.ifCond .eq 13, 3) := by decide +kernel
theorem dX0_pivot_60 : decode cX0_pivot 60 = .ok (.aload_n 0, 1) := by decide +kernel
theorem dX0_pivot_61 : decode cX0_pivot 61 = .ok (.iload 4, 2) := by decide +kernel
theorem dX0_pivot_63 : decode cX0_pivot 63 = .ok (.iload_n 3, 1) := by decide +kernel
theorem dX0_pivot_64 : decode cX0_pivot 64 = .ok (.invokevirtual 132, 3) := by decide +kernel
theorem dX0_pivot_67 : decode cX0_pivot 67 = .ok (.ifCond .ne 5, 3) := by decide +kernel
theorem dX0_pivot_70 : decode cX0_pivot 70 = .ok (.iconst 0, 1) := by decide +kernel
theorem dX0_pivot_71 : decode cX0_pivot 71 = .ok (.ireturn, 1) := by decide +kernel
theorem dX0_pivot_72 : decode cX0_pivot 72 = .ok (.iinc 4 1, 3) := by decide +kernel
theorem dX0_pivot_75 : decode cX0_pivot 75 = .ok (.goto (-59), 3) := by decide +kernel
theorem dX0_pivot_78 : decode cX0_pivot 78 = .ok (.iconst 1, 1) := by decide +kernel
theorem dX0_pivot_79 : decode cX0_pivot 79 = .ok (.ireturn, 1) := by decide +kernel
theorem dX0_whole_0 : decode cX0_whole 0 = .ok (.aload_n 0, 1) := by decide +kernel
theorem dX0_whole_1 : decode cX0_whole 1 = .ok (.iload_n 1, 1) := by decide +kernel
theorem dX0_whole_2 : decode cX0_whole 2 = .ok (.invokevirtual 68, 3) := by decide +kernel
theorem dX0_whole_5 : decode cX0_whole 5 = .ok (.aload_n 0, 1) := by decide +kernel
theorem dX0_whole_6 : decode cX0_whole 6 = .ok (.iload_n 2, 1) := by decide +kernel
theorem dX0_whole_7 : decode cX0_whole 7 = .ok (.invokevirtual 68, 3) := by decide +kernel
theorem dX0_whole_10 : decode cX0_whole 10 = .ok (.iload_n 1, 1) := by decide +kernel
theorem dX0_whole_11 : decode cX0_whole 11 = .ok (.iload_n 2, 1) := by decide +kernel
theorem dX0_whole_12 : decode cX0_whole 12 = .ok (.if_icmp .le 13, 3) := by decide +kernel
theorem dX0_whole_15 : decode cX0_whole 15 = .ok (.new 102, 3) := by decide +kernel
theorem dX0_whole_18 : decode cX0_whole 18 = .ok (.dup, 1) := by decide +kernel
theorem dX0_whole_19 : decode cX0_whole 19 = .ok (.ldc 135, 2) := by decide +kernel
theorem dX0_whole_21 : decode cX0_whole 21 = .ok (.invokespecial 106, 3) := by decide +kernel
theorem dX0_whole_24 : decode cX0_whole 24 = .ok (.athrow, 1) := by decide +kernel
theorem dX0_whole_25 : decode cX0_whole 25 = .ok (.iconst 0, 1) := by decide +kernel
theorem dX0_whole_26 : decode cX0_whole 26 = .ok (.istore_n 3, 1) := by decide +kernel
theorem dX0_whole_27 : decode cX0_whole 27 = .ok (.aload_n 0, 1) := by decide +kernel
theorem dX0_whole_28 : decode cX0_whole 28 = .ok (.iload_n 1, 1) := by decide +kernel
theorem dX0_whole_29 : decode cX0_whole 29 = .ok (.iload_n 2, 1) := by decide +kernel
theorem dX0_whole_30 : decode cX0_whole 30 = .ok (.iconst 0, 1) := by decide +kernel
theorem dX0_whole_31 : decode cX0_whole 31 = .ok (.invokevirtual 137, 3) := by decide +kernel
theorem dX0_whole_34 : decode cX0_whole 34 = .ok (.istore 4, 2) := by decide +kernel
theorem dX0_whole_36 : decode cX0_whole 36 = .ok (.iconst 1, 1) := by decide +kernel
theorem dX0_whole_37 : decode cX0_whole 37 = .ok (.istore 5, 2) := by decide +kernel
theorem dX0_whole_39 : decode cX0_whole 39 = .ok (.iload 5, 2) := by decide +kernel
theorem dX0_whole_41 : decode cX0_whole 41 = .ok (.bipush 24, 2) := by decide +kernel
theorem dX0_whole_43 : decode cX0_whole 43 = .ok (.if_icmp .ge 33, 3) := by decide +kernel
theorem dX0_whole_46 : decode cX0_whole 46 = .ok (.aload_n 0, 1) := by decide +kernel
theorem dX0_whole_47 : decode cX0_whole 47 = .ok (.iload_n 1, 1) := by decide +kernel
theorem dX0_whole_48 : decode cX0_whole 48 = .ok (.iload_n 2, 1) := by decide +kernel
theorem dX0_whole_49 : decode cX0_whole 49 = .ok (.iload 5, 2) := by decide +kernel
theorem dX0_whole_51 : decode cX0_whole 51 = .ok (.invokevirtual 137, 3) := by decide +kernel
theorem dX0_whole_54 : decode cX0_whole 54 = .ok (.istore 6, 2) := by decide +kernel
theorem dX0_whole_56 : decode cX0_whole 56 = .ok (.iload 6, 2) := by decide +kernel
theorem dX0_whole_58 : decode cX0_whole 58 = .ok (.iload 4, 2) := by decide +kernel
theorem dX0_whole_60 : decode cX0_whole 60 = .ok (.if_icmp .le 10, 3) := by decide +kernel
theorem dX0_whole_63 : decode cX0_whole 63 = .ok (.iload 6, 2) := by decide +kernel
theorem dX0_whole_65 : decode cX0_whole 65 = .ok (.istore 4, 2) := by decide +kernel
theorem dX0_whole_67 : decode cX0_whole 67 = .ok (.iload 5, 2) := by decide +kernel
theorem dX0_whole_69 : decode cX0_whole 69 = .ok (.istore_n 3, 1) := by decide +kernel
theorem dX0_whole_70 : decode cX0_whole 70 = .ok (.iinc 5 1, 3) := by decide +kernel
theorem dX0_whole_73 : decode cX0_whole 73 = .ok (.goto (-34), 3) := by decide +kernel
theorem dX0_whole_76 : decode cX0_whole 76 = .ok (.iload_n 3, 1) := by decide +kernel
theorem dX0_whole_77 : decode cX0_whole 77 = .ok (.ireturn, 1) := by decide +kernel
theorem dX0_of_0 : decode cX0_of 0 = .ok (.iload_n 1, 1) := by decide +kernel
theorem dX0_of_1 : decode cX0_of 1 = .ok (.tableswitch 60 0 4 #[35, 40, 45, 50, 55], 35) := by decide +kernel
theorem dX0_of_36 : decode cX0_of 36 = .ok (.aload_n 0, 1) := by decide +kernel
theorem dX0_of_37 : decode cX0_of 37 = .ok (.getfield 41, 3) := by decide +kernel
theorem dX0_of_40 : decode cX0_of 40 = .ok (.ireturn, 1) := by decide +kernel
theorem dX0_of_41 : decode cX0_of 41 = .ok (.aload_n 0, 1) := by decide +kernel
theorem dX0_of_42 : decode cX0_of 42 = .ok (.getfield 52, 3) := by decide +kernel
theorem dX0_of_45 : decode cX0_of 45 = .ok (.ireturn, 1) := by decide +kernel
theorem dX0_of_46 : decode cX0_of 46 = .ok (.aload_n 0, 1) := by decide +kernel
theorem dX0_of_47 : decode cX0_of 47 = .ok (.getfield 55, 3) := by decide +kernel
theorem dX0_of_50 : decode cX0_of 50 = .ok (.ireturn, 1) := by decide +kernel
theorem dX0_of_51 : decode cX0_of 51 = .ok (.aload_n 0, 1) := by decide +kernel
theorem dX0_of_52 : decode cX0_of 52 = .ok (.getfield 58, 3) := by decide +kernel
theorem dX0_of_55 : decode cX0_of 55 = .ok (.ireturn, 1) := by decide +kernel
theorem dX0_of_56 : decode cX0_of 56 = .ok (.aload_n 0, 1) := by decide +kernel
theorem dX0_of_57 : decode cX0_of 57 = .ok (.invokevirtual 141, 3) := by decide +kernel
theorem dX0_of_60 : decode cX0_of 60 = .ok (.ireturn, 1) := by decide +kernel
theorem dX0_of_61 : decode cX0_of 61 = .ok (.new 102, 3) := by decide +kernel
theorem dX0_of_64 : decode cX0_of 64 = .ok (.dup, 1) := by decide +kernel
theorem dX0_of_65 : decode cX0_of 65 = .ok (.ldc 145, 2) := by decide +kernel
theorem dX0_of_67 : decode cX0_of 67 = .ok (.invokespecial 106, 3) := by decide +kernel
theorem dX0_of_70 : decode cX0_of 70 = .ok (.athrow, 1) := by decide +kernel
theorem dX0_setFirst_0 : decode cX0_setFirst 0 = .ok (.getstatic 147, 3) := by decide +kernel
theorem dX0_setFirst_3 : decode cX0_setFirst 3 = .ok (.iconst 0, 1) := by decide +kernel
theorem dX0_setFirst_4 : decode cX0_setFirst 4 = .ok (.aload_n 0, 1) := by decide +kernel
theorem dX0_setFirst_5 : decode cX0_setFirst 5 = .ok (.getfield 9, 3) := by decide +kernel
theorem dX0_setFirst_8 : decode cX0_setFirst 8 = .ok (.iconst 0, 1) := by decide +kernel
theorem dX0_setFirst_9 : decode cX0_setFirst 9 = .ok (.bipush 24, 2) := by decide +kernel
theorem dX0_setFirst_11 : decode cX0_setFirst 11 = .ok (.invokestatic 150, 3) := by decide +kernel
theorem dX0_setFirst_14 : decode cX0_setFirst 14 = .ok (.aload_n 0, 1) := by decide +kernel
theorem dX0_setFirst_15 : decode cX0_setFirst 15 = .ok (.bipush 10, 2) := by decide +kernel
theorem dX0_setFirst_17 : decode cX0_setFirst 17 = .ok (.putfield 52, 3) := by decide +kernel
theorem dX0_setFirst_20 : decode cX0_setFirst 20 = .ok (.aload_n 0, 1) := by decide +kernel
theorem dX0_setFirst_21 : decode cX0_setFirst 21 = .ok (.iconst 5, 1) := by decide +kernel
theorem dX0_setFirst_22 : decode cX0_setFirst 22 = .ok (.putfield 55, 3) := by decide +kernel
theorem dX0_setFirst_25 : decode cX0_setFirst 25 = .ok (.aload_n 0, 1) := by decide +kernel
theorem dX0_setFirst_26 : decode cX0_setFirst 26 = .ok (.iconst 2, 1) := by decide +kernel
theorem dX0_setFirst_27 : decode cX0_setFirst 27 = .ok (.putfield 58, 3) := by decide +kernel
theorem dX0_setFirst_30 : decode cX0_setFirst 30 = .ok (.aload_n 0, 1) := by decide +kernel
theorem dX0_setFirst_31 : decode cX0_setFirst 31 = .ok (.iconst 0, 1) := by decide +kernel
theorem dX0_setFirst_32 : decode cX0_setFirst 32 = .ok (.putfield 41, 3) := by decide +kernel
theorem dX0_setFirst_35 : decode cX0_setFirst 35 = .ok (.aload_n 0, 1) := by decide +kernel
theorem dX0_setFirst_36 : decode cX0_setFirst 36 = .ok (.invokevirtual 49, 3) := by decide +kernel
theorem dX0_setFirst_39 : decode cX0_setFirst 39 = .ok (.return_, 1) := by decide +kernel
theorem dX0_forget_0 : decode cX0_forget 0 = .ok (.aload_n 0, 1) := by decide +kernel
theorem dX0_forget_1 : decode cX0_forget 1 = .ok (.iconst 0, 1) := by decide +kernel
theorem dX0_forget_2 : decode cX0_forget 2 = .ok (.putfield 156, 3) := by decide +kernel
theorem dX0_forget_5 : decode cX0_forget 5 = .ok (.aload_n 0, 1) := by decide +kernel
theorem dX0_forget_6 : decode cX0_forget 6 = .ok (.iconst 0, 1) := by decide +kernel
theorem dX0_forget_7 : decode cX0_forget 7 = .ok (.putfield 160, 3) := by decide +kernel
theorem dX0_forget_10 : decode cX0_forget 10 = .ok (.return_, 1) := by decide +kernel
theorem dX0_requireSlice_0 : decode cX0_requireSlice 0 = .ok (.iload_n 1, 1) := by decide +kernel
theorem dX0_requireSlice_1 : decode cX0_requireSlice 1 = .ok (.iconst 0, 1) := by decide +kernel
theorem dX0_requireSlice_2 : decode cX0_requireSlice 2 = .ok (.aload_n 0, 1) := by decide +kernel
theorem dX0_requireSlice_3 : decode cX0_requireSlice 3 = .ok (.getfield 41, 3) := by decide +kernel
theorem dX0_requireSlice_6 : decode cX0_requireSlice 6 = .ok (.iconst 1, 1) := by decide +kernel
theorem dX0_requireSlice_7 : decode cX0_requireSlice 7 = .ok (.isub, 1) := by decide +kernel
theorem dX0_requireSlice_8 : decode cX0_requireSlice 8 = .ok (.invokestatic 45, 3) := by decide +kernel
theorem dX0_requireSlice_11 : decode cX0_requireSlice 11 = .ok (.return_, 1) := by decide +kernel
theorem dX0_requireKey_0 : decode cX0_requireKey 0 = .ok (.iload_n 0, 1) := by decide +kernel
theorem dX0_requireKey_1 : decode cX0_requireKey 1 = .ok (.iconst 0, 1) := by decide +kernel
theorem dX0_requireKey_2 : decode cX0_requireKey 2 = .ok (.bipush 23, 2) := by decide +kernel
theorem dX0_requireKey_4 : decode cX0_requireKey 4 = .ok (.invokestatic 45, 3) := by decide +kernel
theorem dX0_requireKey_7 : decode cX0_requireKey 7 = .ok (.return_, 1) := by decide +kernel
theorem dX0_requireWithin_0 : decode cX0_requireWithin 0 = .ok (.iload_n 0, 1) := by decide +kernel
theorem dX0_requireWithin_1 : decode cX0_requireWithin 1 = .ok (.iload_n 1, 1) := by decide +kernel
theorem dX0_requireWithin_2 : decode cX0_requireWithin 2 = .ok (.if_icmp .lt 8, 3) := by decide +kernel
theorem dX0_requireWithin_5 : decode cX0_requireWithin 5 = .ok (.iload_n 0, 1) := by decide +kernel
theorem dX0_requireWithin_6 : decode cX0_requireWithin 6 = .ok (.iload_n 2, 1) := by decide +kernel
theorem dX0_requireWithin_7 : decode cX0_requireWithin 7 = .ok (.if_icmp .le 13, 3) := by decide +kernel
theorem dX0_requireWithin_10 : decode cX0_requireWithin 10 = .ok (.new 102, 3) := by decide +kernel
theorem dX0_requireWithin_13 : decode cX0_requireWithin 13 = .ok (.dup, 1) := by decide +kernel
theorem dX0_requireWithin_14 : decode cX0_requireWithin 14 = .ok (.ldc 163, 2) := by decide +kernel
theorem dX0_requireWithin_16 : decode cX0_requireWithin 16 = .ok (.invokespecial 106, 3) := by decide +kernel
theorem dX0_requireWithin_19 : decode cX0_requireWithin 19 = .ok (.athrow, 1) := by decide +kernel
theorem dX0_requireWithin_20 : decode cX0_requireWithin 20 = .ok (.return_, 1) := by decide +kernel
theorem dX0_tonicOf_0 : decode cX0_tonicOf 0 = .ok (.iload_n 0, 1) := by decide +kernel
theorem dX0_tonicOf_1 : decode cX0_tonicOf 1 = .ok (.bipush 12, 2) := by decide +kernel
theorem dX0_tonicOf_3 : decode cX0_tonicOf 3 = .ok (.irem, 1) := by decide +kernel
theorem dX0_tonicOf_4 : decode cX0_tonicOf 4 = .ok (.ireturn, 1) := by decide +kernel
theorem dX0_modeOf_0 : decode cX0_modeOf 0 = .ok (.iload_n 0, 1) := by decide +kernel
theorem dX0_modeOf_1 : decode cX0_modeOf 1 = .ok (.bipush 12, 2) := by decide +kernel
theorem dX0_modeOf_3 : decode cX0_modeOf 3 = .ok (.idiv, 1) := by decide +kernel
theorem dX0_modeOf_4 : decode cX0_modeOf 4 = .ok (.ireturn, 1) := by decide +kernel
theorem dX0_placeOf_0 : decode cX0_placeOf 0 = .ok (.iload_n 0, 1) := by decide +kernel
theorem dX0_placeOf_1 : decode cX0_placeOf 1 = .ok (.invokestatic 165, 3) := by decide +kernel
theorem dX0_placeOf_4 : decode cX0_placeOf 4 = .ok (.ifCond .ne 10, 3) := by decide +kernel
theorem dX0_placeOf_7 : decode cX0_placeOf 7 = .ok (.iload_n 0, 1) := by decide +kernel
theorem dX0_placeOf_8 : decode cX0_placeOf 8 = .ok (.invokestatic 168, 3) := by decide +kernel
theorem dX0_placeOf_11 : decode cX0_placeOf 11 = .ok (.goto 9, 3) := by decide +kernel
theorem dX0_placeOf_14 : decode cX0_placeOf 14 = .ok (.iload_n 0, 1) := by decide +kernel
theorem dX0_placeOf_15 : decode cX0_placeOf 15 = .ok (.invokestatic 168, 3) := by decide +kernel
theorem dX0_placeOf_18 : decode cX0_placeOf 18 = .ok (.iconst 3, 1) := by decide +kernel
theorem dX0_placeOf_19 : decode cX0_placeOf 19 = .ok (.iadd, 1) := by decide +kernel
theorem dX0_placeOf_20 : decode cX0_placeOf 20 = .ok (.istore_n 1, 1) := by decide +kernel
theorem dX0_placeOf_21 : decode cX0_placeOf 21 = .ok (.bipush 7, 2) := by decide +kernel
theorem dX0_placeOf_23 : decode cX0_placeOf 23 = .ok (.iload_n 1, 1) := by decide +kernel
theorem dX0_placeOf_24 : decode cX0_placeOf 24 = .ok (.imul, 1) := by decide +kernel
theorem dX0_placeOf_25 : decode cX0_placeOf 25 = .ok (.bipush 12, 2) := by decide +kernel
theorem dX0_placeOf_27 : decode cX0_placeOf 27 = .ok (.irem, 1) := by decide +kernel
theorem dX0_placeOf_28 : decode cX0_placeOf 28 = .ok (.ireturn, 1) := by decide +kernel
theorem dX0_numberOf_0 : decode cX0_numberOf 0 = .ok (.iload_n 1, 1) := by decide +kernel
theorem dX0_numberOf_1 : decode cX0_numberOf 1 = .ok (.bipush 12, 2) := by decide +kernel
theorem dX0_numberOf_3 : decode cX0_numberOf 3 = .ok (.iadd, 1) := by decide +kernel
theorem dX0_numberOf_4 : decode cX0_numberOf 4 = .ok (.iload_n 2, 1) := by decide +kernel
theorem dX0_numberOf_5 : decode cX0_numberOf 5 = .ok (.invokestatic 168, 3) := by decide +kernel
theorem dX0_numberOf_8 : decode cX0_numberOf 8 = .ok (.isub, 1) := by decide +kernel
theorem dX0_numberOf_9 : decode cX0_numberOf 9 = .ok (.bipush 12, 2) := by decide +kernel
theorem dX0_numberOf_11 : decode cX0_numberOf 11 = .ok (.irem, 1) := by decide +kernel
theorem dX0_numberOf_12 : decode cX0_numberOf 12 = .ok (.istore_n 3, 1) := by decide +kernel
theorem dX0_numberOf_13 : decode cX0_numberOf 13 = .ok (.aload_n 0, 1) := by decide +kernel
theorem dX0_numberOf_14 : decode cX0_numberOf 14 = .ok (.getfield 9, 3) := by decide +kernel
theorem dX0_numberOf_17 : decode cX0_numberOf 17 = .ok (.iload_n 2, 1) := by decide +kernel
theorem dX0_numberOf_18 : decode cX0_numberOf 18 = .ok (.invokestatic 165, 3) := by decide +kernel
theorem dX0_numberOf_21 : decode cX0_numberOf 21 = .ok (.bipush 12, 2) := by decide +kernel
theorem dX0_numberOf_23 : decode cX0_numberOf 23 = .ok (.imul, 1) := by decide +kernel
theorem dX0_numberOf_24 : decode cX0_numberOf 24 = .ok (.iload_n 3, 1) := by decide +kernel
theorem dX0_numberOf_25 : decode cX0_numberOf 25 = .ok (.iadd, 1) := by decide +kernel
theorem dX0_numberOf_26 : decode cX0_numberOf 26 = .ok (.iaload, 1) := by decide +kernel
theorem dX0_numberOf_27 : decode cX0_numberOf 27 = .ok (.ireturn, 1) := by decide +kernel
theorem dX0_fitIn_0 : decode cX0_fitIn 0 = .ok (.iconst 0, 1) := by decide +kernel
theorem dX0_fitIn_1 : decode cX0_fitIn 1 = .ok (.istore_n 3, 1) := by decide +kernel
theorem dX0_fitIn_2 : decode cX0_fitIn 2 = .ok (.iconst 0, 1) := by decide +kernel
theorem dX0_fitIn_3 : decode cX0_fitIn 3 = .ok (.istore 4, 2) := by decide +kernel
theorem dX0_fitIn_5 : decode cX0_fitIn 5 = .ok (.iload 4, 2) := by decide +kernel
theorem dX0_fitIn_7 : decode cX0_fitIn 7 = .ok (.bipush 12, 2) := by decide +kernel
theorem dX0_fitIn_9 : decode cX0_fitIn 9 = .ok (.if_icmp .ge 32, 3) := by decide +kernel
theorem dX0_fitIn_12 : decode cX0_fitIn 12 = .ok (.iload_n 3, 1) := by decide +kernel
theorem dX0_fitIn_13 : decode cX0_fitIn 13 = .ok (.aload_n 0, 1) := by decide +kernel
theorem dX0_fitIn_14 : decode cX0_fitIn 14 = .ok (.getfield 13, 3) := by decide +kernel
theorem dX0_fitIn_17 : decode cX0_fitIn 17 = .ok (.iload_n 1, 1) := by decide +kernel
theorem dX0_fitIn_18 : decode cX0_fitIn 18 = .ok (.bipush 12, 2) := by decide +kernel
theorem dX0_fitIn_20 : decode cX0_fitIn 20 = .ok (.imul, 1) := by decide +kernel
theorem dX0_fitIn_21 : decode cX0_fitIn 21 = .ok (.iload 4, 2) := by decide +kernel
theorem dX0_fitIn_23 : decode cX0_fitIn 23 = .ok (.iadd, 1) := by decide +kernel
theorem dX0_fitIn_24 : decode cX0_fitIn 24 = .ok (.iaload, 1) := by decide +kernel
theorem dX0_fitIn_25 : decode cX0_fitIn 25 = .ok (.aload_n 0, 1) := by decide +kernel
theorem dX0_fitIn_26 : decode cX0_fitIn 26 = .ok (.iload 4, 2) := by decide +kernel
theorem dX0_fitIn_28 : decode cX0_fitIn 28 = .ok (.iload_n 2, 1) := by decide +kernel
theorem dX0_fitIn_29 : decode cX0_fitIn 29 = .ok (.invokevirtual 132, 3) := by decide +kernel
theorem dX0_fitIn_32 : decode cX0_fitIn 32 = .ok (.imul, 1) := by decide +kernel
theorem dX0_fitIn_33 : decode cX0_fitIn 33 = .ok (.iadd, 1) := by decide +kernel
theorem dX0_fitIn_34 : decode cX0_fitIn 34 = .ok (.istore_n 3, 1) := by decide +kernel
theorem dX0_fitIn_35 : decode cX0_fitIn 35 = .ok (.iinc 4 1, 3) := by decide +kernel
theorem dX0_fitIn_38 : decode cX0_fitIn 38 = .ok (.goto (-33), 3) := by decide +kernel
theorem dX0_fitIn_41 : decode cX0_fitIn 41 = .ok (.iload_n 3, 1) := by decide +kernel
theorem dX0_fitIn_42 : decode cX0_fitIn 42 = .ok (.ireturn, 1) := by decide +kernel
theorem dX0_greatestFit_0 : decode cX0_greatestFit 0 = .ok (.iconst 0, 1) := by decide +kernel
theorem dX0_greatestFit_1 : decode cX0_greatestFit 1 = .ok (.istore_n 2, 1) := by decide +kernel
theorem dX0_greatestFit_2 : decode cX0_greatestFit 2 = .ok (.iconst 0, 1) := by decide +kernel
theorem dX0_greatestFit_3 : decode cX0_greatestFit 3 = .ok (.istore_n 3, 1) := by decide +kernel
theorem dX0_greatestFit_4 : decode cX0_greatestFit 4 = .ok (.iload_n 3, 1) := by decide +kernel
theorem dX0_greatestFit_5 : decode cX0_greatestFit 5 = .ok (.bipush 24, 2) := by decide +kernel
theorem dX0_greatestFit_7 : decode cX0_greatestFit 7 = .ok (.if_icmp .ge 20, 3) := by decide +kernel
theorem dX0_greatestFit_10 : decode cX0_greatestFit 10 = .ok (.iload_n 2, 1) := by decide +kernel
theorem dX0_greatestFit_11 : decode cX0_greatestFit 11 = .ok (.aload_n 0, 1) := by decide +kernel
theorem dX0_greatestFit_12 : decode cX0_greatestFit 12 = .ok (.iload_n 1, 1) := by decide +kernel
theorem dX0_greatestFit_13 : decode cX0_greatestFit 13 = .ok (.iload_n 3, 1) := by decide +kernel
theorem dX0_greatestFit_14 : decode cX0_greatestFit 14 = .ok (.invokevirtual 79, 3) := by decide +kernel
theorem dX0_greatestFit_17 : decode cX0_greatestFit 17 = .ok (.invokestatic 171, 3) := by decide +kernel
theorem dX0_greatestFit_20 : decode cX0_greatestFit 20 = .ok (.istore_n 2, 1) := by decide +kernel
theorem dX0_greatestFit_21 : decode cX0_greatestFit 21 = .ok (.iinc 3 1, 3) := by decide +kernel
theorem dX0_greatestFit_24 : decode cX0_greatestFit 24 = .ok (.goto (-20), 3) := by decide +kernel
theorem dX0_greatestFit_27 : decode cX0_greatestFit 27 = .ok (.iload_n 2, 1) := by decide +kernel
theorem dX0_greatestFit_28 : decode cX0_greatestFit 28 = .ok (.ireturn, 1) := by decide +kernel
theorem dX0_fitTogether_0 : decode cX0_fitTogether 0 = .ok (.iconst 0, 1) := by decide +kernel
theorem dX0_fitTogether_1 : decode cX0_fitTogether 1 = .ok (.istore 4, 2) := by decide +kernel
theorem dX0_fitTogether_3 : decode cX0_fitTogether 3 = .ok (.iload_n 1, 1) := by decide +kernel
theorem dX0_fitTogether_4 : decode cX0_fitTogether 4 = .ok (.istore 5, 2) := by decide +kernel
theorem dX0_fitTogether_6 : decode cX0_fitTogether 6 = .ok (.iload 5, 2) := by decide +kernel
theorem dX0_fitTogether_8 : decode cX0_fitTogether 8 = .ok (.iload_n 2, 1) := by decide +kernel
theorem dX0_fitTogether_9 : decode cX0_fitTogether 9 = .ok (.if_icmp .gt 21, 3) := by decide +kernel
theorem dX0_fitTogether_12 : decode cX0_fitTogether 12 = .ok (.iload 4, 2) := by decide +kernel
theorem dX0_fitTogether_14 : decode cX0_fitTogether 14 = .ok (.aload_n 0, 1) := by decide +kernel
theorem dX0_fitTogether_15 : decode cX0_fitTogether 15 = .ok (.iload 5, 2) := by decide +kernel
theorem dX0_fitTogether_17 : decode cX0_fitTogether 17 = .ok (.iload_n 3, 1) := by decide +kernel
theorem dX0_fitTogether_18 : decode cX0_fitTogether 18 = .ok (.invokevirtual 79, 3) := by decide +kernel
theorem dX0_fitTogether_21 : decode cX0_fitTogether 21 = .ok (.iadd, 1) := by decide +kernel
theorem dX0_fitTogether_22 : decode cX0_fitTogether 22 = .ok (.istore 4, 2) := by decide +kernel
theorem dX0_fitTogether_24 : decode cX0_fitTogether 24 = .ok (.iinc 5 1, 3) := by decide +kernel
theorem dX0_fitTogether_27 : decode cX0_fitTogether 27 = .ok (.goto (-21), 3) := by decide +kernel
theorem dX0_fitTogether_30 : decode cX0_fitTogether 30 = .ok (.iload 4, 2) := by decide +kernel
theorem dX0_fitTogether_32 : decode cX0_fitTogether 32 = .ok (.ireturn, 1) := by decide +kernel
theorem dX0_turnBetween_0 : decode cX0_turnBetween 0 = .ok (.iload_n 1, 1) := by decide +kernel
theorem dX0_turnBetween_1 : decode cX0_turnBetween 1 = .ok (.iload_n 2, 1) := by decide +kernel
theorem dX0_turnBetween_2 : decode cX0_turnBetween 2 = .ok (.if_icmp .ne 5, 3) := by decide +kernel
theorem dX0_turnBetween_5 : decode cX0_turnBetween 5 = .ok (.iconst 0, 1) := by decide +kernel
theorem dX0_turnBetween_6 : decode cX0_turnBetween 6 = .ok (.ireturn, 1) := by decide +kernel
theorem dX0_turnBetween_7 : decode cX0_turnBetween 7 = .ok (.iload_n 1, 1) := by decide +kernel
theorem dX0_turnBetween_8 : decode cX0_turnBetween 8 = .ok (.invokestatic 176, 3) := by decide +kernel
theorem dX0_turnBetween_11 : decode cX0_turnBetween 11 = .ok (.iload_n 2, 1) := by decide +kernel
theorem dX0_turnBetween_12 : decode cX0_turnBetween 12 = .ok (.invokestatic 176, 3) := by decide +kernel
theorem dX0_turnBetween_15 : decode cX0_turnBetween 15 = .ok (.isub, 1) := by decide +kernel
theorem dX0_turnBetween_16 : decode cX0_turnBetween 16 = .ok (.invokestatic 179, 3) := by decide +kernel
theorem dX0_turnBetween_19 : decode cX0_turnBetween 19 = .ok (.istore_n 3, 1) := by decide +kernel
theorem dX0_turnBetween_20 : decode cX0_turnBetween 20 = .ok (.iload_n 3, 1) := by decide +kernel
theorem dX0_turnBetween_21 : decode cX0_turnBetween 21 = .ok (.bipush 12, 2) := by decide +kernel
theorem dX0_turnBetween_23 : decode cX0_turnBetween 23 = .ok (.iload_n 3, 1) := by decide +kernel
theorem dX0_turnBetween_24 : decode cX0_turnBetween 24 = .ok (.isub, 1) := by decide +kernel
theorem dX0_turnBetween_25 : decode cX0_turnBetween 25 = .ok (.invokestatic 182, 3) := by decide +kernel
theorem dX0_turnBetween_28 : decode cX0_turnBetween 28 = .ok (.istore 4, 2) := by decide +kernel
theorem dX0_turnBetween_30 : decode cX0_turnBetween 30 = .ok (.aload_n 0, 1) := by decide +kernel
theorem dX0_turnBetween_31 : decode cX0_turnBetween 31 = .ok (.getfield 52, 3) := by decide +kernel
theorem dX0_turnBetween_34 : decode cX0_turnBetween 34 = .ok (.aload_n 0, 1) := by decide +kernel
theorem dX0_turnBetween_35 : decode cX0_turnBetween 35 = .ok (.getfield 55, 3) := by decide +kernel
theorem dX0_turnBetween_38 : decode cX0_turnBetween 38 = .ok (.iload 4, 2) := by decide +kernel
theorem dX0_turnBetween_40 : decode cX0_turnBetween 40 = .ok (.imul, 1) := by decide +kernel
theorem dX0_turnBetween_41 : decode cX0_turnBetween 41 = .ok (.iadd, 1) := by decide +kernel
theorem dX0_turnBetween_42 : decode cX0_turnBetween 42 = .ok (.iload_n 1, 1) := by decide +kernel
theorem dX0_turnBetween_43 : decode cX0_turnBetween 43 = .ok (.invokestatic 165, 3) := by decide +kernel
theorem dX0_turnBetween_46 : decode cX0_turnBetween 46 = .ok (.iload_n 2, 1) := by decide +kernel
theorem dX0_turnBetween_47 : decode cX0_turnBetween 47 = .ok (.invokestatic 165, 3) := by decide +kernel
theorem dX0_turnBetween_50 : decode cX0_turnBetween 50 = .ok (.if_icmp .eq 10, 3) := by decide +kernel
theorem dX0_turnBetween_53 : decode cX0_turnBetween 53 = .ok (.aload_n 0, 1) := by decide +kernel
theorem dX0_turnBetween_54 : decode cX0_turnBetween 54 = .ok (.getfield 58, 3) := by decide +kernel
theorem dX0_turnBetween_57 : decode cX0_turnBetween 57 = .ok (.goto 4, 3) := by decide +kernel
theorem dX0_turnBetween_60 : decode cX0_turnBetween 60 = .ok (.iconst 0, 1) := by decide +kernel
theorem dX0_turnBetween_61 : decode cX0_turnBetween 61 = .ok (.iadd, 1) := by decide +kernel
theorem dX0_turnBetween_62 : decode cX0_turnBetween 62 = .ok (.ireturn, 1) := by decide +kernel
theorem dX0_knowTails_0 : decode cX0_knowTails 0 = .ok (.aload_n 0, 1) := by decide +kernel
theorem dX0_knowTails_1 : decode cX0_knowTails 1 = .ok (.getfield 156, 3) := by decide +kernel
theorem dX0_knowTails_4 : decode cX0_knowTails 4 = .ok (.ifCond .eq 4, 3) := by decide +kernel
theorem dX0_knowTails_7 : decode cX0_knowTails 7 = .ok (.return_, 1) := by decide +kernel
theorem dX0_knowTails_8 : decode cX0_knowTails 8 = .ok (.aload_n 0, 1) := by decide +kernel
theorem dX0_knowTails_9 : decode cX0_knowTails 9 = .ok (.invokevirtual 185, 3) := by decide +kernel
theorem dX0_knowTails_12 : decode cX0_knowTails 12 = .ok (.aload_n 0, 1) := by decide +kernel
theorem dX0_knowTails_13 : decode cX0_knowTails 13 = .ok (.getfield 41, 3) := by decide +kernel
theorem dX0_knowTails_16 : decode cX0_knowTails 16 = .ok (.iconst 1, 1) := by decide +kernel
theorem dX0_knowTails_17 : decode cX0_knowTails 17 = .ok (.isub, 1) := by decide +kernel
theorem dX0_knowTails_18 : decode cX0_knowTails 18 = .ok (.istore_n 1, 1) := by decide +kernel
theorem dX0_knowTails_19 : decode cX0_knowTails 19 = .ok (.iload_n 1, 1) := by decide +kernel
theorem dX0_knowTails_20 : decode cX0_knowTails 20 = .ok (.ifCond .lt 34, 3) := by decide +kernel
theorem dX0_knowTails_23 : decode cX0_knowTails 23 = .ok (.aload_n 0, 1) := by decide +kernel
theorem dX0_knowTails_24 : decode cX0_knowTails 24 = .ok (.iload_n 1, 1) := by decide +kernel
theorem dX0_knowTails_25 : decode cX0_knowTails 25 = .ok (.invokevirtual 188, 3) := by decide +kernel
theorem dX0_knowTails_28 : decode cX0_knowTails 28 = .ok (.iconst 0, 1) := by decide +kernel
theorem dX0_knowTails_29 : decode cX0_knowTails 29 = .ok (.istore_n 2, 1) := by decide +kernel
theorem dX0_knowTails_30 : decode cX0_knowTails 30 = .ok (.iload_n 2, 1) := by decide +kernel
theorem dX0_knowTails_31 : decode cX0_knowTails 31 = .ok (.bipush 24, 2) := by decide +kernel
theorem dX0_knowTails_33 : decode cX0_knowTails 33 = .ok (.if_icmp .ge 15, 3) := by decide +kernel
theorem dX0_knowTails_36 : decode cX0_knowTails 36 = .ok (.aload_n 0, 1) := by decide +kernel
theorem dX0_knowTails_37 : decode cX0_knowTails 37 = .ok (.iload_n 1, 1) := by decide +kernel
theorem dX0_knowTails_38 : decode cX0_knowTails 38 = .ok (.iload_n 2, 1) := by decide +kernel
theorem dX0_knowTails_39 : decode cX0_knowTails 39 = .ok (.invokevirtual 191, 3) := by decide +kernel
theorem dX0_knowTails_42 : decode cX0_knowTails 42 = .ok (.iinc 2 1, 3) := by decide +kernel
theorem dX0_knowTails_45 : decode cX0_knowTails 45 = .ok (.goto (-15), 3) := by decide +kernel
theorem dX0_knowTails_48 : decode cX0_knowTails 48 = .ok (.iinc 1 (-1), 3) := by decide +kernel
theorem dX0_knowTails_51 : decode cX0_knowTails 51 = .ok (.goto (-32), 3) := by decide +kernel
theorem dX0_knowTails_54 : decode cX0_knowTails 54 = .ok (.aload_n 0, 1) := by decide +kernel
theorem dX0_knowTails_55 : decode cX0_knowTails 55 = .ok (.invokevirtual 195, 3) := by decide +kernel
theorem dX0_knowTails_58 : decode cX0_knowTails 58 = .ok (.aload_n 0, 1) := by decide +kernel
theorem dX0_knowTails_59 : decode cX0_knowTails 59 = .ok (.getfield 41, 3) := by decide +kernel
theorem dX0_knowTails_62 : decode cX0_knowTails 62 = .ok (.ifCond .le 19, 3) := by decide +kernel
theorem dX0_knowTails_65 : decode cX0_knowTails 65 = .ok (.aload_n 0, 1) := by decide +kernel
theorem dX0_knowTails_66 : decode cX0_knowTails 66 = .ok (.lconst 0, 1) := by decide +kernel
theorem dX0_knowTails_67 : decode cX0_knowTails 67 = .ok (.aload_n 0, 1) := by decide +kernel
theorem dX0_knowTails_68 : decode cX0_knowTails 68 = .ok (.getfield 41, 3) := by decide +kernel
theorem dX0_knowTails_71 : decode cX0_knowTails 71 = .ok (.iconst 1, 1) := by decide +kernel
theorem dX0_knowTails_72 : decode cX0_knowTails 72 = .ok (.isub, 1) := by decide +kernel
theorem dX0_knowTails_73 : decode cX0_knowTails 73 = .ok (.aload_n 0, 1) := by decide +kernel
theorem dX0_knowTails_74 : decode cX0_knowTails 74 = .ok (.getfield 32, 3) := by decide +kernel
theorem dX0_knowTails_77 : decode cX0_knowTails 77 = .ok (.invokevirtual 107, 3) := by decide +kernel
theorem dX0_knowTails_80 : decode cX0_knowTails 80 = .ok (.pop, 1) := by decide +kernel
theorem dX0_knowTails_81 : decode cX0_knowTails 81 = .ok (.aload_n 0, 1) := by decide +kernel
theorem dX0_knowTails_82 : decode cX0_knowTails 82 = .ok (.iconst 1, 1) := by decide +kernel
theorem dX0_knowTails_83 : decode cX0_knowTails 83 = .ok (.putfield 156, 3) := by decide +kernel
theorem dX0_knowTails_86 : decode cX0_knowTails 86 = .ok (.return_, 1) := by decide +kernel
theorem dX0_fillTurns_0 : decode cX0_fillTurns 0 = .ok (.iconst 0, 1) := by decide +kernel
theorem dX0_fillTurns_1 : decode cX0_fillTurns 1 = .ok (.istore_n 1, 1) := by decide +kernel
theorem dX0_fillTurns_2 : decode cX0_fillTurns 2 = .ok (.iload_n 1, 1) := by decide +kernel
theorem dX0_fillTurns_3 : decode cX0_fillTurns 3 = .ok (.bipush 24, 2) := by decide +kernel
theorem dX0_fillTurns_5 : decode cX0_fillTurns 5 = .ok (.if_icmp .ge 40, 3) := by decide +kernel
theorem dX0_fillTurns_8 : decode cX0_fillTurns 8 = .ok (.iconst 0, 1) := by decide +kernel
theorem dX0_fillTurns_9 : decode cX0_fillTurns 9 = .ok (.istore_n 2, 1) := by decide +kernel
theorem dX0_fillTurns_10 : decode cX0_fillTurns 10 = .ok (.iload_n 2, 1) := by decide +kernel
theorem dX0_fillTurns_11 : decode cX0_fillTurns 11 = .ok (.bipush 24, 2) := by decide +kernel
theorem dX0_fillTurns_13 : decode cX0_fillTurns 13 = .ok (.if_icmp .ge 26, 3) := by decide +kernel
theorem dX0_fillTurns_16 : decode cX0_fillTurns 16 = .ok (.aload_n 0, 1) := by decide +kernel
theorem dX0_fillTurns_17 : decode cX0_fillTurns 17 = .ok (.getfield 16, 3) := by decide +kernel
theorem dX0_fillTurns_20 : decode cX0_fillTurns 20 = .ok (.iload_n 1, 1) := by decide +kernel
theorem dX0_fillTurns_21 : decode cX0_fillTurns 21 = .ok (.bipush 24, 2) := by decide +kernel
theorem dX0_fillTurns_23 : decode cX0_fillTurns 23 = .ok (.imul, 1) := by decide +kernel
theorem dX0_fillTurns_24 : decode cX0_fillTurns 24 = .ok (.iload_n 2, 1) := by decide +kernel
theorem dX0_fillTurns_25 : decode cX0_fillTurns 25 = .ok (.iadd, 1) := by decide +kernel
theorem dX0_fillTurns_26 : decode cX0_fillTurns 26 = .ok (.aload_n 0, 1) := by decide +kernel
theorem dX0_fillTurns_27 : decode cX0_fillTurns 27 = .ok (.iload_n 1, 1) := by decide +kernel
theorem dX0_fillTurns_28 : decode cX0_fillTurns 28 = .ok (.iload_n 2, 1) := by decide +kernel
theorem dX0_fillTurns_29 : decode cX0_fillTurns 29 = .ok (.invokevirtual 87, 3) := by decide +kernel
theorem dX0_fillTurns_32 : decode cX0_fillTurns 32 = .ok (.iastore, 1) := by decide +kernel
theorem dX0_fillTurns_33 : decode cX0_fillTurns 33 = .ok (.iinc 2 1, 3) := by decide +kernel
theorem dX0_fillTurns_36 : decode cX0_fillTurns 36 = .ok (.goto (-26), 3) := by decide +kernel
theorem dX0_fillTurns_39 : decode cX0_fillTurns 39 = .ok (.iinc 1 1, 3) := by decide +kernel
theorem dX0_fillTurns_42 : decode cX0_fillTurns 42 = .ok (.goto (-40), 3) := by decide +kernel
theorem dX0_fillTurns_45 : decode cX0_fillTurns 45 = .ok (.return_, 1) := by decide +kernel
theorem dX0_fillSliceCosts_0 : decode cX0_fillSliceCosts 0 = .ok (.iconst 0, 1) := by decide +kernel
theorem dX0_fillSliceCosts_1 : decode cX0_fillSliceCosts 1 = .ok (.istore_n 2, 1) := by decide +kernel
theorem dX0_fillSliceCosts_2 : decode cX0_fillSliceCosts 2 = .ok (.iconst 0, 1) := by decide +kernel
theorem dX0_fillSliceCosts_3 : decode cX0_fillSliceCosts 3 = .ok (.istore_n 3, 1) := by decide +kernel
theorem dX0_fillSliceCosts_4 : decode cX0_fillSliceCosts 4 = .ok (.iload_n 3, 1) := by decide +kernel
theorem dX0_fillSliceCosts_5 : decode cX0_fillSliceCosts 5 = .ok (.bipush 24, 2) := by decide +kernel
theorem dX0_fillSliceCosts_7 : decode cX0_fillSliceCosts 7 = .ok (.if_icmp .ge 37, 3) := by decide +kernel
theorem dX0_fillSliceCosts_10 : decode cX0_fillSliceCosts 10 = .ok (.aload_n 0, 1) := by decide +kernel
theorem dX0_fillSliceCosts_11 : decode cX0_fillSliceCosts 11 = .ok (.iload_n 1, 1) := by decide +kernel
theorem dX0_fillSliceCosts_12 : decode cX0_fillSliceCosts 12 = .ok (.iload_n 3, 1) := by decide +kernel
theorem dX0_fillSliceCosts_13 : decode cX0_fillSliceCosts 13 = .ok (.invokevirtual 79, 3) := by decide +kernel
theorem dX0_fillSliceCosts_16 : decode cX0_fillSliceCosts 16 = .ok (.istore 4, 2) := by decide +kernel
theorem dX0_fillSliceCosts_18 : decode cX0_fillSliceCosts 18 = .ok (.aload_n 0, 1) := by decide +kernel
theorem dX0_fillSliceCosts_19 : decode cX0_fillSliceCosts 19 = .ok (.getfield 19, 3) := by decide +kernel
theorem dX0_fillSliceCosts_22 : decode cX0_fillSliceCosts 22 = .ok (.iload_n 1, 1) := by decide +kernel
theorem dX0_fillSliceCosts_23 : decode cX0_fillSliceCosts 23 = .ok (.bipush 24, 2) := by decide +kernel
theorem dX0_fillSliceCosts_25 : decode cX0_fillSliceCosts 25 = .ok (.imul, 1) := by decide +kernel
theorem dX0_fillSliceCosts_26 : decode cX0_fillSliceCosts 26 = .ok (.iload_n 3, 1) := by decide +kernel
theorem dX0_fillSliceCosts_27 : decode cX0_fillSliceCosts 27 = .ok (.iadd, 1) := by decide +kernel
theorem dX0_fillSliceCosts_28 : decode cX0_fillSliceCosts 28 = .ok (.iload 4, 2) := by decide +kernel
theorem dX0_fillSliceCosts_30 : decode cX0_fillSliceCosts 30 = .ok (.iastore, 1) := by decide +kernel
theorem dX0_fillSliceCosts_31 : decode cX0_fillSliceCosts 31 = .ok (.iload_n 2, 1) := by decide +kernel
theorem dX0_fillSliceCosts_32 : decode cX0_fillSliceCosts 32 = .ok (.iload 4, 2) := by decide +kernel
theorem dX0_fillSliceCosts_34 : decode cX0_fillSliceCosts 34 = .ok (.invokestatic 171, 3) := by decide +kernel
theorem dX0_fillSliceCosts_37 : decode cX0_fillSliceCosts 37 = .ok (.istore_n 2, 1) := by decide +kernel
theorem dX0_fillSliceCosts_38 : decode cX0_fillSliceCosts 38 = .ok (.iinc 3 1, 3) := by decide +kernel
theorem dX0_fillSliceCosts_41 : decode cX0_fillSliceCosts 41 = .ok (.goto (-37), 3) := by decide +kernel
theorem dX0_fillSliceCosts_44 : decode cX0_fillSliceCosts 44 = .ok (.iconst 0, 1) := by decide +kernel
theorem dX0_fillSliceCosts_45 : decode cX0_fillSliceCosts 45 = .ok (.istore_n 3, 1) := by decide +kernel
theorem dX0_fillSliceCosts_46 : decode cX0_fillSliceCosts 46 = .ok (.iload_n 3, 1) := by decide +kernel
theorem dX0_fillSliceCosts_47 : decode cX0_fillSliceCosts 47 = .ok (.bipush 24, 2) := by decide +kernel
theorem dX0_fillSliceCosts_49 : decode cX0_fillSliceCosts 49 = .ok (.if_icmp .ge 33, 3) := by decide +kernel
theorem dX0_fillSliceCosts_52 : decode cX0_fillSliceCosts 52 = .ok (.aload_n 0, 1) := by decide +kernel
theorem dX0_fillSliceCosts_53 : decode cX0_fillSliceCosts 53 = .ok (.getfield 19, 3) := by decide +kernel
theorem dX0_fillSliceCosts_56 : decode cX0_fillSliceCosts 56 = .ok (.iload_n 1, 1) := by decide +kernel
theorem dX0_fillSliceCosts_57 : decode cX0_fillSliceCosts 57 = .ok (.bipush 24, 2) := by decide +kernel
theorem dX0_fillSliceCosts_59 : decode cX0_fillSliceCosts 59 = .ok (.imul, 1) := by decide +kernel
theorem dX0_fillSliceCosts_60 : decode cX0_fillSliceCosts 60 = .ok (.iload_n 3, 1) := by decide +kernel
theorem dX0_fillSliceCosts_61 : decode cX0_fillSliceCosts 61 = .ok (.iadd, 1) := by decide +kernel
theorem dX0_fillSliceCosts_62 : decode cX0_fillSliceCosts 62 = .ok (.iload_n 2, 1) := by decide +kernel
theorem dX0_fillSliceCosts_63 : decode cX0_fillSliceCosts 63 = .ok (.aload_n 0, 1) := by decide +kernel
theorem dX0_fillSliceCosts_64 : decode cX0_fillSliceCosts 64 = .ok (.getfield 19, 3) := by decide +kernel
theorem dX0_fillSliceCosts_67 : decode cX0_fillSliceCosts 67 = .ok (.iload_n 1, 1) := by decide +kernel
theorem dX0_fillSliceCosts_68 : decode cX0_fillSliceCosts 68 = .ok (.bipush 24, 2) := by decide +kernel
theorem dX0_fillSliceCosts_70 : decode cX0_fillSliceCosts 70 = .ok (.imul, 1) := by decide +kernel
theorem dX0_fillSliceCosts_71 : decode cX0_fillSliceCosts 71 = .ok (.iload_n 3, 1) := by decide +kernel
theorem dX0_fillSliceCosts_72 : decode cX0_fillSliceCosts 72 = .ok (.iadd, 1) := by decide +kernel
theorem dX0_fillSliceCosts_73 : decode cX0_fillSliceCosts 73 = .ok (.iaload, 1) := by decide +kernel
theorem dX0_fillSliceCosts_74 : decode cX0_fillSliceCosts 74 = .ok (.isub, 1) := by decide +kernel
theorem dX0_fillSliceCosts_75 : decode cX0_fillSliceCosts 75 = .ok (.iastore, 1) := by decide +kernel
theorem dX0_fillSliceCosts_76 : decode cX0_fillSliceCosts 76 = .ok (.iinc 3 1, 3) := by decide +kernel
theorem dX0_fillSliceCosts_79 : decode cX0_fillSliceCosts 79 = .ok (.goto (-33), 3) := by decide +kernel
theorem dX0_fillSliceCosts_82 : decode cX0_fillSliceCosts 82 = .ok (.return_, 1) := by decide +kernel
theorem dX0_fillTail_0 : decode cX0_fillTail 0 = .ok (.iload_n 1, 1) := by decide +kernel
theorem dX0_fillTail_1 : decode cX0_fillTail 1 = .ok (.bipush 24, 2) := by decide +kernel
theorem dX0_fillTail_3 : decode cX0_fillTail 3 = .ok (.imul, 1) := by decide +kernel
theorem dX0_fillTail_4 : decode cX0_fillTail 4 = .ok (.iload_n 2, 1) := by decide +kernel
theorem dX0_fillTail_5 : decode cX0_fillTail 5 = .ok (.iadd, 1) := by decide +kernel
theorem dX0_fillTail_6 : decode cX0_fillTail 6 = .ok (.istore_n 3, 1) := by decide +kernel
theorem dX0_fillTail_7 : decode cX0_fillTail 7 = .ok (.iload_n 1, 1) := by decide +kernel
theorem dX0_fillTail_8 : decode cX0_fillTail 8 = .ok (.aload_n 0, 1) := by decide +kernel
theorem dX0_fillTail_9 : decode cX0_fillTail 9 = .ok (.getfield 41, 3) := by decide +kernel
theorem dX0_fillTail_12 : decode cX0_fillTail 12 = .ok (.iconst 1, 1) := by decide +kernel
theorem dX0_fillTail_13 : decode cX0_fillTail 13 = .ok (.isub, 1) := by decide +kernel
theorem dX0_fillTail_14 : decode cX0_fillTail 14 = .ok (.if_icmp .ne 23, 3) := by decide +kernel
theorem dX0_fillTail_17 : decode cX0_fillTail 17 = .ok (.aload_n 0, 1) := by decide +kernel
theorem dX0_fillTail_18 : decode cX0_fillTail 18 = .ok (.getfield 22, 3) := by decide +kernel
theorem dX0_fillTail_21 : decode cX0_fillTail 21 = .ok (.iload_n 3, 1) := by decide +kernel
theorem dX0_fillTail_22 : decode cX0_fillTail 22 = .ok (.aload_n 0, 1) := by decide +kernel
theorem dX0_fillTail_23 : decode cX0_fillTail 23 = .ok (.getfield 19, 3) := by decide +kernel
theorem dX0_fillTail_26 : decode cX0_fillTail 26 = .ok (.iload_n 3, 1) := by decide +kernel
theorem dX0_fillTail_27 : decode cX0_fillTail 27 = .ok (.iaload, 1) := by decide +kernel
theorem dX0_fillTail_28 : decode cX0_fillTail 28 = .ok (.iastore, 1) := by decide +kernel
theorem dX0_fillTail_29 : decode cX0_fillTail 29 = .ok (.aload_n 0, 1) := by decide +kernel
theorem dX0_fillTail_30 : decode cX0_fillTail 30 = .ok (.getfield 25, 3) := by decide +kernel
theorem dX0_fillTail_33 : decode cX0_fillTail 33 = .ok (.iload_n 3, 1) := by decide +kernel
theorem dX0_fillTail_34 : decode cX0_fillTail 34 = .ok (.lconst 1, 1) := by decide +kernel
theorem dX0_fillTail_35 : decode cX0_fillTail 35 = .ok (.lastore, 1) := by decide +kernel
theorem dX0_fillTail_36 : decode cX0_fillTail 36 = .ok (.return_, 1) := by decide +kernel
theorem dX0_fillTail_37 : decode cX0_fillTail 37 = .ok (.ldc 198, 2) := by decide +kernel
theorem dX0_fillTail_39 : decode cX0_fillTail 39 = .ok (.istore 4, 2) := by decide +kernel
theorem dX0_fillTail_41 : decode cX0_fillTail 41 = .ok (.lconst 0, 1) := by decide +kernel
theorem dX0_fillTail_42 : decode cX0_fillTail 42 = .ok (.lstore 5, 2) := by decide +kernel
theorem dX0_fillTail_44 : decode cX0_fillTail 44 = .ok (.iconst 0, 1) := by decide +kernel
theorem dX0_fillTail_45 : decode cX0_fillTail 45 = .ok (.istore 7, 2) := by decide +kernel
theorem dX0_fillTail_47 : decode cX0_fillTail 47 = .ok (.iload 7, 2) := by decide +kernel
theorem dX0_fillTail_49 : decode cX0_fillTail 49 = .ok (.bipush 24, 2) := by decide +kernel
theorem dX0_fillTail_51 : decode cX0_fillTail 51 = .ok (.if_icmp .ge 86, 3) := by decide +kernel
theorem dX0_fillTail_54 : decode cX0_fillTail 54 = .ok (.iload_n 3, 1) := by decide +kernel
theorem dX0_fillTail_55 : decode cX0_fillTail 55 = .ok (.iload_n 2, 1) := by decide +kernel
theorem dX0_fillTail_56 : decode cX0_fillTail 56 = .ok (.isub, 1) := by decide +kernel
theorem dX0_fillTail_57 : decode cX0_fillTail 57 = .ok (.bipush 24, 2) := by decide +kernel
theorem dX0_fillTail_59 : decode cX0_fillTail 59 = .ok (.iadd, 1) := by decide +kernel
theorem dX0_fillTail_60 : decode cX0_fillTail 60 = .ok (.iload 7, 2) := by decide +kernel
theorem dX0_fillTail_62 : decode cX0_fillTail 62 = .ok (.iadd, 1) := by decide +kernel
theorem dX0_fillTail_63 : decode cX0_fillTail 63 = .ok (.istore 8, 2) := by decide +kernel
theorem dX0_fillTail_65 : decode cX0_fillTail 65 = .ok (.aload_n 0, 1) := by decide +kernel
theorem dX0_fillTail_66 : decode cX0_fillTail 66 = .ok (.getfield 16, 3) := by decide +kernel
theorem dX0_fillTail_69 : decode cX0_fillTail 69 = .ok (.iload_n 2, 1) := by decide +kernel
theorem dX0_fillTail_70 : decode cX0_fillTail 70 = .ok (.bipush 24, 2) := by decide +kernel
theorem dX0_fillTail_72 : decode cX0_fillTail 72 = .ok (.imul, 1) := by decide +kernel
theorem dX0_fillTail_73 : decode cX0_fillTail 73 = .ok (.iload 7, 2) := by decide +kernel
theorem dX0_fillTail_75 : decode cX0_fillTail 75 = .ok (.iadd, 1) := by decide +kernel
theorem dX0_fillTail_76 : decode cX0_fillTail 76 = .ok (.iaload, 1) := by decide +kernel
theorem dX0_fillTail_77 : decode cX0_fillTail 77 = .ok (.aload_n 0, 1) := by decide +kernel
theorem dX0_fillTail_78 : decode cX0_fillTail 78 = .ok (.getfield 22, 3) := by decide +kernel
theorem dX0_fillTail_81 : decode cX0_fillTail 81 = .ok (.iload 8, 2) := by decide +kernel
theorem dX0_fillTail_83 : decode cX0_fillTail 83 = .ok (.iaload, 1) := by decide +kernel
theorem dX0_fillTail_84 : decode cX0_fillTail 84 = .ok (.iadd, 1) := by decide +kernel
theorem dX0_fillTail_85 : decode cX0_fillTail 85 = .ok (.istore 9, 2) := by decide +kernel
theorem dX0_fillTail_87 : decode cX0_fillTail 87 = .ok (.iload 9, 2) := by decide +kernel
theorem dX0_fillTail_89 : decode cX0_fillTail 89 = .ok (.iload 4, 2) := by decide +kernel
theorem dX0_fillTail_91 : decode cX0_fillTail 91 = .ok (.if_icmp .ge 19, 3) := by decide +kernel
theorem dX0_fillTail_94 : decode cX0_fillTail 94 = .ok (.iload 9, 2) := by decide +kernel
theorem dX0_fillTail_96 : decode cX0_fillTail 96 = .ok (.istore 4, 2) := by decide +kernel
theorem dX0_fillTail_98 : decode cX0_fillTail 98 = .ok (.aload_n 0, 1) := by decide +kernel
theorem dX0_fillTail_99 : decode cX0_fillTail 99 = .ok (.getfield 25, 3) := by decide +kernel
theorem dX0_fillTail_102 : decode cX0_fillTail 102 = .ok (.iload 8, 2) := by decide +kernel
theorem dX0_fillTail_104 : decode cX0_fillTail 104 = .ok (.laload, 1) := by decide +kernel
theorem dX0_fillTail_105 : decode cX0_fillTail 105 = .ok (.lstore 5, 2) := by decide +kernel
theorem dX0_fillTail_107 : decode cX0_fillTail 107 = .ok (.goto 24, 3) := by decide +kernel
theorem dX0_fillTail_110 : decode cX0_fillTail 110 = .ok (.iload 9, 2) := by decide +kernel
theorem dX0_fillTail_112 : decode cX0_fillTail 112 = .ok (.iload 4, 2) := by decide +kernel
theorem dX0_fillTail_114 : decode cX0_fillTail 114 = .ok (.if_icmp .ne 17, 3) := by decide +kernel
theorem dX0_fillTail_117 : decode cX0_fillTail 117 = .ok (.lload 5, 2) := by decide +kernel
theorem dX0_fillTail_119 : decode cX0_fillTail 119 = .ok (.aload_n 0, 1) := by decide +kernel
theorem dX0_fillTail_120 : decode cX0_fillTail 120 = .ok (.getfield 25, 3) := by decide +kernel
theorem dX0_fillTail_123 : decode cX0_fillTail 123 = .ok (.iload 8, 2) := by decide +kernel
theorem dX0_fillTail_125 : decode cX0_fillTail 125 = .ok (.laload, 1) := by decide +kernel
theorem dX0_fillTail_126 : decode cX0_fillTail 126 = .ok (.invokestatic 199, 3) := by decide +kernel
theorem dX0_fillTail_129 : decode cX0_fillTail 129 = .ok (.lstore 5, 2) := by decide +kernel
theorem dX0_fillTail_131 : decode cX0_fillTail 131 = .ok (.iinc 7 1, 3) := by decide +kernel
theorem dX0_fillTail_134 : decode cX0_fillTail 134 = .ok (.goto (-87), 3) := by decide +kernel
theorem dX0_fillTail_137 : decode cX0_fillTail 137 = .ok (.aload_n 0, 1) := by decide +kernel
theorem dX0_fillTail_138 : decode cX0_fillTail 138 = .ok (.getfield 22, 3) := by decide +kernel
theorem dX0_fillTail_141 : decode cX0_fillTail 141 = .ok (.iload_n 3, 1) := by decide +kernel
theorem dX0_fillTail_142 : decode cX0_fillTail 142 = .ok (.aload_n 0, 1) := by decide +kernel
theorem dX0_fillTail_143 : decode cX0_fillTail 143 = .ok (.getfield 19, 3) := by decide +kernel
theorem dX0_fillTail_146 : decode cX0_fillTail 146 = .ok (.iload_n 3, 1) := by decide +kernel
theorem dX0_fillTail_147 : decode cX0_fillTail 147 = .ok (.iaload, 1) := by decide +kernel
theorem dX0_fillTail_148 : decode cX0_fillTail 148 = .ok (.iload 4, 2) := by decide +kernel
theorem dX0_fillTail_150 : decode cX0_fillTail 150 = .ok (.iadd, 1) := by decide +kernel
theorem dX0_fillTail_151 : decode cX0_fillTail 151 = .ok (.iastore, 1) := by decide +kernel
theorem dX0_fillTail_152 : decode cX0_fillTail 152 = .ok (.aload_n 0, 1) := by decide +kernel
theorem dX0_fillTail_153 : decode cX0_fillTail 153 = .ok (.getfield 25, 3) := by decide +kernel
theorem dX0_fillTail_156 : decode cX0_fillTail 156 = .ok (.iload_n 3, 1) := by decide +kernel
theorem dX0_fillTail_157 : decode cX0_fillTail 157 = .ok (.lload 5, 2) := by decide +kernel
theorem dX0_fillTail_159 : decode cX0_fillTail 159 = .ok (.lastore, 1) := by decide +kernel
theorem dX0_fillTail_160 : decode cX0_fillTail 160 = .ok (.return_, 1) := by decide +kernel
theorem dX0_fillLeast_0 : decode cX0_fillLeast 0 = .ok (.aload_n 0, 1) := by decide +kernel
theorem dX0_fillLeast_1 : decode cX0_fillLeast 1 = .ok (.iconst 0, 1) := by decide +kernel
theorem dX0_fillLeast_2 : decode cX0_fillLeast 2 = .ok (.putfield 93, 3) := by decide +kernel
theorem dX0_fillLeast_5 : decode cX0_fillLeast 5 = .ok (.aload_n 0, 1) := by decide +kernel
theorem dX0_fillLeast_6 : decode cX0_fillLeast 6 = .ok (.lconst 1, 1) := by decide +kernel
theorem dX0_fillLeast_7 : decode cX0_fillLeast 7 = .ok (.putfield 96, 3) := by decide +kernel
theorem dX0_fillLeast_10 : decode cX0_fillLeast 10 = .ok (.aload_n 0, 1) := by decide +kernel
theorem dX0_fillLeast_11 : decode cX0_fillLeast 11 = .ok (.getfield 41, 3) := by decide +kernel
theorem dX0_fillLeast_14 : decode cX0_fillLeast 14 = .ok (.ifCond .ne 4, 3) := by decide +kernel
theorem dX0_fillLeast_17 : decode cX0_fillLeast 17 = .ok (.return_, 1) := by decide +kernel
theorem dX0_fillLeast_18 : decode cX0_fillLeast 18 = .ok (.aload_n 0, 1) := by decide +kernel
theorem dX0_fillLeast_19 : decode cX0_fillLeast 19 = .ok (.aload_n 0, 1) := by decide +kernel
theorem dX0_fillLeast_20 : decode cX0_fillLeast 20 = .ok (.getfield 22, 3) := by decide +kernel
theorem dX0_fillLeast_23 : decode cX0_fillLeast 23 = .ok (.iconst 0, 1) := by decide +kernel
theorem dX0_fillLeast_24 : decode cX0_fillLeast 24 = .ok (.iaload, 1) := by decide +kernel
theorem dX0_fillLeast_25 : decode cX0_fillLeast 25 = .ok (.putfield 93, 3) := by decide +kernel
theorem dX0_fillLeast_28 : decode cX0_fillLeast 28 = .ok (.iconst 1, 1) := by decide +kernel
theorem dX0_fillLeast_29 : decode cX0_fillLeast 29 = .ok (.istore_n 1, 1) := by decide +kernel
theorem dX0_fillLeast_30 : decode cX0_fillLeast 30 = .ok (.iload_n 1, 1) := by decide +kernel
theorem dX0_fillLeast_31 : decode cX0_fillLeast 31 = .ok (.bipush 24, 2) := by decide +kernel
theorem dX0_fillLeast_33 : decode cX0_fillLeast 33 = .ok (.if_icmp .ge 26, 3) := by decide +kernel
theorem dX0_fillLeast_36 : decode cX0_fillLeast 36 = .ok (.aload_n 0, 1) := by decide +kernel
theorem dX0_fillLeast_37 : decode cX0_fillLeast 37 = .ok (.aload_n 0, 1) := by decide +kernel
theorem dX0_fillLeast_38 : decode cX0_fillLeast 38 = .ok (.getfield 93, 3) := by decide +kernel
theorem dX0_fillLeast_41 : decode cX0_fillLeast 41 = .ok (.aload_n 0, 1) := by decide +kernel
theorem dX0_fillLeast_42 : decode cX0_fillLeast 42 = .ok (.getfield 22, 3) := by decide +kernel
theorem dX0_fillLeast_45 : decode cX0_fillLeast 45 = .ok (.iload_n 1, 1) := by decide +kernel
theorem dX0_fillLeast_46 : decode cX0_fillLeast 46 = .ok (.iaload, 1) := by decide +kernel
theorem dX0_fillLeast_47 : decode cX0_fillLeast 47 = .ok (.invokestatic 182, 3) := by decide +kernel
theorem dX0_fillLeast_50 : decode cX0_fillLeast 50 = .ok (.putfield 93, 3) := by decide +kernel
theorem dX0_fillLeast_53 : decode cX0_fillLeast 53 = .ok (.iinc 1 1, 3) := by decide +kernel
theorem dX0_fillLeast_56 : decode cX0_fillLeast 56 = .ok (.goto (-26), 3) := by decide +kernel
theorem dX0_fillLeast_59 : decode cX0_fillLeast 59 = .ok (.aload_n 0, 1) := by decide +kernel
theorem dX0_fillLeast_60 : decode cX0_fillLeast 60 = .ok (.lconst 0, 1) := by decide +kernel
theorem dX0_fillLeast_61 : decode cX0_fillLeast 61 = .ok (.putfield 96, 3) := by decide +kernel
theorem dX0_fillLeast_64 : decode cX0_fillLeast 64 = .ok (.iconst 0, 1) := by decide +kernel
theorem dX0_fillLeast_65 : decode cX0_fillLeast 65 = .ok (.istore_n 1, 1) := by decide +kernel
theorem dX0_fillLeast_66 : decode cX0_fillLeast 66 = .ok (.iload_n 1, 1) := by decide +kernel
theorem dX0_fillLeast_67 : decode cX0_fillLeast 67 = .ok (.bipush 24, 2) := by decide +kernel
theorem dX0_fillLeast_69 : decode cX0_fillLeast 69 = .ok (.if_icmp .ge 39, 3) := by decide +kernel
theorem dX0_fillLeast_72 : decode cX0_fillLeast 72 = .ok (.aload_n 0, 1) := by decide +kernel
theorem dX0_fillLeast_73 : decode cX0_fillLeast 73 = .ok (.getfield 22, 3) := by decide +kernel
theorem dX0_fillLeast_76 : decode cX0_fillLeast 76 = .ok (.iload_n 1, 1) := by decide +kernel
theorem dX0_fillLeast_77 : decode cX0_fillLeast 77 = .ok (.iaload, 1) := by decide +kernel
theorem dX0_fillLeast_78 : decode cX0_fillLeast 78 = .ok (.aload_n 0, 1) := by decide +kernel
theorem dX0_fillLeast_79 : decode cX0_fillLeast 79 = .ok (.getfield 93, 3) := by decide +kernel
theorem dX0_fillLeast_82 : decode cX0_fillLeast 82 = .ok (.if_icmp .ne 20, 3) := by decide +kernel
theorem dX0_fillLeast_85 : decode cX0_fillLeast 85 = .ok (.aload_n 0, 1) := by decide +kernel
theorem dX0_fillLeast_86 : decode cX0_fillLeast 86 = .ok (.aload_n 0, 1) := by decide +kernel
theorem dX0_fillLeast_87 : decode cX0_fillLeast 87 = .ok (.getfield 96, 3) := by decide +kernel
theorem dX0_fillLeast_90 : decode cX0_fillLeast 90 = .ok (.aload_n 0, 1) := by decide +kernel
theorem dX0_fillLeast_91 : decode cX0_fillLeast 91 = .ok (.getfield 25, 3) := by decide +kernel
theorem dX0_fillLeast_94 : decode cX0_fillLeast 94 = .ok (.iload_n 1, 1) := by decide +kernel
theorem dX0_fillLeast_95 : decode cX0_fillLeast 95 = .ok (.laload, 1) := by decide +kernel
theorem dX0_fillLeast_96 : decode cX0_fillLeast 96 = .ok (.invokestatic 199, 3) := by decide +kernel
theorem dX0_fillLeast_99 : decode cX0_fillLeast 99 = .ok (.putfield 96, 3) := by decide +kernel
theorem dX0_fillLeast_102 : decode cX0_fillLeast 102 = .ok (.iinc 1 1, 3) := by decide +kernel
theorem dX0_fillLeast_105 : decode cX0_fillLeast 105 = .ok (.goto (-39), 3) := by decide +kernel
theorem dX0_fillLeast_108 : decode cX0_fillLeast 108 = .ok (.return_, 1) := by decide +kernel
theorem dX0_cappedSum_0 : decode cX0_cappedSum 0 = .ok (.lload_n 0, 1) := by decide +kernel
theorem dX0_cappedSum_1 : decode cX0_cappedSum 1 = .ok (.lload_n 2, 1) := by decide +kernel
theorem dX0_cappedSum_2 : decode cX0_cappedSum 2 = .ok (.ladd, 1) := by decide +kernel
theorem dX0_cappedSum_3 : decode cX0_cappedSum 3 = .ok (.ldc2_w 100, 3) := by decide +kernel
theorem dX0_cappedSum_6 : decode cX0_cappedSum 6 = .ok (.invokestatic 203, 3) := by decide +kernel
theorem dX0_cappedSum_9 : decode cX0_cappedSum 9 = .ok (.lreturn, 1) := by decide +kernel
theorem dX0_followBest_0 : decode cX0_followBest 0 = .ok (.lload_n 1, 1) := by decide +kernel
theorem dX0_followBest_1 : decode cX0_followBest 1 = .ok (.lstore 5, 2) := by decide +kernel
theorem dX0_followBest_3 : decode cX0_followBest 3 = .ok (.iconst (-1), 1) := by decide +kernel
theorem dX0_followBest_4 : decode cX0_followBest 4 = .ok (.istore 7, 2) := by decide +kernel
theorem dX0_followBest_6 : decode cX0_followBest 6 = .ok (.iconst 0, 1) := by decide +kernel
theorem dX0_followBest_7 : decode cX0_followBest 7 = .ok (.istore 8, 2) := by decide +kernel
theorem dX0_followBest_9 : decode cX0_followBest 9 = .ok (.iload 8, 2) := by decide +kernel
theorem dX0_followBest_11 : decode cX0_followBest 11 = .ok (.iload_n 3, 1) := by decide +kernel
theorem dX0_followBest_12 : decode cX0_followBest 12 = .ok (.if_icmp .gt 128, 3) := by decide +kernel
theorem dX0_followBest_15 : decode cX0_followBest 15 = .ok (.aload_n 0, 1) := by decide +kernel
theorem dX0_followBest_16 : decode cX0_followBest 16 = .ok (.iload 8, 2) := by decide +kernel
theorem dX0_followBest_18 : decode cX0_followBest 18 = .ok (.iconst 1, 1) := by decide +kernel
theorem dX0_followBest_19 : decode cX0_followBest 19 = .ok (.isub, 1) := by decide +kernel
theorem dX0_followBest_20 : decode cX0_followBest 20 = .ok (.iload 7, 2) := by decide +kernel
theorem dX0_followBest_22 : decode cX0_followBest 22 = .ok (.invokevirtual 205, 3) := by decide +kernel
theorem dX0_followBest_25 : decode cX0_followBest 25 = .ok (.istore 9, 2) := by decide +kernel
theorem dX0_followBest_27 : decode cX0_followBest 27 = .ok (.iconst (-1), 1) := by decide +kernel
theorem dX0_followBest_28 : decode cX0_followBest 28 = .ok (.istore 10, 2) := by decide +kernel
theorem dX0_followBest_30 : decode cX0_followBest 30 = .ok (.iconst 0, 1) := by decide +kernel
theorem dX0_followBest_31 : decode cX0_followBest 31 = .ok (.istore 11, 2) := by decide +kernel
theorem dX0_followBest_33 : decode cX0_followBest 33 = .ok (.iload 11, 2) := by decide +kernel
theorem dX0_followBest_35 : decode cX0_followBest 35 = .ok (.bipush 24, 2) := by decide +kernel
theorem dX0_followBest_37 : decode cX0_followBest 37 = .ok (.if_icmp .ge 78, 3) := by decide +kernel
theorem dX0_followBest_40 : decode cX0_followBest 40 = .ok (.iload 10, 2) := by decide +kernel
theorem dX0_followBest_42 : decode cX0_followBest 42 = .ok (.iconst (-1), 1) := by decide +kernel
theorem dX0_followBest_43 : decode cX0_followBest 43 = .ok (.if_icmp .ne 72, 3) := by decide +kernel
theorem dX0_followBest_46 : decode cX0_followBest 46 = .ok (.iload 8, 2) := by decide +kernel
theorem dX0_followBest_48 : decode cX0_followBest 48 = .ok (.bipush 24, 2) := by decide +kernel
theorem dX0_followBest_50 : decode cX0_followBest 50 = .ok (.imul, 1) := by decide +kernel
theorem dX0_followBest_51 : decode cX0_followBest 51 = .ok (.iload 11, 2) := by decide +kernel
theorem dX0_followBest_53 : decode cX0_followBest 53 = .ok (.iadd, 1) := by decide +kernel
theorem dX0_followBest_54 : decode cX0_followBest 54 = .ok (.istore 12, 2) := by decide +kernel
theorem dX0_followBest_56 : decode cX0_followBest 56 = .ok (.aload_n 0, 1) := by decide +kernel
theorem dX0_followBest_57 : decode cX0_followBest 57 = .ok (.iload 7, 2) := by decide +kernel
theorem dX0_followBest_59 : decode cX0_followBest 59 = .ok (.iload 11, 2) := by decide +kernel
theorem dX0_followBest_61 : decode cX0_followBest 61 = .ok (.invokevirtual 208, 3) := by decide +kernel
theorem dX0_followBest_64 : decode cX0_followBest 64 = .ok (.aload_n 0, 1) := by decide +kernel
theorem dX0_followBest_65 : decode cX0_followBest 65 = .ok (.getfield 22, 3) := by decide +kernel
theorem dX0_followBest_68 : decode cX0_followBest 68 = .ok (.iload 12, 2) := by decide +kernel
theorem dX0_followBest_70 : decode cX0_followBest 70 = .ok (.iaload, 1) := by decide +kernel
theorem dX0_followBest_71 : decode cX0_followBest 71 = .ok (.iadd, 1) := by decide +kernel
theorem dX0_followBest_72 : decode cX0_followBest 72 = .ok (.iload 9, 2) := by decide +kernel
theorem dX0_followBest_74 : decode cX0_followBest 74 = .ok (.if_icmp .ne 35, 3) := by decide +kernel
theorem dX0_followBest_77 : decode cX0_followBest 77 = .ok (.lload 5, 2) := by decide +kernel
theorem dX0_followBest_79 : decode cX0_followBest 79 = .ok (.aload_n 0, 1) := by decide +kernel
theorem dX0_followBest_80 : decode cX0_followBest 80 = .ok (.getfield 25, 3) := by decide +kernel
theorem dX0_followBest_83 : decode cX0_followBest 83 = .ok (.iload 12, 2) := by decide +kernel
theorem dX0_followBest_85 : decode cX0_followBest 85 = .ok (.laload, 1) := by decide +kernel
theorem dX0_followBest_86 : decode cX0_followBest 86 = .ok (.lcmp, 1) := by decide +kernel
theorem dX0_followBest_87 : decode cX0_followBest 87 = .ok (.ifCond .ge 10, 3) := by decide +kernel
theorem dX0_followBest_90 : decode cX0_followBest 90 = .ok (.iload 11, 2) := by decide +kernel
theorem dX0_followBest_92 : decode cX0_followBest 92 = .ok (.istore 10, 2) := by decide +kernel
theorem dX0_followBest_94 : decode cX0_followBest 94 = .ok (.goto 15, 3) := by decide +kernel
theorem dX0_followBest_97 : decode cX0_followBest 97 = .ok (.lload 5, 2) := by decide +kernel
theorem dX0_followBest_99 : decode cX0_followBest 99 = .ok (.aload_n 0, 1) := by decide +kernel
theorem dX0_followBest_100 : decode cX0_followBest 100 = .ok (.getfield 25, 3) := by decide +kernel
theorem dX0_followBest_103 : decode cX0_followBest 103 = .ok (.iload 12, 2) := by decide +kernel
theorem dX0_followBest_105 : decode cX0_followBest 105 = .ok (.laload, 1) := by decide +kernel
theorem dX0_followBest_106 : decode cX0_followBest 106 = .ok (.lsub, 1) := by decide +kernel
theorem dX0_followBest_107 : decode cX0_followBest 107 = .ok (.lstore 5, 2) := by decide +kernel
theorem dX0_followBest_109 : decode cX0_followBest 109 = .ok (.iinc 11 1, 3) := by decide +kernel
theorem dX0_followBest_112 : decode cX0_followBest 112 = .ok (.goto (-79), 3) := by decide +kernel
theorem dX0_followBest_115 : decode cX0_followBest 115 = .ok (.iload 10, 2) := by decide +kernel
theorem dX0_followBest_117 : decode cX0_followBest 117 = .ok (.iconst (-1), 1) := by decide +kernel
theorem dX0_followBest_118 : decode cX0_followBest 118 = .ok (.if_icmp .ne 5, 3) := by decide +kernel
theorem dX0_followBest_121 : decode cX0_followBest 121 = .ok (.iconst (-1), 1) := by decide +kernel
theorem dX0_followBest_122 : decode cX0_followBest 122 = .ok (.ireturn, 1) := by decide +kernel
theorem dX0_followBest_123 : decode cX0_followBest 123 = .ok (.aload 4, 2) := by decide +kernel
theorem dX0_followBest_125 : decode cX0_followBest 125 = .ok (.iload 8, 2) := by decide +kernel
theorem dX0_followBest_127 : decode cX0_followBest 127 = .ok (.iload 10, 2) := by decide +kernel
theorem dX0_followBest_129 : decode cX0_followBest 129 = .ok (.iastore, 1) := by decide +kernel
theorem dX0_followBest_130 : decode cX0_followBest 130 = .ok (.iload 10, 2) := by decide +kernel
theorem dX0_followBest_132 : decode cX0_followBest 132 = .ok (.istore 7, 2) := by decide +kernel
theorem dX0_followBest_134 : decode cX0_followBest 134 = .ok (.iinc 8 1, 3) := by decide +kernel
theorem dX0_followBest_137 : decode cX0_followBest 137 = .ok (.goto (-128), 3) := by decide +kernel
theorem dX0_followBest_140 : decode cX0_followBest 140 = .ok (.iload 7, 2) := by decide +kernel
theorem dX0_followBest_142 : decode cX0_followBest 142 = .ok (.ireturn, 1) := by decide +kernel
theorem dX0_restAfter_0 : decode cX0_restAfter 0 = .ok (.iload_n 1, 1) := by decide +kernel
theorem dX0_restAfter_1 : decode cX0_restAfter 1 = .ok (.ifCond .lt 8, 3) := by decide +kernel
theorem dX0_restAfter_4 : decode cX0_restAfter 4 = .ok (.iload_n 2, 1) := by decide +kernel
theorem dX0_restAfter_5 : decode cX0_restAfter 5 = .ok (.iconst (-1), 1) := by decide +kernel
theorem dX0_restAfter_6 : decode cX0_restAfter 6 = .ok (.if_icmp .ne 10, 3) := by decide +kernel
theorem dX0_restAfter_9 : decode cX0_restAfter 9 = .ok (.aload_n 0, 1) := by decide +kernel
theorem dX0_restAfter_10 : decode cX0_restAfter 10 = .ok (.getfield 93, 3) := by decide +kernel
theorem dX0_restAfter_13 : decode cX0_restAfter 13 = .ok (.goto 26, 3) := by decide +kernel
theorem dX0_restAfter_16 : decode cX0_restAfter 16 = .ok (.aload_n 0, 1) := by decide +kernel
theorem dX0_restAfter_17 : decode cX0_restAfter 17 = .ok (.getfield 22, 3) := by decide +kernel
theorem dX0_restAfter_20 : decode cX0_restAfter 20 = .ok (.iload_n 1, 1) := by decide +kernel
theorem dX0_restAfter_21 : decode cX0_restAfter 21 = .ok (.bipush 24, 2) := by decide +kernel
theorem dX0_restAfter_23 : decode cX0_restAfter 23 = .ok (.imul, 1) := by decide +kernel
theorem dX0_restAfter_24 : decode cX0_restAfter 24 = .ok (.iload_n 2, 1) := by decide +kernel
theorem dX0_restAfter_25 : decode cX0_restAfter 25 = .ok (.iadd, 1) := by decide +kernel
theorem dX0_restAfter_26 : decode cX0_restAfter 26 = .ok (.iaload, 1) := by decide +kernel
theorem dX0_restAfter_27 : decode cX0_restAfter 27 = .ok (.aload_n 0, 1) := by decide +kernel
theorem dX0_restAfter_28 : decode cX0_restAfter 28 = .ok (.getfield 19, 3) := by decide +kernel
theorem dX0_restAfter_31 : decode cX0_restAfter 31 = .ok (.iload_n 1, 1) := by decide +kernel
theorem dX0_restAfter_32 : decode cX0_restAfter 32 = .ok (.bipush 24, 2) := by decide +kernel
theorem dX0_restAfter_34 : decode cX0_restAfter 34 = .ok (.imul, 1) := by decide +kernel
theorem dX0_restAfter_35 : decode cX0_restAfter 35 = .ok (.iload_n 2, 1) := by decide +kernel
theorem dX0_restAfter_36 : decode cX0_restAfter 36 = .ok (.iadd, 1) := by decide +kernel
theorem dX0_restAfter_37 : decode cX0_restAfter 37 = .ok (.iaload, 1) := by decide +kernel
theorem dX0_restAfter_38 : decode cX0_restAfter 38 = .ok (.isub, 1) := by decide +kernel
theorem dX0_restAfter_39 : decode cX0_restAfter 39 = .ok (.ireturn, 1) := by decide +kernel
theorem dX0_turnInto_0 : decode cX0_turnInto 0 = .ok (.iload_n 1, 1) := by decide +kernel
theorem dX0_turnInto_1 : decode cX0_turnInto 1 = .ok (.iconst (-1), 1) := by decide +kernel
theorem dX0_turnInto_2 : decode cX0_turnInto 2 = .ok (.if_icmp .ne 7, 3) := by decide +kernel
theorem dX0_turnInto_5 : decode cX0_turnInto 5 = .ok (.iconst 0, 1) := by decide +kernel
theorem dX0_turnInto_6 : decode cX0_turnInto 6 = .ok (.goto 14, 3) := by decide +kernel
theorem dX0_turnInto_9 : decode cX0_turnInto 9 = .ok (.aload_n 0, 1) := by decide +kernel
theorem dX0_turnInto_10 : decode cX0_turnInto 10 = .ok (.getfield 16, 3) := by decide +kernel
theorem dX0_turnInto_13 : decode cX0_turnInto 13 = .ok (.iload_n 1, 1) := by decide +kernel
theorem dX0_turnInto_14 : decode cX0_turnInto 14 = .ok (.bipush 24, 2) := by decide +kernel
theorem dX0_turnInto_16 : decode cX0_turnInto 16 = .ok (.imul, 1) := by decide +kernel
theorem dX0_turnInto_17 : decode cX0_turnInto 17 = .ok (.iload_n 2, 1) := by decide +kernel
theorem dX0_turnInto_18 : decode cX0_turnInto 18 = .ok (.iadd, 1) := by decide +kernel
theorem dX0_turnInto_19 : decode cX0_turnInto 19 = .ok (.iaload, 1) := by decide +kernel
theorem dX0_turnInto_20 : decode cX0_turnInto 20 = .ok (.ireturn, 1) := by decide +kernel
theorem dX0_knowHeads_0 : decode cX0_knowHeads 0 = .ok (.aload_n 0, 1) := by decide +kernel
theorem dX0_knowHeads_1 : decode cX0_knowHeads 1 = .ok (.invokevirtual 90, 3) := by decide +kernel
theorem dX0_knowHeads_4 : decode cX0_knowHeads 4 = .ok (.aload_n 0, 1) := by decide +kernel
theorem dX0_knowHeads_5 : decode cX0_knowHeads 5 = .ok (.getfield 160, 3) := by decide +kernel
theorem dX0_knowHeads_8 : decode cX0_knowHeads 8 = .ok (.ifCond .eq 4, 3) := by decide +kernel
theorem dX0_knowHeads_11 : decode cX0_knowHeads 11 = .ok (.return_, 1) := by decide +kernel
theorem dX0_knowHeads_12 : decode cX0_knowHeads 12 = .ok (.iconst 0, 1) := by decide +kernel
theorem dX0_knowHeads_13 : decode cX0_knowHeads 13 = .ok (.istore_n 1, 1) := by decide +kernel
theorem dX0_knowHeads_14 : decode cX0_knowHeads 14 = .ok (.iload_n 1, 1) := by decide +kernel
theorem dX0_knowHeads_15 : decode cX0_knowHeads 15 = .ok (.aload_n 0, 1) := by decide +kernel
theorem dX0_knowHeads_16 : decode cX0_knowHeads 16 = .ok (.getfield 41, 3) := by decide +kernel
theorem dX0_knowHeads_19 : decode cX0_knowHeads 19 = .ok (.if_icmp .ge 57, 3) := by decide +kernel
theorem dX0_knowHeads_22 : decode cX0_knowHeads 22 = .ok (.iconst 0, 1) := by decide +kernel
theorem dX0_knowHeads_23 : decode cX0_knowHeads 23 = .ok (.istore_n 2, 1) := by decide +kernel
theorem dX0_knowHeads_24 : decode cX0_knowHeads 24 = .ok (.iload_n 2, 1) := by decide +kernel
theorem dX0_knowHeads_25 : decode cX0_knowHeads 25 = .ok (.bipush 24, 2) := by decide +kernel
theorem dX0_knowHeads_27 : decode cX0_knowHeads 27 = .ok (.if_icmp .ge 43, 3) := by decide +kernel
theorem dX0_knowHeads_30 : decode cX0_knowHeads 30 = .ok (.iload_n 1, 1) := by decide +kernel
theorem dX0_knowHeads_31 : decode cX0_knowHeads 31 = .ok (.bipush 24, 2) := by decide +kernel
theorem dX0_knowHeads_33 : decode cX0_knowHeads 33 = .ok (.imul, 1) := by decide +kernel
theorem dX0_knowHeads_34 : decode cX0_knowHeads 34 = .ok (.iload_n 2, 1) := by decide +kernel
theorem dX0_knowHeads_35 : decode cX0_knowHeads 35 = .ok (.iadd, 1) := by decide +kernel
theorem dX0_knowHeads_36 : decode cX0_knowHeads 36 = .ok (.istore_n 3, 1) := by decide +kernel
theorem dX0_knowHeads_37 : decode cX0_knowHeads 37 = .ok (.aload_n 0, 1) := by decide +kernel
theorem dX0_knowHeads_38 : decode cX0_knowHeads 38 = .ok (.getfield 29, 3) := by decide +kernel
theorem dX0_knowHeads_41 : decode cX0_knowHeads 41 = .ok (.iload_n 3, 1) := by decide +kernel
theorem dX0_knowHeads_42 : decode cX0_knowHeads 42 = .ok (.aload_n 0, 1) := by decide +kernel
theorem dX0_knowHeads_43 : decode cX0_knowHeads 43 = .ok (.getfield 19, 3) := by decide +kernel
theorem dX0_knowHeads_46 : decode cX0_knowHeads 46 = .ok (.iload_n 3, 1) := by decide +kernel
theorem dX0_knowHeads_47 : decode cX0_knowHeads 47 = .ok (.iaload, 1) := by decide +kernel
theorem dX0_knowHeads_48 : decode cX0_knowHeads 48 = .ok (.iload_n 1, 1) := by decide +kernel
theorem dX0_knowHeads_49 : decode cX0_knowHeads 49 = .ok (.ifCond .ne 7, 3) := by decide +kernel
theorem dX0_knowHeads_52 : decode cX0_knowHeads 52 = .ok (.iconst 0, 1) := by decide +kernel
theorem dX0_knowHeads_53 : decode cX0_knowHeads 53 = .ok (.goto 9, 3) := by decide +kernel
theorem dX0_knowHeads_56 : decode cX0_knowHeads 56 = .ok (.aload_n 0, 1) := by decide +kernel
theorem dX0_knowHeads_57 : decode cX0_knowHeads 57 = .ok (.iload_n 1, 1) := by decide +kernel
theorem dX0_knowHeads_58 : decode cX0_knowHeads 58 = .ok (.iload_n 2, 1) := by decide +kernel
theorem dX0_knowHeads_59 : decode cX0_knowHeads 59 = .ok (.invokevirtual 211, 3) := by decide +kernel
theorem dX0_knowHeads_62 : decode cX0_knowHeads 62 = .ok (.iadd, 1) := by decide +kernel
theorem dX0_knowHeads_63 : decode cX0_knowHeads 63 = .ok (.iastore, 1) := by decide +kernel
theorem dX0_knowHeads_64 : decode cX0_knowHeads 64 = .ok (.iinc 2 1, 3) := by decide +kernel
theorem dX0_knowHeads_67 : decode cX0_knowHeads 67 = .ok (.goto (-43), 3) := by decide +kernel
theorem dX0_knowHeads_70 : decode cX0_knowHeads 70 = .ok (.iinc 1 1, 3) := by decide +kernel
theorem dX0_knowHeads_73 : decode cX0_knowHeads 73 = .ok (.goto (-59), 3) := by decide +kernel
theorem dX0_knowHeads_76 : decode cX0_knowHeads 76 = .ok (.aload_n 0, 1) := by decide +kernel
theorem dX0_knowHeads_77 : decode cX0_knowHeads 77 = .ok (.iconst 1, 1) := by decide +kernel
theorem dX0_knowHeads_78 : decode cX0_knowHeads 78 = .ok (.putfield 160, 3) := by decide +kernel
theorem dX0_knowHeads_81 : decode cX0_knowHeads 81 = .ok (.return_, 1) := by decide +kernel
theorem dX0_leastInto_0 : decode cX0_leastInto 0 = .ok (.ldc 198, 2) := by decide +kernel
theorem dX0_leastInto_2 : decode cX0_leastInto 2 = .ok (.istore_n 3, 1) := by decide +kernel
theorem dX0_leastInto_3 : decode cX0_leastInto 3 = .ok (.iconst 0, 1) := by decide +kernel
theorem dX0_leastInto_4 : decode cX0_leastInto 4 = .ok (.istore 4, 2) := by decide +kernel
theorem dX0_leastInto_6 : decode cX0_leastInto 6 = .ok (.iload 4, 2) := by decide +kernel
theorem dX0_leastInto_8 : decode cX0_leastInto 8 = .ok (.bipush 24, 2) := by decide +kernel
theorem dX0_leastInto_10 : decode cX0_leastInto 10 = .ok (.if_icmp .ge 41, 3) := by decide +kernel
theorem dX0_leastInto_13 : decode cX0_leastInto 13 = .ok (.iload_n 3, 1) := by decide +kernel
theorem dX0_leastInto_14 : decode cX0_leastInto 14 = .ok (.aload_n 0, 1) := by decide +kernel
theorem dX0_leastInto_15 : decode cX0_leastInto 15 = .ok (.getfield 29, 3) := by decide +kernel
theorem dX0_leastInto_18 : decode cX0_leastInto 18 = .ok (.iload_n 1, 1) := by decide +kernel
theorem dX0_leastInto_19 : decode cX0_leastInto 19 = .ok (.iconst 1, 1) := by decide +kernel
theorem dX0_leastInto_20 : decode cX0_leastInto 20 = .ok (.isub, 1) := by decide +kernel
theorem dX0_leastInto_21 : decode cX0_leastInto 21 = .ok (.bipush 24, 2) := by decide +kernel
theorem dX0_leastInto_23 : decode cX0_leastInto 23 = .ok (.imul, 1) := by decide +kernel
theorem dX0_leastInto_24 : decode cX0_leastInto 24 = .ok (.iload 4, 2) := by decide +kernel
theorem dX0_leastInto_26 : decode cX0_leastInto 26 = .ok (.iadd, 1) := by decide +kernel
theorem dX0_leastInto_27 : decode cX0_leastInto 27 = .ok (.iaload, 1) := by decide +kernel
theorem dX0_leastInto_28 : decode cX0_leastInto 28 = .ok (.aload_n 0, 1) := by decide +kernel
theorem dX0_leastInto_29 : decode cX0_leastInto 29 = .ok (.getfield 16, 3) := by decide +kernel
theorem dX0_leastInto_32 : decode cX0_leastInto 32 = .ok (.iload 4, 2) := by decide +kernel
theorem dX0_leastInto_34 : decode cX0_leastInto 34 = .ok (.bipush 24, 2) := by decide +kernel
theorem dX0_leastInto_36 : decode cX0_leastInto 36 = .ok (.imul, 1) := by decide +kernel
theorem dX0_leastInto_37 : decode cX0_leastInto 37 = .ok (.iload_n 2, 1) := by decide +kernel
theorem dX0_leastInto_38 : decode cX0_leastInto 38 = .ok (.iadd, 1) := by decide +kernel
theorem dX0_leastInto_39 : decode cX0_leastInto 39 = .ok (.iaload, 1) := by decide +kernel
theorem dX0_leastInto_40 : decode cX0_leastInto 40 = .ok (.iadd, 1) := by decide +kernel
theorem dX0_leastInto_41 : decode cX0_leastInto 41 = .ok (.invokestatic 182, 3) := by decide +kernel
theorem dX0_leastInto_44 : decode cX0_leastInto 44 = .ok (.istore_n 3, 1) := by decide +kernel
theorem dX0_leastInto_45 : decode cX0_leastInto 45 = .ok (.iinc 4 1, 3) := by decide +kernel
theorem dX0_leastInto_48 : decode cX0_leastInto 48 = .ok (.goto (-42), 3) := by decide +kernel
theorem dX0_leastInto_51 : decode cX0_leastInto 51 = .ok (.iload_n 3, 1) := by decide +kernel
theorem dX0_leastInto_52 : decode cX0_leastInto 52 = .ok (.ireturn, 1) := by decide +kernel
theorem dX0_leastThrough_0 : decode cX0_leastThrough 0 = .ok (.iload_n 1, 1) := by decide +kernel
theorem dX0_leastThrough_1 : decode cX0_leastThrough 1 = .ok (.bipush 24, 2) := by decide +kernel
theorem dX0_leastThrough_3 : decode cX0_leastThrough 3 = .ok (.imul, 1) := by decide +kernel
theorem dX0_leastThrough_4 : decode cX0_leastThrough 4 = .ok (.iload_n 2, 1) := by decide +kernel
theorem dX0_leastThrough_5 : decode cX0_leastThrough 5 = .ok (.iadd, 1) := by decide +kernel
theorem dX0_leastThrough_6 : decode cX0_leastThrough 6 = .ok (.istore_n 3, 1) := by decide +kernel
theorem dX0_leastThrough_7 : decode cX0_leastThrough 7 = .ok (.aload_n 0, 1) := by decide +kernel
theorem dX0_leastThrough_8 : decode cX0_leastThrough 8 = .ok (.getfield 29, 3) := by decide +kernel
theorem dX0_leastThrough_11 : decode cX0_leastThrough 11 = .ok (.iload_n 3, 1) := by decide +kernel
theorem dX0_leastThrough_12 : decode cX0_leastThrough 12 = .ok (.iaload, 1) := by decide +kernel
theorem dX0_leastThrough_13 : decode cX0_leastThrough 13 = .ok (.aload_n 0, 1) := by decide +kernel
theorem dX0_leastThrough_14 : decode cX0_leastThrough 14 = .ok (.getfield 22, 3) := by decide +kernel
theorem dX0_leastThrough_17 : decode cX0_leastThrough 17 = .ok (.iload_n 3, 1) := by decide +kernel
theorem dX0_leastThrough_18 : decode cX0_leastThrough 18 = .ok (.iaload, 1) := by decide +kernel
theorem dX0_leastThrough_19 : decode cX0_leastThrough 19 = .ok (.iadd, 1) := by decide +kernel
theorem dX0_leastThrough_20 : decode cX0_leastThrough 20 = .ok (.aload_n 0, 1) := by decide +kernel
theorem dX0_leastThrough_21 : decode cX0_leastThrough 21 = .ok (.getfield 19, 3) := by decide +kernel
theorem dX0_leastThrough_24 : decode cX0_leastThrough 24 = .ok (.iload_n 3, 1) := by decide +kernel
theorem dX0_leastThrough_25 : decode cX0_leastThrough 25 = .ok (.iaload, 1) := by decide +kernel
theorem dX0_leastThrough_26 : decode cX0_leastThrough 26 = .ok (.isub, 1) := by decide +kernel
theorem dX0_leastThrough_27 : decode cX0_leastThrough 27 = .ok (.ireturn, 1) := by decide +kernel
theorem dX0_nextCost_0 : decode cX0_nextCost 0 = .ok (.ldc 198, 2) := by decide +kernel
theorem dX0_nextCost_2 : decode cX0_nextCost 2 = .ok (.istore_n 2, 1) := by decide +kernel
theorem dX0_nextCost_3 : decode cX0_nextCost 3 = .ok (.iconst 0, 1) := by decide +kernel
theorem dX0_nextCost_4 : decode cX0_nextCost 4 = .ok (.istore_n 3, 1) := by decide +kernel
theorem dX0_nextCost_5 : decode cX0_nextCost 5 = .ok (.iload_n 3, 1) := by decide +kernel
theorem dX0_nextCost_6 : decode cX0_nextCost 6 = .ok (.bipush 24, 2) := by decide +kernel
theorem dX0_nextCost_8 : decode cX0_nextCost 8 = .ok (.if_icmp .ge 30, 3) := by decide +kernel
theorem dX0_nextCost_11 : decode cX0_nextCost 11 = .ok (.iload_n 3, 1) := by decide +kernel
theorem dX0_nextCost_12 : decode cX0_nextCost 12 = .ok (.aload_n 0, 1) := by decide +kernel
theorem dX0_nextCost_13 : decode cX0_nextCost 13 = .ok (.getfield 32, 3) := by decide +kernel
theorem dX0_nextCost_16 : decode cX0_nextCost 16 = .ok (.iload_n 1, 1) := by decide +kernel
theorem dX0_nextCost_17 : decode cX0_nextCost 17 = .ok (.iaload, 1) := by decide +kernel
theorem dX0_nextCost_18 : decode cX0_nextCost 18 = .ok (.if_icmp .eq 14, 3) := by decide +kernel
theorem dX0_nextCost_21 : decode cX0_nextCost 21 = .ok (.iload_n 2, 1) := by decide +kernel
theorem dX0_nextCost_22 : decode cX0_nextCost 22 = .ok (.aload_n 0, 1) := by decide +kernel
theorem dX0_nextCost_23 : decode cX0_nextCost 23 = .ok (.iload_n 1, 1) := by decide +kernel
theorem dX0_nextCost_24 : decode cX0_nextCost 24 = .ok (.iload_n 3, 1) := by decide +kernel
theorem dX0_nextCost_25 : decode cX0_nextCost 25 = .ok (.invokevirtual 114, 3) := by decide +kernel
theorem dX0_nextCost_28 : decode cX0_nextCost 28 = .ok (.invokestatic 182, 3) := by decide +kernel
theorem dX0_nextCost_31 : decode cX0_nextCost 31 = .ok (.istore_n 2, 1) := by decide +kernel
theorem dX0_nextCost_32 : decode cX0_nextCost 32 = .ok (.iinc 3 1, 3) := by decide +kernel
theorem dX0_nextCost_35 : decode cX0_nextCost 35 = .ok (.goto (-30), 3) := by decide +kernel
theorem dX0_nextCost_38 : decode cX0_nextCost 38 = .ok (.iload_n 2, 1) := by decide +kernel
theorem dX0_nextCost_39 : decode cX0_nextCost 39 = .ok (.ireturn, 1) := by decide +kernel
theorem dX0_changesAt_0 : decode cX0_changesAt 0 = .ok (.aload_n 0, 1) := by decide +kernel
theorem dX0_changesAt_1 : decode cX0_changesAt 1 = .ok (.getfield 32, 3) := by decide +kernel
theorem dX0_changesAt_4 : decode cX0_changesAt 4 = .ok (.iload_n 1, 1) := by decide +kernel
theorem dX0_changesAt_5 : decode cX0_changesAt 5 = .ok (.iaload, 1) := by decide +kernel
theorem dX0_changesAt_6 : decode cX0_changesAt 6 = .ok (.aload_n 0, 1) := by decide +kernel
theorem dX0_changesAt_7 : decode cX0_changesAt 7 = .ok (.getfield 32, 3) := by decide +kernel
theorem dX0_changesAt_10 : decode cX0_changesAt 10 = .ok (.iload_n 1, 1) := by decide +kernel
theorem dX0_changesAt_11 : decode cX0_changesAt 11 = .ok (.iconst 1, 1) := by decide +kernel
theorem dX0_changesAt_12 : decode cX0_changesAt 12 = .ok (.isub, 1) := by decide +kernel
theorem dX0_changesAt_13 : decode cX0_changesAt 13 = .ok (.iaload, 1) := by decide +kernel
theorem dX0_changesAt_14 : decode cX0_changesAt 14 = .ok (.if_icmp .eq 7, 3) := by decide +kernel
theorem dX0_changesAt_17 : decode cX0_changesAt 17 = .ok (.iconst 1, 1) := by decide +kernel
theorem dX0_changesAt_18 : decode cX0_changesAt 18 = .ok (.goto 4, 3) := by decide +kernel
theorem dX0_changesAt_21 : decode cX0_changesAt 21 = .ok (.iconst 0, 1) := by decide +kernel
theorem dX0_changesAt_22 : decode cX0_changesAt 22 = .ok (.ireturn, 1) := by decide +kernel
theorem dX0_changesOfFirst_0 : decode cX0_changesOfFirst 0 = .ok (.aload_n 0, 1) := by decide +kernel
theorem dX0_changesOfFirst_1 : decode cX0_changesOfFirst 1 = .ok (.invokevirtual 90, 3) := by decide +kernel
theorem dX0_changesOfFirst_4 : decode cX0_changesOfFirst 4 = .ok (.iconst 0, 1) := by decide +kernel
theorem dX0_changesOfFirst_5 : decode cX0_changesOfFirst 5 = .ok (.istore_n 1, 1) := by decide +kernel
theorem dX0_changesOfFirst_6 : decode cX0_changesOfFirst 6 = .ok (.iconst 1, 1) := by decide +kernel
theorem dX0_changesOfFirst_7 : decode cX0_changesOfFirst 7 = .ok (.istore_n 2, 1) := by decide +kernel
theorem dX0_changesOfFirst_8 : decode cX0_changesOfFirst 8 = .ok (.iload_n 2, 1) := by decide +kernel
theorem dX0_changesOfFirst_9 : decode cX0_changesOfFirst 9 = .ok (.aload_n 0, 1) := by decide +kernel
theorem dX0_changesOfFirst_10 : decode cX0_changesOfFirst 10 = .ok (.getfield 41, 3) := by decide +kernel
theorem dX0_changesOfFirst_13 : decode cX0_changesOfFirst 13 = .ok (.if_icmp .ge 20, 3) := by decide +kernel
theorem dX0_changesOfFirst_16 : decode cX0_changesOfFirst 16 = .ok (.aload_n 0, 1) := by decide +kernel
theorem dX0_changesOfFirst_17 : decode cX0_changesOfFirst 17 = .ok (.iload_n 2, 1) := by decide +kernel
theorem dX0_changesOfFirst_18 : decode cX0_changesOfFirst 18 = .ok (.invokevirtual 128, 3) := by decide +kernel
theorem dX0_changesOfFirst_21 : decode cX0_changesOfFirst 21 = .ok (.ifCond .eq 6, 3) := by decide +kernel
theorem dX0_changesOfFirst_24 : decode cX0_changesOfFirst 24 = .ok (.iinc 1 1, 3) := by decide +kernel
theorem dX0_changesOfFirst_27 : decode cX0_changesOfFirst 27 = .ok (.iinc 2 1, 3) := by decide +kernel
theorem dX0_changesOfFirst_30 : decode cX0_changesOfFirst 30 = .ok (.goto (-22), 3) := by decide +kernel
theorem dX0_changesOfFirst_33 : decode cX0_changesOfFirst 33 = .ok (.iload_n 1, 1) := by decide +kernel
theorem dX0_changesOfFirst_34 : decode cX0_changesOfFirst 34 = .ok (.ireturn, 1) := by decide +kernel

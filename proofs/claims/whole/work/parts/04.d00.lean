theorem kd_Dm_init_0 : decode kb_Dm_init 0 = .ok (.aload_n 0, 1) := by decide +kernel
theorem kd_Dm_init_1 : decode kb_Dm_init 1 = .ok (.invokespecial 3, 3) := by decide +kernel
theorem kd_Dm_init_4 : decode kb_Dm_init 4 = .ok (.aload_n 0, 1) := by decide +kernel
theorem kd_Dm_init_5 : decode kb_Dm_init 5 = .ok (.bipush 40, 2) := by decide +kernel
theorem kd_Dm_init_7 : decode kb_Dm_init 7 = .ok (.newarray .char, 2) := by decide +kernel
theorem kd_Dm_init_9 : decode kb_Dm_init 9 = .ok (.putfield 9, 3) := by decide +kernel
theorem kd_Dm_init_12 : decode kb_Dm_init 12 = .ok (.aload_n 0, 1) := by decide +kernel
theorem kd_Dm_init_13 : decode kb_Dm_init 13 = .ok (.iconst 0, 1) := by decide +kernel
theorem kd_Dm_init_14 : decode kb_Dm_init 14 = .ok (.putfield 13, 3) := by decide +kernel
theorem kd_Dm_init_17 : decode kb_Dm_init 17 = .ok (.aload_n 0, 1) := by decide +kernel
theorem kd_Dm_init_18 : decode kb_Dm_init 18 = .ok (.new 17, 3) := by decide +kernel
theorem kd_Dm_init_21 : decode kb_Dm_init 21 = .ok (.dup, 1) := by decide +kernel
theorem kd_Dm_init_22 : decode kb_Dm_init 22 = .ok (.bipush 24, 2) := by decide +kernel
theorem kd_Dm_init_24 : decode kb_Dm_init 24 = .ok (.newarray .char, 2) := by decide +kernel
theorem kd_Dm_init_26 : decode kb_Dm_init 26 = .ok (.iconst 0, 1) := by decide +kernel
theorem kd_Dm_init_27 : decode kb_Dm_init 27 = .ok (.bipush 24, 2) := by decide +kernel
theorem kd_Dm_init_29 : decode kb_Dm_init 29 = .ok (.invokespecial 19, 3) := by decide +kernel
theorem kd_Dm_init_32 : decode kb_Dm_init 32 = .ok (.putfield 22, 3) := by decide +kernel
theorem kd_Dm_init_35 : decode kb_Dm_init 35 = .ok (.aload_n 0, 1) := by decide +kernel
theorem kd_Dm_init_36 : decode kb_Dm_init 36 = .ok (.new 17, 3) := by decide +kernel
theorem kd_Dm_init_39 : decode kb_Dm_init 39 = .ok (.dup, 1) := by decide +kernel
theorem kd_Dm_init_40 : decode kb_Dm_init 40 = .ok (.ldc 26, 2) := by decide +kernel
theorem kd_Dm_init_42 : decode kb_Dm_init 42 = .ok (.invokevirtual 28, 3) := by decide +kernel
theorem kd_Dm_init_45 : decode kb_Dm_init 45 = .ok (.bipush 84, 2) := by decide +kernel
theorem kd_Dm_init_47 : decode kb_Dm_init 47 = .ok (.iconst 4, 1) := by decide +kernel
theorem kd_Dm_init_48 : decode kb_Dm_init 48 = .ok (.invokespecial 19, 3) := by decide +kernel
theorem kd_Dm_init_51 : decode kb_Dm_init 51 = .ok (.putfield 34, 3) := by decide +kernel
theorem kd_Dm_init_54 : decode kb_Dm_init 54 = .ok (.aload_n 0, 1) := by decide +kernel
theorem kd_Dm_init_55 : decode kb_Dm_init 55 = .ok (.iconst 2, 1) := by decide +kernel
theorem kd_Dm_init_56 : decode kb_Dm_init 56 = .ok (.anewarray 37, 3) := by decide +kernel
theorem kd_Dm_init_59 : decode kb_Dm_init 59 = .ok (.dup, 1) := by decide +kernel
theorem kd_Dm_init_60 : decode kb_Dm_init 60 = .ok (.iconst 0, 1) := by decide +kernel
theorem kd_Dm_init_61 : decode kb_Dm_init 61 = .ok (.new 37, 3) := by decide +kernel
theorem kd_Dm_init_64 : decode kb_Dm_init 64 = .ok (.dup, 1) := by decide +kernel
theorem kd_Dm_init_65 : decode kb_Dm_init 65 = .ok (.invokespecial 39, 3) := by decide +kernel
theorem kd_Dm_init_68 : decode kb_Dm_init 68 = .ok (.aastore, 1) := by decide +kernel
theorem kd_Dm_init_69 : decode kb_Dm_init 69 = .ok (.dup, 1) := by decide +kernel
theorem kd_Dm_init_70 : decode kb_Dm_init 70 = .ok (.iconst 1, 1) := by decide +kernel
theorem kd_Dm_init_71 : decode kb_Dm_init 71 = .ok (.new 37, 3) := by decide +kernel
theorem kd_Dm_init_74 : decode kb_Dm_init 74 = .ok (.dup, 1) := by decide +kernel
theorem kd_Dm_init_75 : decode kb_Dm_init 75 = .ok (.invokespecial 39, 3) := by decide +kernel
theorem kd_Dm_init_78 : decode kb_Dm_init 78 = .ok (.aastore, 1) := by decide +kernel
theorem kd_Dm_init_79 : decode kb_Dm_init 79 = .ok (.putfield 40, 3) := by decide +kernel
theorem kd_Dm_init_82 : decode kb_Dm_init 82 = .ok (.aload_n 0, 1) := by decide +kernel
theorem kd_Dm_init_83 : decode kb_Dm_init 83 = .ok (.new 44, 3) := by decide +kernel
theorem kd_Dm_init_86 : decode kb_Dm_init 86 = .ok (.dup, 1) := by decide +kernel
theorem kd_Dm_init_87 : decode kb_Dm_init 87 = .ok (.invokespecial 46, 3) := by decide +kernel
theorem kd_Dm_init_90 : decode kb_Dm_init 90 = .ok (.putfield 47, 3) := by decide +kernel
theorem kd_Dm_init_93 : decode kb_Dm_init 93 = .ok (.aload_n 0, 1) := by decide +kernel
theorem kd_Dm_init_94 : decode kb_Dm_init 94 = .ok (.new 51, 3) := by decide +kernel
theorem kd_Dm_init_97 : decode kb_Dm_init 97 = .ok (.dup, 1) := by decide +kernel
theorem kd_Dm_init_98 : decode kb_Dm_init 98 = .ok (.invokespecial 53, 3) := by decide +kernel
theorem kd_Dm_init_101 : decode kb_Dm_init 101 = .ok (.putfield 54, 3) := by decide +kernel
theorem kd_Dm_init_104 : decode kb_Dm_init 104 = .ok (.aload_n 0, 1) := by decide +kernel
theorem kd_Dm_init_105 : decode kb_Dm_init 105 = .ok (.iconst 4, 1) := by decide +kernel
theorem kd_Dm_init_106 : decode kb_Dm_init 106 = .ok (.newarray .char, 2) := by decide +kernel
theorem kd_Dm_init_108 : decode kb_Dm_init 108 = .ok (.putfield 58, 3) := by decide +kernel
theorem kd_Dm_init_111 : decode kb_Dm_init 111 = .ok (.aload_n 0, 1) := by decide +kernel
theorem kd_Dm_init_112 : decode kb_Dm_init 112 = .ok (.iconst 0, 1) := by decide +kernel
theorem kd_Dm_init_113 : decode kb_Dm_init 113 = .ok (.putfield 61, 3) := by decide +kernel
theorem kd_Dm_init_116 : decode kb_Dm_init 116 = .ok (.return_, 1) := by decide +kernel
theorem kd_Dm_type_0 : decode kb_Dm_type 0 = .ok (.iload_n 1, 1) := by decide +kernel
theorem kd_Dm_type_1 : decode kb_Dm_type 1 = .ok (.bipush 32, 2) := by decide +kernel
theorem kd_Dm_type_3 : decode kb_Dm_type 3 = .ok (.if_icmp .lt 18, 3) := by decide +kernel
theorem kd_Dm_type_6 : decode kb_Dm_type 6 = .ok (.iload_n 1, 1) := by decide +kernel
theorem kd_Dm_type_7 : decode kb_Dm_type 7 = .ok (.bipush 126, 2) := by decide +kernel
theorem kd_Dm_type_9 : decode kb_Dm_type 9 = .ok (.if_icmp .gt 12, 3) := by decide +kernel
theorem kd_Dm_type_12 : decode kb_Dm_type 12 = .ok (.aload_n 0, 1) := by decide +kernel
theorem kd_Dm_type_13 : decode kb_Dm_type 13 = .ok (.getfield 13, 3) := by decide +kernel
theorem kd_Dm_type_16 : decode kb_Dm_type 16 = .ok (.bipush 40, 2) := by decide +kernel
theorem kd_Dm_type_18 : decode kb_Dm_type 18 = .ok (.if_icmp .lt 5, 3) := by decide +kernel
theorem kd_Dm_type_21 : decode kb_Dm_type 21 = .ok (.iconst 0, 1) := by decide +kernel
theorem kd_Dm_type_22 : decode kb_Dm_type 22 = .ok (.ireturn, 1) := by decide +kernel
theorem kd_Dm_type_23 : decode kb_Dm_type 23 = .ok (.aload_n 0, 1) := by decide +kernel
theorem kd_Dm_type_24 : decode kb_Dm_type 24 = .ok (.getfield 9, 3) := by decide +kernel
theorem kd_Dm_type_27 : decode kb_Dm_type 27 = .ok (.aload_n 0, 1) := by decide +kernel
theorem kd_Dm_type_28 : decode kb_Dm_type 28 = .ok (.getfield 13, 3) := by decide +kernel
theorem kd_Dm_type_31 : decode kb_Dm_type 31 = .ok (.iload_n 1, 1) := by decide +kernel
theorem kd_Dm_type_32 : decode kb_Dm_type 32 = .ok (.castore, 1) := by decide +kernel
theorem kd_Dm_type_33 : decode kb_Dm_type 33 = .ok (.aload_n 0, 1) := by decide +kernel
theorem kd_Dm_type_34 : decode kb_Dm_type 34 = .ok (.dup, 1) := by decide +kernel
theorem kd_Dm_type_35 : decode kb_Dm_type 35 = .ok (.getfield 13, 3) := by decide +kernel
theorem kd_Dm_type_38 : decode kb_Dm_type 38 = .ok (.iconst 1, 1) := by decide +kernel
theorem kd_Dm_type_39 : decode kb_Dm_type 39 = .ok (.iadd, 1) := by decide +kernel
theorem kd_Dm_type_40 : decode kb_Dm_type 40 = .ok (.putfield 13, 3) := by decide +kernel
theorem kd_Dm_type_43 : decode kb_Dm_type 43 = .ok (.iconst 1, 1) := by decide +kernel
theorem kd_Dm_type_44 : decode kb_Dm_type 44 = .ok (.ireturn, 1) := by decide +kernel
theorem kd_Dm_pattern_0 : decode kb_Dm_pattern 0 = .ok (.iload_n 1, 1) := by decide +kernel
theorem kd_Dm_pattern_1 : decode kb_Dm_pattern 1 = .ok (.invokestatic 64, 3) := by decide +kernel
theorem kd_Dm_pattern_4 : decode kb_Dm_pattern 4 = .ok (.ifCond .ne 5, 3) := by decide +kernel
theorem kd_Dm_pattern_7 : decode kb_Dm_pattern 7 = .ok (.iconst (-1), 1) := by decide +kernel
theorem kd_Dm_pattern_8 : decode kb_Dm_pattern 8 = .ok (.ireturn, 1) := by decide +kernel
theorem kd_Dm_pattern_9 : decode kb_Dm_pattern 9 = .ok (.aload_n 0, 1) := by decide +kernel
theorem kd_Dm_pattern_10 : decode kb_Dm_pattern 10 = .ok (.getfield 47, 3) := by decide +kernel
theorem kd_Dm_pattern_13 : decode kb_Dm_pattern 13 = .ok (.aload_n 0, 1) := by decide +kernel
theorem kd_Dm_pattern_14 : decode kb_Dm_pattern 14 = .ok (.getfield 9, 3) := by decide +kernel
theorem kd_Dm_pattern_17 : decode kb_Dm_pattern 17 = .ok (.aload_n 0, 1) := by decide +kernel
theorem kd_Dm_pattern_18 : decode kb_Dm_pattern 18 = .ok (.getfield 13, 3) := by decide +kernel
theorem kd_Dm_pattern_21 : decode kb_Dm_pattern 21 = .ok (.invokevirtual 68, 3) := by decide +kernel
theorem kd_Dm_pattern_24 : decode kb_Dm_pattern 24 = .ok (.istore_n 2, 1) := by decide +kernel
theorem kd_Dm_pattern_25 : decode kb_Dm_pattern 25 = .ok (.aload_n 0, 1) := by decide +kernel
theorem kd_Dm_pattern_26 : decode kb_Dm_pattern 26 = .ok (.iconst 0, 1) := by decide +kernel
theorem kd_Dm_pattern_27 : decode kb_Dm_pattern 27 = .ok (.putfield 13, 3) := by decide +kernel
theorem kd_Dm_pattern_30 : decode kb_Dm_pattern 30 = .ok (.iload_n 2, 1) := by decide +kernel
theorem kd_Dm_pattern_31 : decode kb_Dm_pattern 31 = .ok (.ifCond .ne 14, 3) := by decide +kernel
theorem kd_Dm_pattern_34 : decode kb_Dm_pattern 34 = .ok (.bipush (-10), 2) := by decide +kernel
theorem kd_Dm_pattern_36 : decode kb_Dm_pattern 36 = .ok (.aload_n 0, 1) := by decide +kernel
theorem kd_Dm_pattern_37 : decode kb_Dm_pattern 37 = .ok (.getfield 47, 3) := by decide +kernel
theorem kd_Dm_pattern_40 : decode kb_Dm_pattern 40 = .ok (.invokevirtual 72, 3) := by decide +kernel
theorem kd_Dm_pattern_43 : decode kb_Dm_pattern 43 = .ok (.isub, 1) := by decide +kernel
theorem kd_Dm_pattern_44 : decode kb_Dm_pattern 44 = .ok (.ireturn, 1) := by decide +kernel
theorem kd_Dm_pattern_45 : decode kb_Dm_pattern 45 = .ok (.aload_n 0, 1) := by decide +kernel
theorem kd_Dm_pattern_46 : decode kb_Dm_pattern 46 = .ok (.getfield 40, 3) := by decide +kernel
theorem kd_Dm_pattern_49 : decode kb_Dm_pattern 49 = .ok (.iload_n 1, 1) := by decide +kernel
theorem kd_Dm_pattern_50 : decode kb_Dm_pattern 50 = .ok (.aaload, 1) := by decide +kernel
theorem kd_Dm_pattern_51 : decode kb_Dm_pattern 51 = .ok (.aload_n 0, 1) := by decide +kernel
theorem kd_Dm_pattern_52 : decode kb_Dm_pattern 52 = .ok (.getfield 47, 3) := by decide +kernel
theorem kd_Dm_pattern_55 : decode kb_Dm_pattern 55 = .ok (.aload_n 0, 1) := by decide +kernel
theorem kd_Dm_pattern_56 : decode kb_Dm_pattern 56 = .ok (.getfield 40, 3) := by decide +kernel
theorem kd_Dm_pattern_59 : decode kb_Dm_pattern 59 = .ok (.iload_n 1, 1) := by decide +kernel
theorem kd_Dm_pattern_60 : decode kb_Dm_pattern 60 = .ok (.aaload, 1) := by decide +kernel
theorem kd_Dm_pattern_61 : decode kb_Dm_pattern 61 = .ok (.getfield 76, 3) := by decide +kernel
theorem kd_Dm_pattern_64 : decode kb_Dm_pattern 64 = .ok (.invokevirtual 80, 3) := by decide +kernel
theorem kd_Dm_pattern_67 : decode kb_Dm_pattern 67 = .ok (.putfield 76, 3) := by decide +kernel
theorem kd_Dm_pattern_70 : decode kb_Dm_pattern 70 = .ok (.aload_n 0, 1) := by decide +kernel
theorem kd_Dm_pattern_71 : decode kb_Dm_pattern 71 = .ok (.getfield 40, 3) := by decide +kernel
theorem kd_Dm_pattern_74 : decode kb_Dm_pattern 74 = .ok (.iload_n 1, 1) := by decide +kernel
theorem kd_Dm_pattern_75 : decode kb_Dm_pattern 75 = .ok (.aaload, 1) := by decide +kernel
theorem kd_Dm_pattern_76 : decode kb_Dm_pattern 76 = .ok (.iconst 0, 1) := by decide +kernel
theorem kd_Dm_pattern_77 : decode kb_Dm_pattern 77 = .ok (.putfield 84, 3) := by decide +kernel
theorem kd_Dm_pattern_80 : decode kb_Dm_pattern 80 = .ok (.aload_n 0, 1) := by decide +kernel
theorem kd_Dm_pattern_81 : decode kb_Dm_pattern 81 = .ok (.getfield 40, 3) := by decide +kernel
theorem kd_Dm_pattern_84 : decode kb_Dm_pattern 84 = .ok (.iload_n 1, 1) := by decide +kernel
theorem kd_Dm_pattern_85 : decode kb_Dm_pattern 85 = .ok (.aaload, 1) := by decide +kernel
theorem kd_Dm_pattern_86 : decode kb_Dm_pattern 86 = .ok (.iconst 0, 1) := by decide +kernel
theorem kd_Dm_pattern_87 : decode kb_Dm_pattern 87 = .ok (.putfield 88, 3) := by decide +kernel
theorem kd_Dm_pattern_90 : decode kb_Dm_pattern 90 = .ok (.iconst 0, 1) := by decide +kernel
theorem kd_Dm_pattern_91 : decode kb_Dm_pattern 91 = .ok (.ireturn, 1) := by decide +kernel
theorem kd_Dm_text_0 : decode kb_Dm_text 0 = .ok (.aload_n 0, 1) := by decide +kernel
theorem kd_Dm_text_1 : decode kb_Dm_text 1 = .ok (.getfield 13, 3) := by decide +kernel
theorem kd_Dm_text_4 : decode kb_Dm_text 4 = .ok (.bipush 24, 2) := by decide +kernel
theorem kd_Dm_text_6 : decode kb_Dm_text 6 = .ok (.if_icmp .le 5, 3) := by decide +kernel
theorem kd_Dm_text_9 : decode kb_Dm_text 9 = .ok (.iconst (-1), 1) := by decide +kernel
theorem kd_Dm_text_10 : decode kb_Dm_text 10 = .ok (.ireturn, 1) := by decide +kernel
theorem kd_Dm_text_11 : decode kb_Dm_text 11 = .ok (.aload_n 0, 1) := by decide +kernel
theorem kd_Dm_text_12 : decode kb_Dm_text 12 = .ok (.getfield 9, 3) := by decide +kernel
theorem kd_Dm_text_15 : decode kb_Dm_text 15 = .ok (.iconst 0, 1) := by decide +kernel
theorem kd_Dm_text_16 : decode kb_Dm_text 16 = .ok (.aload_n 0, 1) := by decide +kernel
theorem kd_Dm_text_17 : decode kb_Dm_text 17 = .ok (.getfield 22, 3) := by decide +kernel
theorem kd_Dm_text_20 : decode kb_Dm_text 20 = .ok (.getfield 91, 3) := by decide +kernel
theorem kd_Dm_text_23 : decode kb_Dm_text 23 = .ok (.iconst 0, 1) := by decide +kernel
theorem kd_Dm_text_24 : decode kb_Dm_text 24 = .ok (.aload_n 0, 1) := by decide +kernel
theorem kd_Dm_text_25 : decode kb_Dm_text 25 = .ok (.getfield 13, 3) := by decide +kernel
theorem kd_Dm_text_28 : decode kb_Dm_text 28 = .ok (.invokestatic 94, 3) := by decide +kernel
theorem kd_Dm_text_31 : decode kb_Dm_text 31 = .ok (.aload_n 0, 1) := by decide +kernel
theorem kd_Dm_text_32 : decode kb_Dm_text 32 = .ok (.getfield 22, 3) := by decide +kernel
theorem kd_Dm_text_35 : decode kb_Dm_text 35 = .ok (.aload_n 0, 1) := by decide +kernel
theorem kd_Dm_text_36 : decode kb_Dm_text 36 = .ok (.getfield 13, 3) := by decide +kernel
theorem kd_Dm_text_39 : decode kb_Dm_text 39 = .ok (.putfield 100, 3) := by decide +kernel
theorem kd_Dm_text_42 : decode kb_Dm_text 42 = .ok (.aload_n 0, 1) := by decide +kernel
theorem kd_Dm_text_43 : decode kb_Dm_text 43 = .ok (.iconst 0, 1) := by decide +kernel
theorem kd_Dm_text_44 : decode kb_Dm_text 44 = .ok (.putfield 13, 3) := by decide +kernel
theorem kd_Dm_text_47 : decode kb_Dm_text 47 = .ok (.aload_n 0, 1) := by decide +kernel
theorem kd_Dm_text_48 : decode kb_Dm_text 48 = .ok (.getfield 40, 3) := by decide +kernel
theorem kd_Dm_text_51 : decode kb_Dm_text 51 = .ok (.iconst 0, 1) := by decide +kernel
theorem kd_Dm_text_52 : decode kb_Dm_text 52 = .ok (.aaload, 1) := by decide +kernel
theorem kd_Dm_text_53 : decode kb_Dm_text 53 = .ok (.iconst 0, 1) := by decide +kernel
theorem kd_Dm_text_54 : decode kb_Dm_text 54 = .ok (.putfield 84, 3) := by decide +kernel
theorem kd_Dm_text_57 : decode kb_Dm_text 57 = .ok (.aload_n 0, 1) := by decide +kernel
theorem kd_Dm_text_58 : decode kb_Dm_text 58 = .ok (.getfield 40, 3) := by decide +kernel
theorem kd_Dm_text_61 : decode kb_Dm_text 61 = .ok (.iconst 1, 1) := by decide +kernel
theorem kd_Dm_text_62 : decode kb_Dm_text 62 = .ok (.aaload, 1) := by decide +kernel
theorem kd_Dm_text_63 : decode kb_Dm_text 63 = .ok (.iconst 0, 1) := by decide +kernel
theorem kd_Dm_text_64 : decode kb_Dm_text 64 = .ok (.putfield 84, 3) := by decide +kernel
theorem kd_Dm_text_67 : decode kb_Dm_text 67 = .ok (.aload_n 0, 1) := by decide +kernel
theorem kd_Dm_text_68 : decode kb_Dm_text 68 = .ok (.getfield 22, 3) := by decide +kernel
theorem kd_Dm_text_71 : decode kb_Dm_text 71 = .ok (.getfield 100, 3) := by decide +kernel
theorem kd_Dm_text_74 : decode kb_Dm_text 74 = .ok (.ireturn, 1) := by decide +kernel
theorem kd_Dm_matches_0 : decode kb_Dm_matches 0 = .ok (.iload_n 1, 1) := by decide +kernel
theorem kd_Dm_matches_1 : decode kb_Dm_matches 1 = .ok (.invokestatic 64, 3) := by decide +kernel
theorem kd_Dm_matches_4 : decode kb_Dm_matches 4 = .ok (.ifCond .eq 32, 3) := by decide +kernel
theorem kd_Dm_matches_7 : decode kb_Dm_matches 7 = .ok (.aload_n 0, 1) := by decide +kernel
theorem kd_Dm_matches_8 : decode kb_Dm_matches 8 = .ok (.aload_n 0, 1) := by decide +kernel
theorem kd_Dm_matches_9 : decode kb_Dm_matches 9 = .ok (.getfield 40, 3) := by decide +kernel
theorem kd_Dm_matches_12 : decode kb_Dm_matches 12 = .ok (.iload_n 1, 1) := by decide +kernel
theorem kd_Dm_matches_13 : decode kb_Dm_matches 13 = .ok (.aaload, 1) := by decide +kernel
theorem kd_Dm_matches_14 : decode kb_Dm_matches 14 = .ok (.invokevirtual 103, 3) := by decide +kernel
theorem kd_Dm_matches_17 : decode kb_Dm_matches 17 = .ok (.iconst 0, 1) := by decide +kernel
theorem kd_Dm_matches_18 : decode kb_Dm_matches 18 = .ok (.iaload, 1) := by decide +kernel
theorem kd_Dm_matches_19 : decode kb_Dm_matches 19 = .ok (.aload_n 0, 1) := by decide +kernel
theorem kd_Dm_matches_20 : decode kb_Dm_matches 20 = .ok (.getfield 22, 3) := by decide +kernel
theorem kd_Dm_matches_23 : decode kb_Dm_matches 23 = .ok (.getfield 100, 3) := by decide +kernel
theorem kd_Dm_matches_26 : decode kb_Dm_matches 26 = .ok (.invokestatic 107, 3) := by decide +kernel
theorem kd_Dm_matches_29 : decode kb_Dm_matches 29 = .ok (.ifCond .eq 7, 3) := by decide +kernel
theorem kd_Dm_matches_32 : decode kb_Dm_matches 32 = .ok (.iconst 1, 1) := by decide +kernel
theorem kd_Dm_matches_33 : decode kb_Dm_matches 33 = .ok (.goto 4, 3) := by decide +kernel
theorem kd_Dm_matches_36 : decode kb_Dm_matches 36 = .ok (.iconst 0, 1) := by decide +kernel
theorem kd_Dm_matches_37 : decode kb_Dm_matches 37 = .ok (.ireturn, 1) := by decide +kernel
theorem kd_Dm_find_0 : decode kb_Dm_find 0 = .ok (.iload_n 1, 1) := by decide +kernel
theorem kd_Dm_find_1 : decode kb_Dm_find 1 = .ok (.invokestatic 64, 3) := by decide +kernel
theorem kd_Dm_find_4 : decode kb_Dm_find 4 = .ok (.ifCond .eq 18, 3) := by decide +kernel
theorem kd_Dm_find_7 : decode kb_Dm_find 7 = .ok (.iload_n 2, 1) := by decide +kernel
theorem kd_Dm_find_8 : decode kb_Dm_find 8 = .ok (.ifCond .lt 14, 3) := by decide +kernel
theorem kd_Dm_find_11 : decode kb_Dm_find 11 = .ok (.iload_n 2, 1) := by decide +kernel
theorem kd_Dm_find_12 : decode kb_Dm_find 12 = .ok (.aload_n 0, 1) := by decide +kernel
theorem kd_Dm_find_13 : decode kb_Dm_find 13 = .ok (.getfield 22, 3) := by decide +kernel
theorem kd_Dm_find_16 : decode kb_Dm_find 16 = .ok (.getfield 100, 3) := by decide +kernel
theorem kd_Dm_find_19 : decode kb_Dm_find 19 = .ok (.if_icmp .le 5, 3) := by decide +kernel
theorem kd_Dm_find_22 : decode kb_Dm_find 22 = .ok (.iconst (-1), 1) := by decide +kernel
theorem kd_Dm_find_23 : decode kb_Dm_find 23 = .ok (.ireturn, 1) := by decide +kernel
theorem kd_Dm_find_24 : decode kb_Dm_find 24 = .ok (.aload_n 0, 1) := by decide +kernel
theorem kd_Dm_find_25 : decode kb_Dm_find 25 = .ok (.aload_n 0, 1) := by decide +kernel
theorem kd_Dm_find_26 : decode kb_Dm_find 26 = .ok (.getfield 40, 3) := by decide +kernel
theorem kd_Dm_find_29 : decode kb_Dm_find 29 = .ok (.iload_n 1, 1) := by decide +kernel
theorem kd_Dm_find_30 : decode kb_Dm_find 30 = .ok (.aaload, 1) := by decide +kernel
theorem kd_Dm_find_31 : decode kb_Dm_find 31 = .ok (.invokevirtual 103, 3) := by decide +kernel
theorem kd_Dm_find_34 : decode kb_Dm_find 34 = .ok (.astore_n 3, 1) := by decide +kernel
theorem kd_Dm_find_35 : decode kb_Dm_find 35 = .ok (.iload_n 2, 1) := by decide +kernel
theorem kd_Dm_find_36 : decode kb_Dm_find 36 = .ok (.istore 4, 2) := by decide +kernel
theorem kd_Dm_find_38 : decode kb_Dm_find 38 = .ok (.iload 4, 2) := by decide +kernel
theorem kd_Dm_find_40 : decode kb_Dm_find 40 = .ok (.aload_n 0, 1) := by decide +kernel
theorem kd_Dm_find_41 : decode kb_Dm_find 41 = .ok (.getfield 22, 3) := by decide +kernel
theorem kd_Dm_find_44 : decode kb_Dm_find 44 = .ok (.getfield 100, 3) := by decide +kernel
theorem kd_Dm_find_47 : decode kb_Dm_find 47 = .ok (.if_icmp .gt 35, 3) := by decide +kernel
theorem kd_Dm_find_50 : decode kb_Dm_find 50 = .ok (.aload_n 3, 1) := by decide +kernel
theorem kd_Dm_find_51 : decode kb_Dm_find 51 = .ok (.iload 4, 2) := by decide +kernel
theorem kd_Dm_find_53 : decode kb_Dm_find 53 = .ok (.iaload, 1) := by decide +kernel
theorem kd_Dm_find_54 : decode kb_Dm_find 54 = .ok (.invokestatic 111, 3) := by decide +kernel
theorem kd_Dm_find_57 : decode kb_Dm_find 57 = .ok (.istore 5, 2) := by decide +kernel
theorem kd_Dm_find_59 : decode kb_Dm_find 59 = .ok (.iload 5, 2) := by decide +kernel
theorem kd_Dm_find_61 : decode kb_Dm_find 61 = .ok (.ifCond .lt 15, 3) := by decide +kernel
theorem kd_Dm_find_64 : decode kb_Dm_find 64 = .ok (.bipush 100, 2) := by decide +kernel
theorem kd_Dm_find_66 : decode kb_Dm_find 66 = .ok (.iload 4, 2) := by decide +kernel
theorem kd_Dm_find_68 : decode kb_Dm_find 68 = .ok (.imul, 1) := by decide +kernel
theorem kd_Dm_find_69 : decode kb_Dm_find 69 = .ok (.iload 4, 2) := by decide +kernel
theorem kd_Dm_find_71 : decode kb_Dm_find 71 = .ok (.iadd, 1) := by decide +kernel
theorem kd_Dm_find_72 : decode kb_Dm_find 72 = .ok (.iload 5, 2) := by decide +kernel
theorem kd_Dm_find_74 : decode kb_Dm_find 74 = .ok (.iadd, 1) := by decide +kernel
theorem kd_Dm_find_75 : decode kb_Dm_find 75 = .ok (.ireturn, 1) := by decide +kernel
theorem kd_Dm_find_76 : decode kb_Dm_find 76 = .ok (.iinc 4 1, 3) := by decide +kernel
theorem kd_Dm_find_79 : decode kb_Dm_find 79 = .ok (.goto (-41), 3) := by decide +kernel
theorem kd_Dm_find_82 : decode kb_Dm_find 82 = .ok (.bipush (-2), 2) := by decide +kernel
theorem kd_Dm_find_84 : decode kb_Dm_find 84 = .ok (.ireturn, 1) := by decide +kernel
theorem kd_Dm_count_0 : decode kb_Dm_count 0 = .ok (.iload_n 1, 1) := by decide +kernel
theorem kd_Dm_count_1 : decode kb_Dm_count 1 = .ok (.invokestatic 64, 3) := by decide +kernel
theorem kd_Dm_count_4 : decode kb_Dm_count 4 = .ok (.ifCond .ne 5, 3) := by decide +kernel
theorem kd_Dm_count_7 : decode kb_Dm_count 7 = .ok (.iconst (-1), 1) := by decide +kernel
theorem kd_Dm_count_8 : decode kb_Dm_count 8 = .ok (.ireturn, 1) := by decide +kernel
theorem kd_Dm_count_9 : decode kb_Dm_count 9 = .ok (.aload_n 0, 1) := by decide +kernel
theorem kd_Dm_count_10 : decode kb_Dm_count 10 = .ok (.aload_n 0, 1) := by decide +kernel
theorem kd_Dm_count_11 : decode kb_Dm_count 11 = .ok (.getfield 40, 3) := by decide +kernel
theorem kd_Dm_count_14 : decode kb_Dm_count 14 = .ok (.iload_n 1, 1) := by decide +kernel
theorem kd_Dm_count_15 : decode kb_Dm_count 15 = .ok (.aaload, 1) := by decide +kernel
theorem kd_Dm_count_16 : decode kb_Dm_count 16 = .ok (.invokevirtual 103, 3) := by decide +kernel
theorem kd_Dm_count_19 : decode kb_Dm_count 19 = .ok (.astore_n 2, 1) := by decide +kernel
theorem kd_Dm_count_20 : decode kb_Dm_count 20 = .ok (.iconst 0, 1) := by decide +kernel
theorem kd_Dm_count_21 : decode kb_Dm_count 21 = .ok (.istore_n 3, 1) := by decide +kernel
theorem kd_Dm_count_22 : decode kb_Dm_count 22 = .ok (.iconst 0, 1) := by decide +kernel
theorem kd_Dm_count_23 : decode kb_Dm_count 23 = .ok (.istore 4, 2) := by decide +kernel
theorem kd_Dm_count_25 : decode kb_Dm_count 25 = .ok (.iload 4, 2) := by decide +kernel
theorem kd_Dm_count_27 : decode kb_Dm_count 27 = .ok (.aload_n 0, 1) := by decide +kernel
theorem kd_Dm_count_28 : decode kb_Dm_count 28 = .ok (.getfield 22, 3) := by decide +kernel
theorem kd_Dm_count_31 : decode kb_Dm_count 31 = .ok (.getfield 100, 3) := by decide +kernel
theorem kd_Dm_count_34 : decode kb_Dm_count 34 = .ok (.if_icmp .gt 34, 3) := by decide +kernel
theorem kd_Dm_count_37 : decode kb_Dm_count 37 = .ok (.aload_n 2, 1) := by decide +kernel
theorem kd_Dm_count_38 : decode kb_Dm_count 38 = .ok (.iload 4, 2) := by decide +kernel
theorem kd_Dm_count_40 : decode kb_Dm_count 40 = .ok (.iaload, 1) := by decide +kernel
theorem kd_Dm_count_41 : decode kb_Dm_count 41 = .ok (.invokestatic 111, 3) := by decide +kernel
theorem kd_Dm_count_44 : decode kb_Dm_count 44 = .ok (.istore 5, 2) := by decide +kernel
theorem kd_Dm_count_46 : decode kb_Dm_count 46 = .ok (.iload 5, 2) := by decide +kernel
theorem kd_Dm_count_48 : decode kb_Dm_count 48 = .ok (.ifCond .lt 6, 3) := by decide +kernel
theorem kd_Dm_count_51 : decode kb_Dm_count 51 = .ok (.iinc 3 1, 3) := by decide +kernel
theorem kd_Dm_count_54 : decode kb_Dm_count 54 = .ok (.iload 4, 2) := by decide +kernel
theorem kd_Dm_count_56 : decode kb_Dm_count 56 = .ok (.iload 5, 2) := by decide +kernel
theorem kd_Dm_count_58 : decode kb_Dm_count 58 = .ok (.iconst 1, 1) := by decide +kernel
theorem kd_Dm_count_59 : decode kb_Dm_count 59 = .ok (.invokestatic 115, 3) := by decide +kernel
theorem kd_Dm_count_62 : decode kb_Dm_count 62 = .ok (.iadd, 1) := by decide +kernel
theorem kd_Dm_count_63 : decode kb_Dm_count 63 = .ok (.istore 4, 2) := by decide +kernel
theorem kd_Dm_count_65 : decode kb_Dm_count 65 = .ok (.goto (-40), 3) := by decide +kernel
theorem kd_Dm_count_68 : decode kb_Dm_count 68 = .ok (.iload_n 3, 1) := by decide +kernel
theorem kd_Dm_count_69 : decode kb_Dm_count 69 = .ok (.ireturn, 1) := by decide +kernel
theorem kd_Dm_earliest_0 : decode kb_Dm_earliest 0 = .ok (.iload_n 1, 1) := by decide +kernel
theorem kd_Dm_earliest_1 : decode kb_Dm_earliest 1 = .ok (.invokestatic 64, 3) := by decide +kernel
theorem kd_Dm_earliest_4 : decode kb_Dm_earliest 4 = .ok (.ifCond .ne 5, 3) := by decide +kernel
theorem kd_Dm_earliest_7 : decode kb_Dm_earliest 7 = .ok (.iconst (-1), 1) := by decide +kernel
theorem kd_Dm_earliest_8 : decode kb_Dm_earliest 8 = .ok (.ireturn, 1) := by decide +kernel
theorem kd_Dm_earliest_9 : decode kb_Dm_earliest 9 = .ok (.aload_n 0, 1) := by decide +kernel
theorem kd_Dm_earliest_10 : decode kb_Dm_earliest 10 = .ok (.aload_n 0, 1) := by decide +kernel
theorem kd_Dm_earliest_11 : decode kb_Dm_earliest 11 = .ok (.getfield 40, 3) := by decide +kernel
theorem kd_Dm_earliest_14 : decode kb_Dm_earliest 14 = .ok (.iload_n 1, 1) := by decide +kernel
theorem kd_Dm_earliest_15 : decode kb_Dm_earliest 15 = .ok (.aaload, 1) := by decide +kernel
theorem kd_Dm_earliest_16 : decode kb_Dm_earliest 16 = .ok (.invokevirtual 103, 3) := by decide +kernel
theorem kd_Dm_earliest_19 : decode kb_Dm_earliest 19 = .ok (.astore_n 2, 1) := by decide +kernel
theorem kd_Dm_earliest_20 : decode kb_Dm_earliest 20 = .ok (.iconst 0, 1) := by decide +kernel
theorem kd_Dm_earliest_21 : decode kb_Dm_earliest 21 = .ok (.istore_n 3, 1) := by decide +kernel
theorem kd_Dm_earliest_22 : decode kb_Dm_earliest 22 = .ok (.iload_n 3, 1) := by decide +kernel
theorem kd_Dm_earliest_23 : decode kb_Dm_earliest 23 = .ok (.aload_n 0, 1) := by decide +kernel
theorem kd_Dm_earliest_24 : decode kb_Dm_earliest 24 = .ok (.getfield 22, 3) := by decide +kernel
theorem kd_Dm_earliest_27 : decode kb_Dm_earliest 27 = .ok (.getfield 100, 3) := by decide +kernel
theorem kd_Dm_earliest_30 : decode kb_Dm_earliest 30 = .ok (.if_icmp .gt 40, 3) := by decide +kernel
theorem kd_Dm_earliest_33 : decode kb_Dm_earliest 33 = .ok (.iconst 0, 1) := by decide +kernel
theorem kd_Dm_earliest_34 : decode kb_Dm_earliest 34 = .ok (.istore 4, 2) := by decide +kernel
theorem kd_Dm_earliest_36 : decode kb_Dm_earliest 36 = .ok (.iload 4, 2) := by decide +kernel
theorem kd_Dm_earliest_38 : decode kb_Dm_earliest 38 = .ok (.iload_n 3, 1) := by decide +kernel
theorem kd_Dm_earliest_39 : decode kb_Dm_earliest 39 = .ok (.if_icmp .gt 25, 3) := by decide +kernel
theorem kd_Dm_earliest_42 : decode kb_Dm_earliest 42 = .ok (.aload_n 2, 1) := by decide +kernel
theorem kd_Dm_earliest_43 : decode kb_Dm_earliest 43 = .ok (.iload 4, 2) := by decide +kernel
theorem kd_Dm_earliest_45 : decode kb_Dm_earliest 45 = .ok (.iaload, 1) := by decide +kernel
theorem kd_Dm_earliest_46 : decode kb_Dm_earliest 46 = .ok (.iload_n 3, 1) := by decide +kernel
theorem kd_Dm_earliest_47 : decode kb_Dm_earliest 47 = .ok (.iload 4, 2) := by decide +kernel
theorem kd_Dm_earliest_49 : decode kb_Dm_earliest 49 = .ok (.isub, 1) := by decide +kernel
theorem kd_Dm_earliest_50 : decode kb_Dm_earliest 50 = .ok (.invokestatic 107, 3) := by decide +kernel
theorem kd_Dm_earliest_53 : decode kb_Dm_earliest 53 = .ok (.ifCond .eq 5, 3) := by decide +kernel
theorem kd_Dm_earliest_56 : decode kb_Dm_earliest 56 = .ok (.iload_n 3, 1) := by decide +kernel
theorem kd_Dm_earliest_57 : decode kb_Dm_earliest 57 = .ok (.ireturn, 1) := by decide +kernel
theorem kd_Dm_earliest_58 : decode kb_Dm_earliest 58 = .ok (.iinc 4 1, 3) := by decide +kernel
theorem kd_Dm_earliest_61 : decode kb_Dm_earliest 61 = .ok (.goto (-25), 3) := by decide +kernel
theorem kd_Dm_earliest_64 : decode kb_Dm_earliest 64 = .ok (.iinc 3 1, 3) := by decide +kernel
theorem kd_Dm_earliest_67 : decode kb_Dm_earliest 67 = .ok (.goto (-45), 3) := by decide +kernel
theorem kd_Dm_earliest_70 : decode kb_Dm_earliest 70 = .ok (.bipush (-2), 2) := by decide +kernel
theorem kd_Dm_earliest_72 : decode kb_Dm_earliest 72 = .ok (.ireturn, 1) := by decide +kernel
theorem kd_Dm_shortest_0 : decode kb_Dm_shortest 0 = .ok (.iload_n 1, 1) := by decide +kernel
theorem kd_Dm_shortest_1 : decode kb_Dm_shortest 1 = .ok (.invokestatic 64, 3) := by decide +kernel
theorem kd_Dm_shortest_4 : decode kb_Dm_shortest 4 = .ok (.ifCond .eq 12, 3) := by decide +kernel
theorem kd_Dm_shortest_7 : decode kb_Dm_shortest 7 = .ok (.iload_n 2, 1) := by decide +kernel
theorem kd_Dm_shortest_8 : decode kb_Dm_shortest 8 = .ok (.ifCond .lt 8, 3) := by decide +kernel
theorem kd_Dm_shortest_11 : decode kb_Dm_shortest 11 = .ok (.iload_n 2, 1) := by decide +kernel
theorem kd_Dm_shortest_12 : decode kb_Dm_shortest 12 = .ok (.iconst 4, 1) := by decide +kernel
theorem kd_Dm_shortest_13 : decode kb_Dm_shortest 13 = .ok (.if_icmp .le 5, 3) := by decide +kernel
theorem kd_Dm_shortest_16 : decode kb_Dm_shortest 16 = .ok (.iconst (-1), 1) := by decide +kernel
theorem kd_Dm_shortest_17 : decode kb_Dm_shortest 17 = .ok (.ireturn, 1) := by decide +kernel
theorem kd_Dm_shortest_18 : decode kb_Dm_shortest 18 = .ok (.aload_n 0, 1) := by decide +kernel
theorem kd_Dm_shortest_19 : decode kb_Dm_shortest 19 = .ok (.aload_n 0, 1) := by decide +kernel
theorem kd_Dm_shortest_20 : decode kb_Dm_shortest 20 = .ok (.getfield 40, 3) := by decide +kernel
theorem kd_Dm_shortest_23 : decode kb_Dm_shortest 23 = .ok (.iload_n 1, 1) := by decide +kernel
theorem kd_Dm_shortest_24 : decode kb_Dm_shortest 24 = .ok (.aaload, 1) := by decide +kernel
theorem kd_Dm_shortest_25 : decode kb_Dm_shortest 25 = .ok (.invokevirtual 121, 3) := by decide +kernel
theorem kd_Dm_shortest_28 : decode kb_Dm_shortest 28 = .ok (.astore_n 3, 1) := by decide +kernel
theorem kd_Dm_shortest_29 : decode kb_Dm_shortest 29 = .ok (.iload_n 2, 1) := by decide +kernel
theorem kd_Dm_shortest_30 : decode kb_Dm_shortest 30 = .ok (.invokestatic 125, 3) := by decide +kernel
theorem kd_Dm_shortest_33 : decode kb_Dm_shortest 33 = .ok (.istore 4, 2) := by decide +kernel
theorem kd_Dm_shortest_35 : decode kb_Dm_shortest 35 = .ok (.iconst 0, 1) := by decide +kernel
theorem kd_Dm_shortest_36 : decode kb_Dm_shortest 36 = .ok (.istore 5, 2) := by decide +kernel
theorem kd_Dm_shortest_38 : decode kb_Dm_shortest 38 = .ok (.iload 5, 2) := by decide +kernel
theorem kd_Dm_shortest_40 : decode kb_Dm_shortest 40 = .ok (.iload 4, 2) := by decide +kernel
theorem kd_Dm_shortest_42 : decode kb_Dm_shortest 42 = .ok (.if_icmp .ge 23, 3) := by decide +kernel
theorem kd_Dm_shortest_45 : decode kb_Dm_shortest 45 = .ok (.aload_n 3, 1) := by decide +kernel
theorem kd_Dm_shortest_46 : decode kb_Dm_shortest 46 = .ok (.iload 5, 2) := by decide +kernel
theorem kd_Dm_shortest_48 : decode kb_Dm_shortest 48 = .ok (.baload, 1) := by decide +kernel
theorem kd_Dm_shortest_49 : decode kb_Dm_shortest 49 = .ok (.ifCond .eq 10, 3) := by decide +kernel
theorem kd_Dm_shortest_52 : decode kb_Dm_shortest 52 = .ok (.aload_n 0, 1) := by decide +kernel
theorem kd_Dm_shortest_53 : decode kb_Dm_shortest 53 = .ok (.iload 5, 2) := by decide +kernel
theorem kd_Dm_shortest_55 : decode kb_Dm_shortest 55 = .ok (.invokevirtual 128, 3) := by decide +kernel
theorem kd_Dm_shortest_58 : decode kb_Dm_shortest 58 = .ok (.ireturn, 1) := by decide +kernel
theorem kd_Dm_shortest_59 : decode kb_Dm_shortest 59 = .ok (.iinc 5 1, 3) := by decide +kernel
theorem kd_Dm_shortest_62 : decode kb_Dm_shortest 62 = .ok (.goto (-24), 3) := by decide +kernel
theorem kd_Dm_shortest_65 : decode kb_Dm_shortest 65 = .ok (.bipush (-2), 2) := by decide +kernel
theorem kd_Dm_shortest_67 : decode kb_Dm_shortest 67 = .ok (.ireturn, 1) := by decide +kernel
theorem kd_Dm_difference_0 : decode kb_Dm_difference 0 = .ok (.iload_n 1, 1) := by decide +kernel
theorem kd_Dm_difference_1 : decode kb_Dm_difference 1 = .ok (.ifCond .lt 8, 3) := by decide +kernel
theorem kd_Dm_difference_4 : decode kb_Dm_difference 4 = .ok (.iload_n 1, 1) := by decide +kernel
theorem kd_Dm_difference_5 : decode kb_Dm_difference 5 = .ok (.iconst 4, 1) := by decide +kernel
theorem kd_Dm_difference_6 : decode kb_Dm_difference 6 = .ok (.if_icmp .le 5, 3) := by decide +kernel
theorem kd_Dm_difference_9 : decode kb_Dm_difference 9 = .ok (.iconst (-1), 1) := by decide +kernel
theorem kd_Dm_difference_10 : decode kb_Dm_difference 10 = .ok (.ireturn, 1) := by decide +kernel
theorem kd_Dm_difference_11 : decode kb_Dm_difference 11 = .ok (.aload_n 0, 1) := by decide +kernel
theorem kd_Dm_difference_12 : decode kb_Dm_difference 12 = .ok (.aload_n 0, 1) := by decide +kernel
theorem kd_Dm_difference_13 : decode kb_Dm_difference 13 = .ok (.getfield 40, 3) := by decide +kernel
theorem kd_Dm_difference_16 : decode kb_Dm_difference 16 = .ok (.iconst 0, 1) := by decide +kernel
theorem kd_Dm_difference_17 : decode kb_Dm_difference 17 = .ok (.aaload, 1) := by decide +kernel
theorem kd_Dm_difference_18 : decode kb_Dm_difference 18 = .ok (.invokevirtual 121, 3) := by decide +kernel
theorem kd_Dm_difference_21 : decode kb_Dm_difference 21 = .ok (.astore_n 2, 1) := by decide +kernel
theorem kd_Dm_difference_22 : decode kb_Dm_difference 22 = .ok (.aload_n 0, 1) := by decide +kernel
theorem kd_Dm_difference_23 : decode kb_Dm_difference 23 = .ok (.aload_n 0, 1) := by decide +kernel
theorem kd_Dm_difference_24 : decode kb_Dm_difference 24 = .ok (.getfield 40, 3) := by decide +kernel
theorem kd_Dm_difference_27 : decode kb_Dm_difference 27 = .ok (.iconst 1, 1) := by decide +kernel
theorem kd_Dm_difference_28 : decode kb_Dm_difference 28 = .ok (.aaload, 1) := by decide +kernel
theorem kd_Dm_difference_29 : decode kb_Dm_difference 29 = .ok (.invokevirtual 121, 3) := by decide +kernel
theorem kd_Dm_difference_32 : decode kb_Dm_difference 32 = .ok (.astore_n 3, 1) := by decide +kernel
theorem kd_Dm_difference_33 : decode kb_Dm_difference 33 = .ok (.iload_n 1, 1) := by decide +kernel
theorem kd_Dm_difference_34 : decode kb_Dm_difference 34 = .ok (.invokestatic 125, 3) := by decide +kernel
theorem kd_Dm_difference_37 : decode kb_Dm_difference 37 = .ok (.istore 4, 2) := by decide +kernel
theorem kd_Dm_difference_39 : decode kb_Dm_difference 39 = .ok (.iconst 0, 1) := by decide +kernel
theorem kd_Dm_difference_40 : decode kb_Dm_difference 40 = .ok (.istore 5, 2) := by decide +kernel
theorem kd_Dm_difference_42 : decode kb_Dm_difference 42 = .ok (.iload 5, 2) := by decide +kernel
theorem kd_Dm_difference_44 : decode kb_Dm_difference 44 = .ok (.iload 4, 2) := by decide +kernel
theorem kd_Dm_difference_46 : decode kb_Dm_difference 46 = .ok (.if_icmp .ge 27, 3) := by decide +kernel
theorem kd_Dm_difference_49 : decode kb_Dm_difference 49 = .ok (.aload_n 2, 1) := by decide +kernel
theorem kd_Dm_difference_50 : decode kb_Dm_difference 50 = .ok (.iload 5, 2) := by decide +kernel
theorem kd_Dm_difference_52 : decode kb_Dm_difference 52 = .ok (.baload, 1) := by decide +kernel
theorem kd_Dm_difference_53 : decode kb_Dm_difference 53 = .ok (.aload_n 3, 1) := by decide +kernel
theorem kd_Dm_difference_54 : decode kb_Dm_difference 54 = .ok (.iload 5, 2) := by decide +kernel
theorem kd_Dm_difference_56 : decode kb_Dm_difference 56 = .ok (.baload, 1) := by decide +kernel
theorem kd_Dm_difference_57 : decode kb_Dm_difference 57 = .ok (.if_icmp .eq 10, 3) := by decide +kernel
theorem kd_Dm_difference_60 : decode kb_Dm_difference 60 = .ok (.aload_n 0, 1) := by decide +kernel
theorem kd_Dm_difference_61 : decode kb_Dm_difference 61 = .ok (.iload 5, 2) := by decide +kernel
theorem kd_Dm_difference_63 : decode kb_Dm_difference 63 = .ok (.invokevirtual 128, 3) := by decide +kernel
theorem kd_Dm_difference_66 : decode kb_Dm_difference 66 = .ok (.ireturn, 1) := by decide +kernel
theorem kd_Dm_difference_67 : decode kb_Dm_difference 67 = .ok (.iinc 5 1, 3) := by decide +kernel
theorem kd_Dm_difference_70 : decode kb_Dm_difference 70 = .ok (.goto (-28), 3) := by decide +kernel
theorem kd_Dm_difference_73 : decode kb_Dm_difference 73 = .ok (.bipush (-2), 2) := by decide +kernel
theorem kd_Dm_difference_75 : decode kb_Dm_difference 75 = .ok (.ireturn, 1) := by decide +kernel
theorem kd_Dm_word_0 : decode kb_Dm_word 0 = .ok (.iload_n 1, 1) := by decide +kernel
theorem kd_Dm_word_1 : decode kb_Dm_word 1 = .ok (.ifCond .lt 11, 3) := by decide +kernel
theorem kd_Dm_word_4 : decode kb_Dm_word 4 = .ok (.iload_n 1, 1) := by decide +kernel
theorem kd_Dm_word_5 : decode kb_Dm_word 5 = .ok (.aload_n 0, 1) := by decide +kernel
theorem kd_Dm_word_6 : decode kb_Dm_word 6 = .ok (.getfield 61, 3) := by decide +kernel
theorem kd_Dm_word_9 : decode kb_Dm_word 9 = .ok (.if_icmp .lt 7, 3) := by decide +kernel
theorem kd_Dm_word_12 : decode kb_Dm_word 12 = .ok (.iconst (-1), 1) := by decide +kernel
theorem kd_Dm_word_13 : decode kb_Dm_word 13 = .ok (.goto 9, 3) := by decide +kernel
theorem kd_Dm_word_16 : decode kb_Dm_word 16 = .ok (.aload_n 0, 1) := by decide +kernel
theorem kd_Dm_word_17 : decode kb_Dm_word 17 = .ok (.getfield 58, 3) := by decide +kernel
theorem kd_Dm_word_20 : decode kb_Dm_word 20 = .ok (.iload_n 1, 1) := by decide +kernel
theorem kd_Dm_word_21 : decode kb_Dm_word 21 = .ok (.caload, 1) := by decide +kernel
theorem kd_Dm_word_22 : decode kb_Dm_word 22 = .ok (.ireturn, 1) := by decide +kernel
theorem kd_Dm_isPattern_0 : decode kb_Dm_isPattern 0 = .ok (.iload_n 0, 1) := by decide +kernel
theorem kd_Dm_isPattern_1 : decode kb_Dm_isPattern 1 = .ok (.ifCond .eq 8, 3) := by decide +kernel
theorem kd_Dm_isPattern_4 : decode kb_Dm_isPattern 4 = .ok (.iload_n 0, 1) := by decide +kernel
theorem kd_Dm_isPattern_5 : decode kb_Dm_isPattern 5 = .ok (.iconst 1, 1) := by decide +kernel
theorem kd_Dm_isPattern_6 : decode kb_Dm_isPattern 6 = .ok (.if_icmp .ne 7, 3) := by decide +kernel
theorem kd_Dm_isPattern_9 : decode kb_Dm_isPattern 9 = .ok (.iconst 1, 1) := by decide +kernel
theorem kd_Dm_isPattern_10 : decode kb_Dm_isPattern 10 = .ok (.goto 4, 3) := by decide +kernel
theorem kd_Dm_isPattern_13 : decode kb_Dm_isPattern 13 = .ok (.iconst 0, 1) := by decide +kernel
theorem kd_Dm_isPattern_14 : decode kb_Dm_isPattern 14 = .ok (.ireturn, 1) := by decide +kernel
theorem kd_Dm_has_0 : decode kb_Dm_has 0 = .ok (.iload_n 0, 1) := by decide +kernel
theorem kd_Dm_has_1 : decode kb_Dm_has 1 = .ok (.iload_n 1, 1) := by decide +kernel
theorem kd_Dm_has_2 : decode kb_Dm_has 2 = .ok (.ishr, 1) := by decide +kernel
theorem kd_Dm_has_3 : decode kb_Dm_has 3 = .ok (.iconst 1, 1) := by decide +kernel
theorem kd_Dm_has_4 : decode kb_Dm_has 4 = .ok (.iand, 1) := by decide +kernel
theorem kd_Dm_has_5 : decode kb_Dm_has 5 = .ok (.ifCond .eq 7, 3) := by decide +kernel
theorem kd_Dm_has_8 : decode kb_Dm_has 8 = .ok (.iconst 1, 1) := by decide +kernel
theorem kd_Dm_has_9 : decode kb_Dm_has 9 = .ok (.goto 4, 3) := by decide +kernel
theorem kd_Dm_has_12 : decode kb_Dm_has 12 = .ok (.iconst 0, 1) := by decide +kernel
theorem kd_Dm_has_13 : decode kb_Dm_has 13 = .ok (.ireturn, 1) := by decide +kernel
theorem kd_Dm_lengthsUpTo_0 : decode kb_Dm_lengthsUpTo 0 = .ok (.iconst 1, 1) := by decide +kernel
theorem kd_Dm_lengthsUpTo_1 : decode kb_Dm_lengthsUpTo 1 = .ok (.iload_n 0, 1) := by decide +kernel
theorem kd_Dm_lengthsUpTo_2 : decode kb_Dm_lengthsUpTo 2 = .ok (.iconst 1, 1) := by decide +kernel
theorem kd_Dm_lengthsUpTo_3 : decode kb_Dm_lengthsUpTo 3 = .ok (.iadd, 1) := by decide +kernel
theorem kd_Dm_lengthsUpTo_4 : decode kb_Dm_lengthsUpTo 4 = .ok (.ishl, 1) := by decide +kernel
theorem kd_Dm_lengthsUpTo_5 : decode kb_Dm_lengthsUpTo 5 = .ok (.iconst 1, 1) := by decide +kernel
theorem kd_Dm_lengthsUpTo_6 : decode kb_Dm_lengthsUpTo 6 = .ok (.isub, 1) := by decide +kernel
theorem kd_Dm_lengthsUpTo_7 : decode kb_Dm_lengthsUpTo 7 = .ok (.ireturn, 1) := by decide +kernel
theorem kd_Dm_longestOf_0 : decode kb_Dm_longestOf 0 = .ok (.bipush 24, 2) := by decide +kernel
theorem kd_Dm_longestOf_2 : decode kb_Dm_longestOf 2 = .ok (.istore_n 1, 1) := by decide +kernel
theorem kd_Dm_longestOf_3 : decode kb_Dm_longestOf 3 = .ok (.iload_n 1, 1) := by decide +kernel
theorem kd_Dm_longestOf_4 : decode kb_Dm_longestOf 4 = .ok (.ifCond .lt 19, 3) := by decide +kernel
theorem kd_Dm_longestOf_7 : decode kb_Dm_longestOf 7 = .ok (.iload_n 0, 1) := by decide +kernel
theorem kd_Dm_longestOf_8 : decode kb_Dm_longestOf 8 = .ok (.iload_n 1, 1) := by decide +kernel
theorem kd_Dm_longestOf_9 : decode kb_Dm_longestOf 9 = .ok (.invokestatic 107, 3) := by decide +kernel
theorem kd_Dm_longestOf_12 : decode kb_Dm_longestOf 12 = .ok (.ifCond .eq 5, 3) := by decide +kernel
theorem kd_Dm_longestOf_15 : decode kb_Dm_longestOf 15 = .ok (.iload_n 1, 1) := by decide +kernel
theorem kd_Dm_longestOf_16 : decode kb_Dm_longestOf 16 = .ok (.ireturn, 1) := by decide +kernel
theorem kd_Dm_longestOf_17 : decode kb_Dm_longestOf 17 = .ok (.iinc 1 (-1), 3) := by decide +kernel
theorem kd_Dm_longestOf_20 : decode kb_Dm_longestOf 20 = .ok (.goto (-17), 3) := by decide +kernel
theorem kd_Dm_longestOf_23 : decode kb_Dm_longestOf 23 = .ok (.iconst (-1), 1) := by decide +kernel
theorem kd_Dm_longestOf_24 : decode kb_Dm_longestOf 24 = .ok (.ireturn, 1) := by decide +kernel
theorem kd_Dm_partsOf_0 : decode kb_Dm_partsOf 0 = .ok (.aload_n 1, 1) := by decide +kernel
theorem kd_Dm_partsOf_1 : decode kb_Dm_partsOf 1 = .ok (.getfield 84, 3) := by decide +kernel
theorem kd_Dm_partsOf_4 : decode kb_Dm_partsOf 4 = .ok (.ifCond .ne 43, 3) := by decide +kernel
theorem kd_Dm_partsOf_7 : decode kb_Dm_partsOf 7 = .ok (.aload_n 0, 1) := by decide +kernel
theorem kd_Dm_partsOf_8 : decode kb_Dm_partsOf 8 = .ok (.getfield 54, 3) := by decide +kernel
theorem kd_Dm_partsOf_11 : decode kb_Dm_partsOf 11 = .ok (.aload_n 1, 1) := by decide +kernel
theorem kd_Dm_partsOf_12 : decode kb_Dm_partsOf 12 = .ok (.getfield 76, 3) := by decide +kernel
theorem kd_Dm_partsOf_15 : decode kb_Dm_partsOf 15 = .ok (.aload_n 0, 1) := by decide +kernel
theorem kd_Dm_partsOf_16 : decode kb_Dm_partsOf 16 = .ok (.getfield 22, 3) := by decide +kernel
theorem kd_Dm_partsOf_19 : decode kb_Dm_partsOf 19 = .ok (.invokevirtual 131, 3) := by decide +kernel
theorem kd_Dm_partsOf_22 : decode kb_Dm_partsOf 22 = .ok (.astore_n 2, 1) := by decide +kernel
theorem kd_Dm_partsOf_23 : decode kb_Dm_partsOf 23 = .ok (.aload_n 2, 1) := by decide +kernel
theorem kd_Dm_partsOf_24 : decode kb_Dm_partsOf 24 = .ok (.iconst 0, 1) := by decide +kernel
theorem kd_Dm_partsOf_25 : decode kb_Dm_partsOf 25 = .ok (.aload_n 1, 1) := by decide +kernel
theorem kd_Dm_partsOf_26 : decode kb_Dm_partsOf 26 = .ok (.getfield 135, 3) := by decide +kernel
theorem kd_Dm_partsOf_29 : decode kb_Dm_partsOf 29 = .ok (.iconst 0, 1) := by decide +kernel
theorem kd_Dm_partsOf_30 : decode kb_Dm_partsOf 30 = .ok (.aload_n 0, 1) := by decide +kernel
theorem kd_Dm_partsOf_31 : decode kb_Dm_partsOf 31 = .ok (.getfield 22, 3) := by decide +kernel
theorem kd_Dm_partsOf_34 : decode kb_Dm_partsOf 34 = .ok (.getfield 100, 3) := by decide +kernel
theorem kd_Dm_partsOf_37 : decode kb_Dm_partsOf 37 = .ok (.iconst 1, 1) := by decide +kernel
theorem kd_Dm_partsOf_38 : decode kb_Dm_partsOf 38 = .ok (.iadd, 1) := by decide +kernel
theorem kd_Dm_partsOf_39 : decode kb_Dm_partsOf 39 = .ok (.invokestatic 94, 3) := by decide +kernel
theorem kd_Dm_partsOf_42 : decode kb_Dm_partsOf 42 = .ok (.aload_n 1, 1) := by decide +kernel
theorem kd_Dm_partsOf_43 : decode kb_Dm_partsOf 43 = .ok (.iconst 1, 1) := by decide +kernel
theorem kd_Dm_partsOf_44 : decode kb_Dm_partsOf 44 = .ok (.putfield 84, 3) := by decide +kernel
theorem kd_Dm_partsOf_47 : decode kb_Dm_partsOf 47 = .ok (.aload_n 1, 1) := by decide +kernel
theorem kd_Dm_partsOf_48 : decode kb_Dm_partsOf 48 = .ok (.getfield 135, 3) := by decide +kernel
theorem kd_Dm_partsOf_51 : decode kb_Dm_partsOf 51 = .ok (.areturn, 1) := by decide +kernel
theorem kd_Dm_wordsOf_0 : decode kb_Dm_wordsOf 0 = .ok (.aload_n 1, 1) := by decide +kernel
theorem kd_Dm_wordsOf_1 : decode kb_Dm_wordsOf 1 = .ok (.getfield 88, 3) := by decide +kernel
theorem kd_Dm_wordsOf_4 : decode kb_Dm_wordsOf 4 = .ok (.ifCond .ne 55, 3) := by decide +kernel
theorem kd_Dm_wordsOf_7 : decode kb_Dm_wordsOf 7 = .ok (.aload_n 0, 1) := by decide +kernel
theorem kd_Dm_wordsOf_8 : decode kb_Dm_wordsOf 8 = .ok (.getfield 54, 3) := by decide +kernel
theorem kd_Dm_wordsOf_11 : decode kb_Dm_wordsOf 11 = .ok (.aload_n 1, 1) := by decide +kernel
theorem kd_Dm_wordsOf_12 : decode kb_Dm_wordsOf 12 = .ok (.getfield 76, 3) := by decide +kernel
theorem kd_Dm_wordsOf_15 : decode kb_Dm_wordsOf 15 = .ok (.aload_n 0, 1) := by decide +kernel
theorem kd_Dm_wordsOf_16 : decode kb_Dm_wordsOf 16 = .ok (.getfield 34, 3) := by decide +kernel
theorem kd_Dm_wordsOf_19 : decode kb_Dm_wordsOf 19 = .ok (.invokevirtual 131, 3) := by decide +kernel
theorem kd_Dm_wordsOf_22 : decode kb_Dm_wordsOf 22 = .ok (.astore_n 2, 1) := by decide +kernel
theorem kd_Dm_wordsOf_23 : decode kb_Dm_wordsOf 23 = .ok (.iconst 0, 1) := by decide +kernel
theorem kd_Dm_wordsOf_24 : decode kb_Dm_wordsOf 24 = .ok (.istore_n 3, 1) := by decide +kernel
theorem kd_Dm_wordsOf_25 : decode kb_Dm_wordsOf 25 = .ok (.iload_n 3, 1) := by decide +kernel
theorem kd_Dm_wordsOf_26 : decode kb_Dm_wordsOf 26 = .ok (.aload_n 0, 1) := by decide +kernel
theorem kd_Dm_wordsOf_27 : decode kb_Dm_wordsOf 27 = .ok (.getfield 34, 3) := by decide +kernel
theorem kd_Dm_wordsOf_30 : decode kb_Dm_wordsOf 30 = .ok (.getfield 100, 3) := by decide +kernel
theorem kd_Dm_wordsOf_33 : decode kb_Dm_wordsOf 33 = .ok (.if_icmp .gt 21, 3) := by decide +kernel
theorem kd_Dm_wordsOf_36 : decode kb_Dm_wordsOf 36 = .ok (.aload_n 0, 1) := by decide +kernel
theorem kd_Dm_wordsOf_37 : decode kb_Dm_wordsOf 37 = .ok (.iload_n 3, 1) := by decide +kernel
theorem kd_Dm_wordsOf_38 : decode kb_Dm_wordsOf 38 = .ok (.aload_n 2, 1) := by decide +kernel
theorem kd_Dm_wordsOf_39 : decode kb_Dm_wordsOf 39 = .ok (.iload_n 3, 1) := by decide +kernel
theorem kd_Dm_wordsOf_40 : decode kb_Dm_wordsOf 40 = .ok (.iaload, 1) := by decide +kernel
theorem kd_Dm_wordsOf_41 : decode kb_Dm_wordsOf 41 = .ok (.aload_n 1, 1) := by decide +kernel
theorem kd_Dm_wordsOf_42 : decode kb_Dm_wordsOf 42 = .ok (.getfield 139, 3) := by decide +kernel
theorem kd_Dm_wordsOf_45 : decode kb_Dm_wordsOf 45 = .ok (.invokevirtual 143, 3) := by decide +kernel
theorem kd_Dm_wordsOf_48 : decode kb_Dm_wordsOf 48 = .ok (.iinc 3 1, 3) := by decide +kernel
theorem kd_Dm_wordsOf_51 : decode kb_Dm_wordsOf 51 = .ok (.goto (-26), 3) := by decide +kernel
theorem kd_Dm_wordsOf_54 : decode kb_Dm_wordsOf 54 = .ok (.aload_n 1, 1) := by decide +kernel
theorem kd_Dm_wordsOf_55 : decode kb_Dm_wordsOf 55 = .ok (.iconst 1, 1) := by decide +kernel
theorem kd_Dm_wordsOf_56 : decode kb_Dm_wordsOf 56 = .ok (.putfield 88, 3) := by decide +kernel
theorem kd_Dm_wordsOf_59 : decode kb_Dm_wordsOf 59 = .ok (.aload_n 1, 1) := by decide +kernel
theorem kd_Dm_wordsOf_60 : decode kb_Dm_wordsOf 60 = .ok (.getfield 139, 3) := by decide +kernel
theorem kd_Dm_wordsOf_63 : decode kb_Dm_wordsOf 63 = .ok (.areturn, 1) := by decide +kernel
theorem kd_Dm_noteWords_0 : decode kb_Dm_noteWords 0 = .ok (.aload_n 0, 1) := by decide +kernel
theorem kd_Dm_noteWords_1 : decode kb_Dm_noteWords 1 = .ok (.getfield 34, 3) := by decide +kernel
theorem kd_Dm_noteWords_4 : decode kb_Dm_noteWords 4 = .ok (.iload_n 1, 1) := by decide +kernel
theorem kd_Dm_noteWords_5 : decode kb_Dm_noteWords 5 = .ok (.invokevirtual 147, 3) := by decide +kernel
theorem kd_Dm_noteWords_8 : decode kb_Dm_noteWords 8 = .ok (.istore 4, 2) := by decide +kernel
theorem kd_Dm_noteWords_10 : decode kb_Dm_noteWords 10 = .ok (.iconst 0, 1) := by decide +kernel
theorem kd_Dm_noteWords_11 : decode kb_Dm_noteWords 11 = .ok (.istore 5, 2) := by decide +kernel
theorem kd_Dm_noteWords_13 : decode kb_Dm_noteWords 13 = .ok (.aload_n 3, 1) := by decide +kernel
theorem kd_Dm_noteWords_14 : decode kb_Dm_noteWords 14 = .ok (.iload 5, 2) := by decide +kernel
theorem kd_Dm_noteWords_16 : decode kb_Dm_noteWords 16 = .ok (.iload_n 2, 1) := by decide +kernel
theorem kd_Dm_noteWords_17 : decode kb_Dm_noteWords 17 = .ok (.iconst 0, 1) := by decide +kernel
theorem kd_Dm_noteWords_18 : decode kb_Dm_noteWords 18 = .ok (.invokestatic 107, 3) := by decide +kernel
theorem kd_Dm_noteWords_21 : decode kb_Dm_noteWords 21 = .ok (.bastore, 1) := by decide +kernel
theorem kd_Dm_noteWords_22 : decode kb_Dm_noteWords 22 = .ok (.iconst 1, 1) := by decide +kernel
theorem kd_Dm_noteWords_23 : decode kb_Dm_noteWords 23 = .ok (.istore 6, 2) := by decide +kernel
theorem kd_Dm_noteWords_25 : decode kb_Dm_noteWords 25 = .ok (.iload 6, 2) := by decide +kernel
theorem kd_Dm_noteWords_27 : decode kb_Dm_noteWords 27 = .ok (.iload 4, 2) := by decide +kernel
theorem kd_Dm_noteWords_29 : decode kb_Dm_noteWords 29 = .ok (.if_icmp .gt 45, 3) := by decide +kernel
theorem kd_Dm_noteWords_32 : decode kb_Dm_noteWords 32 = .ok (.iconst 3, 1) := by decide +kernel
theorem kd_Dm_noteWords_33 : decode kb_Dm_noteWords 33 = .ok (.iload 5, 2) := by decide +kernel
theorem kd_Dm_noteWords_35 : decode kb_Dm_noteWords 35 = .ok (.imul, 1) := by decide +kernel
theorem kd_Dm_noteWords_36 : decode kb_Dm_noteWords 36 = .ok (.iconst 1, 1) := by decide +kernel
theorem kd_Dm_noteWords_37 : decode kb_Dm_noteWords 37 = .ok (.iadd, 1) := by decide +kernel
theorem kd_Dm_noteWords_38 : decode kb_Dm_noteWords 38 = .ok (.aload_n 0, 1) := by decide +kernel
theorem kd_Dm_noteWords_39 : decode kb_Dm_noteWords 39 = .ok (.getfield 34, 3) := by decide +kernel
theorem kd_Dm_noteWords_42 : decode kb_Dm_noteWords 42 = .ok (.getfield 91, 3) := by decide +kernel
theorem kd_Dm_noteWords_45 : decode kb_Dm_noteWords 45 = .ok (.iload_n 1, 1) := by decide +kernel
theorem kd_Dm_noteWords_46 : decode kb_Dm_noteWords 46 = .ok (.iload 6, 2) := by decide +kernel
theorem kd_Dm_noteWords_48 : decode kb_Dm_noteWords 48 = .ok (.iadd, 1) := by decide +kernel
theorem kd_Dm_noteWords_49 : decode kb_Dm_noteWords 49 = .ok (.iconst 1, 1) := by decide +kernel
theorem kd_Dm_noteWords_50 : decode kb_Dm_noteWords 50 = .ok (.isub, 1) := by decide +kernel
theorem kd_Dm_noteWords_51 : decode kb_Dm_noteWords 51 = .ok (.caload, 1) := by decide +kernel
theorem kd_Dm_noteWords_52 : decode kb_Dm_noteWords 52 = .ok (.iadd, 1) := by decide +kernel
theorem kd_Dm_noteWords_53 : decode kb_Dm_noteWords 53 = .ok (.bipush 97, 2) := by decide +kernel
theorem kd_Dm_noteWords_55 : decode kb_Dm_noteWords 55 = .ok (.isub, 1) := by decide +kernel
theorem kd_Dm_noteWords_56 : decode kb_Dm_noteWords 56 = .ok (.istore 5, 2) := by decide +kernel
theorem kd_Dm_noteWords_58 : decode kb_Dm_noteWords 58 = .ok (.aload_n 3, 1) := by decide +kernel
theorem kd_Dm_noteWords_59 : decode kb_Dm_noteWords 59 = .ok (.iload 5, 2) := by decide +kernel
theorem kd_Dm_noteWords_61 : decode kb_Dm_noteWords 61 = .ok (.iload_n 2, 1) := by decide +kernel
theorem kd_Dm_noteWords_62 : decode kb_Dm_noteWords 62 = .ok (.iload 6, 2) := by decide +kernel
theorem kd_Dm_noteWords_64 : decode kb_Dm_noteWords 64 = .ok (.invokestatic 107, 3) := by decide +kernel
theorem kd_Dm_noteWords_67 : decode kb_Dm_noteWords 67 = .ok (.bastore, 1) := by decide +kernel
theorem kd_Dm_noteWords_68 : decode kb_Dm_noteWords 68 = .ok (.iinc 6 1, 3) := by decide +kernel
theorem kd_Dm_noteWords_71 : decode kb_Dm_noteWords 71 = .ok (.goto (-46), 3) := by decide +kernel
theorem kd_Dm_noteWords_74 : decode kb_Dm_noteWords 74 = .ok (.return_, 1) := by decide +kernel
theorem kd_Dm_wordsUpTo_0 : decode kb_Dm_wordsUpTo 0 = .ok (.iconst 1, 1) := by decide +kernel
theorem kd_Dm_wordsUpTo_1 : decode kb_Dm_wordsUpTo 1 = .ok (.istore_n 1, 1) := by decide +kernel
theorem kd_Dm_wordsUpTo_2 : decode kb_Dm_wordsUpTo 2 = .ok (.iconst 1, 1) := by decide +kernel
theorem kd_Dm_wordsUpTo_3 : decode kb_Dm_wordsUpTo 3 = .ok (.istore_n 2, 1) := by decide +kernel
theorem kd_Dm_wordsUpTo_4 : decode kb_Dm_wordsUpTo 4 = .ok (.iload_n 2, 1) := by decide +kernel
theorem kd_Dm_wordsUpTo_5 : decode kb_Dm_wordsUpTo 5 = .ok (.iload_n 0, 1) := by decide +kernel
theorem kd_Dm_wordsUpTo_6 : decode kb_Dm_wordsUpTo 6 = .ok (.if_icmp .gt 15, 3) := by decide +kernel
theorem kd_Dm_wordsUpTo_9 : decode kb_Dm_wordsUpTo 9 = .ok (.iconst 3, 1) := by decide +kernel
theorem kd_Dm_wordsUpTo_10 : decode kb_Dm_wordsUpTo 10 = .ok (.iload_n 1, 1) := by decide +kernel
theorem kd_Dm_wordsUpTo_11 : decode kb_Dm_wordsUpTo 11 = .ok (.imul, 1) := by decide +kernel
theorem kd_Dm_wordsUpTo_12 : decode kb_Dm_wordsUpTo 12 = .ok (.iconst 1, 1) := by decide +kernel
theorem kd_Dm_wordsUpTo_13 : decode kb_Dm_wordsUpTo 13 = .ok (.iadd, 1) := by decide +kernel
theorem kd_Dm_wordsUpTo_14 : decode kb_Dm_wordsUpTo 14 = .ok (.istore_n 1, 1) := by decide +kernel
theorem kd_Dm_wordsUpTo_15 : decode kb_Dm_wordsUpTo 15 = .ok (.iinc 2 1, 3) := by decide +kernel
theorem kd_Dm_wordsUpTo_18 : decode kb_Dm_wordsUpTo 18 = .ok (.goto (-14), 3) := by decide +kernel
theorem kd_Dm_wordsUpTo_21 : decode kb_Dm_wordsUpTo 21 = .ok (.iload_n 1, 1) := by decide +kernel
theorem kd_Dm_wordsUpTo_22 : decode kb_Dm_wordsUpTo 22 = .ok (.ireturn, 1) := by decide +kernel
theorem kd_Dm_keepWord_0 : decode kb_Dm_keepWord 0 = .ok (.aload_n 0, 1) := by decide +kernel
theorem kd_Dm_keepWord_1 : decode kb_Dm_keepWord 1 = .ok (.iconst 0, 1) := by decide +kernel
theorem kd_Dm_keepWord_2 : decode kb_Dm_keepWord 2 = .ok (.putfield 61, 3) := by decide +kernel
theorem kd_Dm_keepWord_5 : decode kb_Dm_keepWord 5 = .ok (.iload_n 1, 1) := by decide +kernel
theorem kd_Dm_keepWord_6 : decode kb_Dm_keepWord 6 = .ok (.istore_n 2, 1) := by decide +kernel
theorem kd_Dm_keepWord_7 : decode kb_Dm_keepWord 7 = .ok (.iload_n 2, 1) := by decide +kernel
theorem kd_Dm_keepWord_8 : decode kb_Dm_keepWord 8 = .ok (.ifCond .le 22, 3) := by decide +kernel
theorem kd_Dm_keepWord_11 : decode kb_Dm_keepWord 11 = .ok (.aload_n 0, 1) := by decide +kernel
theorem kd_Dm_keepWord_12 : decode kb_Dm_keepWord 12 = .ok (.dup, 1) := by decide +kernel
theorem kd_Dm_keepWord_13 : decode kb_Dm_keepWord 13 = .ok (.getfield 61, 3) := by decide +kernel
theorem kd_Dm_keepWord_16 : decode kb_Dm_keepWord 16 = .ok (.iconst 1, 1) := by decide +kernel
theorem kd_Dm_keepWord_17 : decode kb_Dm_keepWord 17 = .ok (.iadd, 1) := by decide +kernel
theorem kd_Dm_keepWord_18 : decode kb_Dm_keepWord 18 = .ok (.putfield 61, 3) := by decide +kernel
theorem kd_Dm_keepWord_21 : decode kb_Dm_keepWord 21 = .ok (.iload_n 2, 1) := by decide +kernel
theorem kd_Dm_keepWord_22 : decode kb_Dm_keepWord 22 = .ok (.iconst 1, 1) := by decide +kernel
theorem kd_Dm_keepWord_23 : decode kb_Dm_keepWord 23 = .ok (.isub, 1) := by decide +kernel
theorem kd_Dm_keepWord_24 : decode kb_Dm_keepWord 24 = .ok (.iconst 3, 1) := by decide +kernel
theorem kd_Dm_keepWord_25 : decode kb_Dm_keepWord 25 = .ok (.idiv, 1) := by decide +kernel
theorem kd_Dm_keepWord_26 : decode kb_Dm_keepWord 26 = .ok (.istore_n 2, 1) := by decide +kernel
theorem kd_Dm_keepWord_27 : decode kb_Dm_keepWord 27 = .ok (.goto (-20), 3) := by decide +kernel
theorem kd_Dm_keepWord_30 : decode kb_Dm_keepWord 30 = .ok (.iload_n 1, 1) := by decide +kernel
theorem kd_Dm_keepWord_31 : decode kb_Dm_keepWord 31 = .ok (.istore_n 2, 1) := by decide +kernel
theorem kd_Dm_keepWord_32 : decode kb_Dm_keepWord 32 = .ok (.aload_n 0, 1) := by decide +kernel
theorem kd_Dm_keepWord_33 : decode kb_Dm_keepWord 33 = .ok (.getfield 61, 3) := by decide +kernel
theorem kd_Dm_keepWord_36 : decode kb_Dm_keepWord 36 = .ok (.iconst 1, 1) := by decide +kernel
theorem kd_Dm_keepWord_37 : decode kb_Dm_keepWord 37 = .ok (.isub, 1) := by decide +kernel
theorem kd_Dm_keepWord_38 : decode kb_Dm_keepWord 38 = .ok (.istore_n 3, 1) := by decide +kernel
theorem kd_Dm_keepWord_39 : decode kb_Dm_keepWord 39 = .ok (.iload_n 3, 1) := by decide +kernel
theorem kd_Dm_keepWord_40 : decode kb_Dm_keepWord 40 = .ok (.ifCond .lt 30, 3) := by decide +kernel
theorem kd_Dm_keepWord_43 : decode kb_Dm_keepWord 43 = .ok (.aload_n 0, 1) := by decide +kernel
theorem kd_Dm_keepWord_44 : decode kb_Dm_keepWord 44 = .ok (.getfield 58, 3) := by decide +kernel
theorem kd_Dm_keepWord_47 : decode kb_Dm_keepWord 47 = .ok (.iload_n 3, 1) := by decide +kernel
theorem kd_Dm_keepWord_48 : decode kb_Dm_keepWord 48 = .ok (.bipush 97, 2) := by decide +kernel
theorem kd_Dm_keepWord_50 : decode kb_Dm_keepWord 50 = .ok (.iload_n 2, 1) := by decide +kernel
theorem kd_Dm_keepWord_51 : decode kb_Dm_keepWord 51 = .ok (.iconst 1, 1) := by decide +kernel
theorem kd_Dm_keepWord_52 : decode kb_Dm_keepWord 52 = .ok (.isub, 1) := by decide +kernel
theorem kd_Dm_keepWord_53 : decode kb_Dm_keepWord 53 = .ok (.iconst 3, 1) := by decide +kernel
theorem kd_Dm_keepWord_54 : decode kb_Dm_keepWord 54 = .ok (.irem, 1) := by decide +kernel
theorem kd_Dm_keepWord_55 : decode kb_Dm_keepWord 55 = .ok (.iadd, 1) := by decide +kernel
theorem kd_Dm_keepWord_56 : decode kb_Dm_keepWord 56 = .ok (.i2c, 1) := by decide +kernel

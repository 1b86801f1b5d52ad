theorem kd_Mo_braces_18 : decode kb_Mo_braces 18 = .ok (.putfield 75, 3) := by decide +kernel
theorem kd_Mo_braces_21 : decode kb_Mo_braces 21 = .ok (.iload_n 1, 1) := by decide +kernel
theorem kd_Mo_braces_22 : decode kb_Mo_braces 22 = .ok (.invokestatic 107, 3) := by decide +kernel
theorem kd_Mo_braces_25 : decode kb_Mo_braces 25 = .ok (.ireturn, 1) := by decide +kernel
theorem kd_Mo_braces_26 : decode kb_Mo_braces 26 = .ok (.aload_n 0, 1) := by decide +kernel
theorem kd_Mo_braces_27 : decode kb_Mo_braces 27 = .ok (.getfield 75, 3) := by decide +kernel
theorem kd_Mo_braces_30 : decode kb_Mo_braces 30 = .ok (.iconst 3, 1) := by decide +kernel
theorem kd_Mo_braces_31 : decode kb_Mo_braces 31 = .ok (.if_icmp .ne 40, 3) := by decide +kernel
theorem kd_Mo_braces_34 : decode kb_Mo_braces 34 = .ok (.iload_n 1, 1) := by decide +kernel
theorem kd_Mo_braces_35 : decode kb_Mo_braces 35 = .ok (.invokestatic 107, 3) := by decide +kernel
theorem kd_Mo_braces_38 : decode kb_Mo_braces 38 = .ok (.ifCond .eq 33, 3) := by decide +kernel
theorem kd_Mo_braces_41 : decode kb_Mo_braces 41 = .ok (.aload_n 0, 1) := by decide +kernel
theorem kd_Mo_braces_42 : decode kb_Mo_braces 42 = .ok (.iload_n 1, 1) := by decide +kernel
theorem kd_Mo_braces_43 : decode kb_Mo_braces 43 = .ok (.bipush 48, 2) := by decide +kernel
theorem kd_Mo_braces_45 : decode kb_Mo_braces 45 = .ok (.isub, 1) := by decide +kernel
theorem kd_Mo_braces_46 : decode kb_Mo_braces 46 = .ok (.putfield 110, 3) := by decide +kernel
theorem kd_Mo_braces_49 : decode kb_Mo_braces 49 = .ok (.aload_n 0, 1) := by decide +kernel
theorem kd_Mo_braces_50 : decode kb_Mo_braces 50 = .ok (.iconst 4, 1) := by decide +kernel
theorem kd_Mo_braces_51 : decode kb_Mo_braces 51 = .ok (.putfield 75, 3) := by decide +kernel
theorem kd_Mo_braces_54 : decode kb_Mo_braces 54 = .ok (.aload_n 0, 1) := by decide +kernel
theorem kd_Mo_braces_55 : decode kb_Mo_braces 55 = .ok (.getfield 110, 3) := by decide +kernel
theorem kd_Mo_braces_58 : decode kb_Mo_braces 58 = .ok (.aload_n 0, 1) := by decide +kernel
theorem kd_Mo_braces_59 : decode kb_Mo_braces 59 = .ok (.getfield 104, 3) := by decide +kernel
theorem kd_Mo_braces_62 : decode kb_Mo_braces 62 = .ok (.if_icmp .lt 7, 3) := by decide +kernel
theorem kd_Mo_braces_65 : decode kb_Mo_braces 65 = .ok (.iconst 1, 1) := by decide +kernel
theorem kd_Mo_braces_66 : decode kb_Mo_braces 66 = .ok (.goto 4, 3) := by decide +kernel
theorem kd_Mo_braces_69 : decode kb_Mo_braces 69 = .ok (.iconst 0, 1) := by decide +kernel
theorem kd_Mo_braces_70 : decode kb_Mo_braces 70 = .ok (.ireturn, 1) := by decide +kernel
theorem kd_Mo_braces_71 : decode kb_Mo_braces 71 = .ok (.aload_n 0, 1) := by decide +kernel
theorem kd_Mo_braces_72 : decode kb_Mo_braces 72 = .ok (.getfield 75, 3) := by decide +kernel
theorem kd_Mo_braces_75 : decode kb_Mo_braces 75 = .ok (.iconst 2, 1) := by decide +kernel
theorem kd_Mo_braces_76 : decode kb_Mo_braces 76 = .ok (.if_icmp .ne 16, 3) := by decide +kernel
theorem kd_Mo_braces_79 : decode kb_Mo_braces 79 = .ok (.iload_n 1, 1) := by decide +kernel
theorem kd_Mo_braces_80 : decode kb_Mo_braces 80 = .ok (.bipush 44, 2) := by decide +kernel
theorem kd_Mo_braces_82 : decode kb_Mo_braces 82 = .ok (.if_icmp .ne 10, 3) := by decide +kernel
theorem kd_Mo_braces_85 : decode kb_Mo_braces 85 = .ok (.aload_n 0, 1) := by decide +kernel
theorem kd_Mo_braces_86 : decode kb_Mo_braces 86 = .ok (.iconst 3, 1) := by decide +kernel
theorem kd_Mo_braces_87 : decode kb_Mo_braces 87 = .ok (.putfield 75, 3) := by decide +kernel
theorem kd_Mo_braces_90 : decode kb_Mo_braces 90 = .ok (.iconst 1, 1) := by decide +kernel
theorem kd_Mo_braces_91 : decode kb_Mo_braces 91 = .ok (.ireturn, 1) := by decide +kernel
theorem kd_Mo_braces_92 : decode kb_Mo_braces 92 = .ok (.iload_n 1, 1) := by decide +kernel
theorem kd_Mo_braces_93 : decode kb_Mo_braces 93 = .ok (.bipush 125, 2) := by decide +kernel
theorem kd_Mo_braces_95 : decode kb_Mo_braces 95 = .ok (.if_icmp .eq 5, 3) := by decide +kernel
theorem kd_Mo_braces_98 : decode kb_Mo_braces 98 = .ok (.iconst 0, 1) := by decide +kernel
theorem kd_Mo_braces_99 : decode kb_Mo_braces 99 = .ok (.ireturn, 1) := by decide +kernel
theorem kd_Mo_braces_100 : decode kb_Mo_braces 100 = .ok (.aload_n 0, 1) := by decide +kernel
theorem kd_Mo_braces_101 : decode kb_Mo_braces 101 = .ok (.bipush 9, 2) := by decide +kernel
theorem kd_Mo_braces_103 : decode kb_Mo_braces 103 = .ok (.aload_n 0, 1) := by decide +kernel
theorem kd_Mo_braces_104 : decode kb_Mo_braces 104 = .ok (.getfield 104, 3) := by decide +kernel
theorem kd_Mo_braces_107 : decode kb_Mo_braces 107 = .ok (.aload_n 0, 1) := by decide +kernel
theorem kd_Mo_braces_108 : decode kb_Mo_braces 108 = .ok (.getfield 75, 3) := by decide +kernel
theorem kd_Mo_braces_111 : decode kb_Mo_braces 111 = .ok (.iconst 2, 1) := by decide +kernel
theorem kd_Mo_braces_112 : decode kb_Mo_braces 112 = .ok (.if_icmp .ne 10, 3) := by decide +kernel
theorem kd_Mo_braces_115 : decode kb_Mo_braces 115 = .ok (.aload_n 0, 1) := by decide +kernel
theorem kd_Mo_braces_116 : decode kb_Mo_braces 116 = .ok (.getfield 104, 3) := by decide +kernel
theorem kd_Mo_braces_119 : decode kb_Mo_braces 119 = .ok (.goto 20, 3) := by decide +kernel
theorem kd_Mo_braces_122 : decode kb_Mo_braces 122 = .ok (.aload_n 0, 1) := by decide +kernel
theorem kd_Mo_braces_123 : decode kb_Mo_braces 123 = .ok (.getfield 75, 3) := by decide +kernel
theorem kd_Mo_braces_126 : decode kb_Mo_braces 126 = .ok (.iconst 3, 1) := by decide +kernel
theorem kd_Mo_braces_127 : decode kb_Mo_braces 127 = .ok (.if_icmp .ne 8, 3) := by decide +kernel
theorem kd_Mo_braces_130 : decode kb_Mo_braces 130 = .ok (.bipush 10, 2) := by decide +kernel
theorem kd_Mo_braces_132 : decode kb_Mo_braces 132 = .ok (.goto 7, 3) := by decide +kernel
theorem kd_Mo_braces_135 : decode kb_Mo_braces 135 = .ok (.aload_n 0, 1) := by decide +kernel
theorem kd_Mo_braces_136 : decode kb_Mo_braces 136 = .ok (.getfield 110, 3) := by decide +kernel
theorem kd_Mo_braces_139 : decode kb_Mo_braces 139 = .ok (.invokevirtual 85, 3) := by decide +kernel
theorem kd_Mo_braces_142 : decode kb_Mo_braces 142 = .ok (.iconst 1, 1) := by decide +kernel
theorem kd_Mo_braces_143 : decode kb_Mo_braces 143 = .ok (.ireturn, 1) := by decide +kernel
theorem kd_Mo_closeClass_0 : decode kb_Mo_closeClass 0 = .ok (.iconst 3, 1) := by decide +kernel
theorem kd_Mo_closeClass_1 : decode kb_Mo_closeClass 1 = .ok (.sipush 256, 3) := by decide +kernel
theorem kd_Mo_closeClass_4 : decode kb_Mo_closeClass 4 = .ok (.aload_n 0, 1) := by decide +kernel
theorem kd_Mo_closeClass_5 : decode kb_Mo_closeClass 5 = .ok (.getfield 46, 3) := by decide +kernel
theorem kd_Mo_closeClass_8 : decode kb_Mo_closeClass 8 = .ok (.aload_n 0, 1) := by decide +kernel
theorem kd_Mo_closeClass_9 : decode kb_Mo_closeClass 9 = .ok (.getfield 62, 3) := by decide +kernel
theorem kd_Mo_closeClass_12 : decode kb_Mo_closeClass 12 = .ok (.iaload, 1) := by decide +kernel
theorem kd_Mo_closeClass_13 : decode kb_Mo_closeClass 13 = .ok (.iadd, 1) := by decide +kernel
theorem kd_Mo_closeClass_14 : decode kb_Mo_closeClass 14 = .ok (.imul, 1) := by decide +kernel
theorem kd_Mo_closeClass_15 : decode kb_Mo_closeClass 15 = .ok (.istore_n 1, 1) := by decide +kernel
theorem kd_Mo_closeClass_16 : decode kb_Mo_closeClass 16 = .ok (.iconst 0, 1) := by decide +kernel
theorem kd_Mo_closeClass_17 : decode kb_Mo_closeClass 17 = .ok (.istore_n 2, 1) := by decide +kernel
theorem kd_Mo_closeClass_18 : decode kb_Mo_closeClass 18 = .ok (.iload_n 2, 1) := by decide +kernel
theorem kd_Mo_closeClass_19 : decode kb_Mo_closeClass 19 = .ok (.iconst 3, 1) := by decide +kernel
theorem kd_Mo_closeClass_20 : decode kb_Mo_closeClass 20 = .ok (.if_icmp .ge 34, 3) := by decide +kernel
theorem kd_Mo_closeClass_23 : decode kb_Mo_closeClass 23 = .ok (.aload_n 0, 1) := by decide +kernel
theorem kd_Mo_closeClass_24 : decode kb_Mo_closeClass 24 = .ok (.getfield 96, 3) := by decide +kernel
theorem kd_Mo_closeClass_27 : decode kb_Mo_closeClass 27 = .ok (.ifCond .eq 27, 3) := by decide +kernel
theorem kd_Mo_closeClass_30 : decode kb_Mo_closeClass 30 = .ok (.aload_n 0, 1) := by decide +kernel
theorem kd_Mo_closeClass_31 : decode kb_Mo_closeClass 31 = .ok (.getfield 31, 3) := by decide +kernel
theorem kd_Mo_closeClass_34 : decode kb_Mo_closeClass 34 = .ok (.iload_n 1, 1) := by decide +kernel
theorem kd_Mo_closeClass_35 : decode kb_Mo_closeClass 35 = .ok (.iload_n 2, 1) := by decide +kernel
theorem kd_Mo_closeClass_36 : decode kb_Mo_closeClass 36 = .ok (.iadd, 1) := by decide +kernel
theorem kd_Mo_closeClass_37 : decode kb_Mo_closeClass 37 = .ok (.aload_n 0, 1) := by decide +kernel
theorem kd_Mo_closeClass_38 : decode kb_Mo_closeClass 38 = .ok (.getfield 31, 3) := by decide +kernel
theorem kd_Mo_closeClass_41 : decode kb_Mo_closeClass 41 = .ok (.iload_n 1, 1) := by decide +kernel
theorem kd_Mo_closeClass_42 : decode kb_Mo_closeClass 42 = .ok (.iload_n 2, 1) := by decide +kernel
theorem kd_Mo_closeClass_43 : decode kb_Mo_closeClass 43 = .ok (.iadd, 1) := by decide +kernel
theorem kd_Mo_closeClass_44 : decode kb_Mo_closeClass 44 = .ok (.iaload, 1) := by decide +kernel
theorem kd_Mo_closeClass_45 : decode kb_Mo_closeClass 45 = .ok (.iconst (-1), 1) := by decide +kernel
theorem kd_Mo_closeClass_46 : decode kb_Mo_closeClass 46 = .ok (.ixor, 1) := by decide +kernel
theorem kd_Mo_closeClass_47 : decode kb_Mo_closeClass 47 = .ok (.iastore, 1) := by decide +kernel
theorem kd_Mo_closeClass_48 : decode kb_Mo_closeClass 48 = .ok (.iinc 2 1, 3) := by decide +kernel
theorem kd_Mo_closeClass_51 : decode kb_Mo_closeClass 51 = .ok (.goto (-33), 3) := by decide +kernel
theorem kd_Mo_closeClass_54 : decode kb_Mo_closeClass 54 = .ok (.aload_n 0, 1) := by decide +kernel
theorem kd_Mo_closeClass_55 : decode kb_Mo_closeClass 55 = .ok (.iconst 0, 1) := by decide +kernel
theorem kd_Mo_closeClass_56 : decode kb_Mo_closeClass 56 = .ok (.putfield 75, 3) := by decide +kernel
theorem kd_Mo_closeClass_59 : decode kb_Mo_closeClass 59 = .ok (.iconst 1, 1) := by decide +kernel
theorem kd_Mo_closeClass_60 : decode kb_Mo_closeClass 60 = .ok (.ireturn, 1) := by decide +kernel
theorem kd_Mo_classes_0 : decode kb_Mo_classes 0 = .ok (.aload_n 0, 1) := by decide +kernel
theorem kd_Mo_classes_1 : decode kb_Mo_classes 1 = .ok (.getfield 46, 3) := by decide +kernel
theorem kd_Mo_classes_4 : decode kb_Mo_classes 4 = .ok (.aload_n 0, 1) := by decide +kernel
theorem kd_Mo_classes_5 : decode kb_Mo_classes 5 = .ok (.getfield 62, 3) := by decide +kernel
theorem kd_Mo_classes_8 : decode kb_Mo_classes 8 = .ok (.iaload, 1) := by decide +kernel
theorem kd_Mo_classes_9 : decode kb_Mo_classes 9 = .ok (.istore_n 2, 1) := by decide +kernel
theorem kd_Mo_classes_10 : decode kb_Mo_classes 10 = .ok (.iload_n 1, 1) := by decide +kernel
theorem kd_Mo_classes_11 : decode kb_Mo_classes 11 = .ok (.ifCond .ge 5, 3) := by decide +kernel
theorem kd_Mo_classes_14 : decode kb_Mo_classes 14 = .ok (.iconst 0, 1) := by decide +kernel
theorem kd_Mo_classes_15 : decode kb_Mo_classes 15 = .ok (.ireturn, 1) := by decide +kernel
theorem kd_Mo_classes_16 : decode kb_Mo_classes 16 = .ok (.aload_n 0, 1) := by decide +kernel
theorem kd_Mo_classes_17 : decode kb_Mo_classes 17 = .ok (.getfield 75, 3) := by decide +kernel
theorem kd_Mo_classes_20 : decode kb_Mo_classes 20 = .ok (.iconst 5, 1) := by decide +kernel
theorem kd_Mo_classes_21 : decode kb_Mo_classes 21 = .ok (.if_icmp .ne 22, 3) := by decide +kernel
theorem kd_Mo_classes_24 : decode kb_Mo_classes 24 = .ok (.iload_n 1, 1) := by decide +kernel
theorem kd_Mo_classes_25 : decode kb_Mo_classes 25 = .ok (.bipush 94, 2) := by decide +kernel
theorem kd_Mo_classes_27 : decode kb_Mo_classes 27 = .ok (.if_icmp .ne 16, 3) := by decide +kernel
theorem kd_Mo_classes_30 : decode kb_Mo_classes 30 = .ok (.aload_n 0, 1) := by decide +kernel
theorem kd_Mo_classes_31 : decode kb_Mo_classes 31 = .ok (.iconst 1, 1) := by decide +kernel
theorem kd_Mo_classes_32 : decode kb_Mo_classes 32 = .ok (.putfield 96, 3) := by decide +kernel
theorem kd_Mo_classes_35 : decode kb_Mo_classes 35 = .ok (.aload_n 0, 1) := by decide +kernel
theorem kd_Mo_classes_36 : decode kb_Mo_classes 36 = .ok (.bipush 6, 2) := by decide +kernel
theorem kd_Mo_classes_38 : decode kb_Mo_classes 38 = .ok (.putfield 75, 3) := by decide +kernel
theorem kd_Mo_classes_41 : decode kb_Mo_classes 41 = .ok (.iconst 1, 1) := by decide +kernel
theorem kd_Mo_classes_42 : decode kb_Mo_classes 42 = .ok (.ireturn, 1) := by decide +kernel
theorem kd_Mo_classes_43 : decode kb_Mo_classes 43 = .ok (.iload_n 1, 1) := by decide +kernel
theorem kd_Mo_classes_44 : decode kb_Mo_classes 44 = .ok (.bipush 93, 2) := by decide +kernel
theorem kd_Mo_classes_46 : decode kb_Mo_classes 46 = .ok (.if_icmp .ne 25, 3) := by decide +kernel
theorem kd_Mo_classes_49 : decode kb_Mo_classes 49 = .ok (.aload_n 0, 1) := by decide +kernel
theorem kd_Mo_classes_50 : decode kb_Mo_classes 50 = .ok (.getfield 75, 3) := by decide +kernel
theorem kd_Mo_classes_53 : decode kb_Mo_classes 53 = .ok (.bipush 6, 2) := by decide +kernel
theorem kd_Mo_classes_55 : decode kb_Mo_classes 55 = .ok (.if_icmp .le 14, 3) := by decide +kernel
theorem kd_Mo_classes_58 : decode kb_Mo_classes 58 = .ok (.aload_n 0, 1) := by decide +kernel
theorem kd_Mo_classes_59 : decode kb_Mo_classes 59 = .ok (.invokevirtual 113, 3) := by decide +kernel
theorem kd_Mo_classes_62 : decode kb_Mo_classes 62 = .ok (.ifCond .eq 7, 3) := by decide +kernel
theorem kd_Mo_classes_65 : decode kb_Mo_classes 65 = .ok (.iconst 1, 1) := by decide +kernel
theorem kd_Mo_classes_66 : decode kb_Mo_classes 66 = .ok (.goto 4, 3) := by decide +kernel
theorem kd_Mo_classes_69 : decode kb_Mo_classes 69 = .ok (.iconst 0, 1) := by decide +kernel
theorem kd_Mo_classes_70 : decode kb_Mo_classes 70 = .ok (.ireturn, 1) := by decide +kernel
theorem kd_Mo_classes_71 : decode kb_Mo_classes 71 = .ok (.aload_n 0, 1) := by decide +kernel
theorem kd_Mo_classes_72 : decode kb_Mo_classes 72 = .ok (.getfield 75, 3) := by decide +kernel
theorem kd_Mo_classes_75 : decode kb_Mo_classes 75 = .ok (.bipush 7, 2) := by decide +kernel
theorem kd_Mo_classes_77 : decode kb_Mo_classes 77 = .ok (.if_icmp .ne 23, 3) := by decide +kernel
theorem kd_Mo_classes_80 : decode kb_Mo_classes 80 = .ok (.iload_n 1, 1) := by decide +kernel
theorem kd_Mo_classes_81 : decode kb_Mo_classes 81 = .ok (.bipush 45, 2) := by decide +kernel
theorem kd_Mo_classes_83 : decode kb_Mo_classes 83 = .ok (.if_icmp .ne 17, 3) := by decide +kernel
theorem kd_Mo_classes_86 : decode kb_Mo_classes 86 = .ok (.aload_n 0, 1) := by decide +kernel
theorem kd_Mo_classes_87 : decode kb_Mo_classes 87 = .ok (.iload_n 2, 1) := by decide +kernel
theorem kd_Mo_classes_88 : decode kb_Mo_classes 88 = .ok (.iload_n 1, 1) := by decide +kernel
theorem kd_Mo_classes_89 : decode kb_Mo_classes 89 = .ok (.invokevirtual 100, 3) := by decide +kernel
theorem kd_Mo_classes_92 : decode kb_Mo_classes 92 = .ok (.aload_n 0, 1) := by decide +kernel
theorem kd_Mo_classes_93 : decode kb_Mo_classes 93 = .ok (.bipush 8, 2) := by decide +kernel
theorem kd_Mo_classes_95 : decode kb_Mo_classes 95 = .ok (.putfield 75, 3) := by decide +kernel
theorem kd_Mo_classes_98 : decode kb_Mo_classes 98 = .ok (.iconst 1, 1) := by decide +kernel
theorem kd_Mo_classes_99 : decode kb_Mo_classes 99 = .ok (.ireturn, 1) := by decide +kernel
theorem kd_Mo_classes_100 : decode kb_Mo_classes 100 = .ok (.aload_n 0, 1) := by decide +kernel
theorem kd_Mo_classes_101 : decode kb_Mo_classes 101 = .ok (.getfield 75, 3) := by decide +kernel
theorem kd_Mo_classes_104 : decode kb_Mo_classes 104 = .ok (.bipush 8, 2) := by decide +kernel
theorem kd_Mo_classes_106 : decode kb_Mo_classes 106 = .ok (.if_icmp .ne 50, 3) := by decide +kernel
theorem kd_Mo_classes_109 : decode kb_Mo_classes 109 = .ok (.aload_n 0, 1) := by decide +kernel
theorem kd_Mo_classes_110 : decode kb_Mo_classes 110 = .ok (.iload_n 2, 1) := by decide +kernel
theorem kd_Mo_classes_111 : decode kb_Mo_classes 111 = .ok (.invokevirtual 116, 3) := by decide +kernel
theorem kd_Mo_classes_114 : decode kb_Mo_classes 114 = .ok (.aload_n 0, 1) := by decide +kernel
theorem kd_Mo_classes_115 : decode kb_Mo_classes 115 = .ok (.getfield 110, 3) := by decide +kernel
theorem kd_Mo_classes_118 : decode kb_Mo_classes 118 = .ok (.istore_n 3, 1) := by decide +kernel
theorem kd_Mo_classes_119 : decode kb_Mo_classes 119 = .ok (.iload_n 3, 1) := by decide +kernel
theorem kd_Mo_classes_120 : decode kb_Mo_classes 120 = .ok (.iload_n 1, 1) := by decide +kernel
theorem kd_Mo_classes_121 : decode kb_Mo_classes 121 = .ok (.if_icmp .gt 15, 3) := by decide +kernel
theorem kd_Mo_classes_124 : decode kb_Mo_classes 124 = .ok (.aload_n 0, 1) := by decide +kernel
theorem kd_Mo_classes_125 : decode kb_Mo_classes 125 = .ok (.iload_n 2, 1) := by decide +kernel
theorem kd_Mo_classes_126 : decode kb_Mo_classes 126 = .ok (.iload_n 3, 1) := by decide +kernel
theorem kd_Mo_classes_127 : decode kb_Mo_classes 127 = .ok (.invokevirtual 100, 3) := by decide +kernel
theorem kd_Mo_classes_130 : decode kb_Mo_classes 130 = .ok (.iinc 3 1, 3) := by decide +kernel
theorem kd_Mo_classes_133 : decode kb_Mo_classes 133 = .ok (.goto (-14), 3) := by decide +kernel
theorem kd_Mo_classes_136 : decode kb_Mo_classes 136 = .ok (.aload_n 0, 1) := by decide +kernel
theorem kd_Mo_classes_137 : decode kb_Mo_classes 137 = .ok (.bipush 9, 2) := by decide +kernel
theorem kd_Mo_classes_139 : decode kb_Mo_classes 139 = .ok (.putfield 75, 3) := by decide +kernel
theorem kd_Mo_classes_142 : decode kb_Mo_classes 142 = .ok (.aload_n 0, 1) := by decide +kernel
theorem kd_Mo_classes_143 : decode kb_Mo_classes 143 = .ok (.getfield 110, 3) := by decide +kernel
theorem kd_Mo_classes_146 : decode kb_Mo_classes 146 = .ok (.iload_n 1, 1) := by decide +kernel
theorem kd_Mo_classes_147 : decode kb_Mo_classes 147 = .ok (.if_icmp .gt 7, 3) := by decide +kernel
theorem kd_Mo_classes_150 : decode kb_Mo_classes 150 = .ok (.iconst 1, 1) := by decide +kernel
theorem kd_Mo_classes_151 : decode kb_Mo_classes 151 = .ok (.goto 4, 3) := by decide +kernel
theorem kd_Mo_classes_154 : decode kb_Mo_classes 154 = .ok (.iconst 0, 1) := by decide +kernel
theorem kd_Mo_classes_155 : decode kb_Mo_classes 155 = .ok (.ireturn, 1) := by decide +kernel
theorem kd_Mo_classes_156 : decode kb_Mo_classes 156 = .ok (.aload_n 0, 1) := by decide +kernel
theorem kd_Mo_classes_157 : decode kb_Mo_classes 157 = .ok (.iload_n 2, 1) := by decide +kernel
theorem kd_Mo_classes_158 : decode kb_Mo_classes 158 = .ok (.iload_n 1, 1) := by decide +kernel
theorem kd_Mo_classes_159 : decode kb_Mo_classes 159 = .ok (.invokevirtual 100, 3) := by decide +kernel
theorem kd_Mo_classes_162 : decode kb_Mo_classes 162 = .ok (.aload_n 0, 1) := by decide +kernel
theorem kd_Mo_classes_163 : decode kb_Mo_classes 163 = .ok (.iload_n 1, 1) := by decide +kernel
theorem kd_Mo_classes_164 : decode kb_Mo_classes 164 = .ok (.putfield 110, 3) := by decide +kernel
theorem kd_Mo_classes_167 : decode kb_Mo_classes 167 = .ok (.aload_n 0, 1) := by decide +kernel
theorem kd_Mo_classes_168 : decode kb_Mo_classes 168 = .ok (.bipush 7, 2) := by decide +kernel
theorem kd_Mo_classes_170 : decode kb_Mo_classes 170 = .ok (.putfield 75, 3) := by decide +kernel
theorem kd_Mo_classes_173 : decode kb_Mo_classes 173 = .ok (.iconst 1, 1) := by decide +kernel
theorem kd_Mo_classes_174 : decode kb_Mo_classes 174 = .ok (.ireturn, 1) := by decide +kernel
theorem kd_Mo_undash_0 : decode kb_Mo_undash 0 = .ok (.iconst 3, 1) := by decide +kernel
theorem kd_Mo_undash_1 : decode kb_Mo_undash 1 = .ok (.sipush 256, 3) := by decide +kernel
theorem kd_Mo_undash_4 : decode kb_Mo_undash 4 = .ok (.iload_n 1, 1) := by decide +kernel
theorem kd_Mo_undash_5 : decode kb_Mo_undash 5 = .ok (.iadd, 1) := by decide +kernel
theorem kd_Mo_undash_6 : decode kb_Mo_undash 6 = .ok (.imul, 1) := by decide +kernel
theorem kd_Mo_undash_7 : decode kb_Mo_undash 7 = .ok (.iconst 0, 1) := by decide +kernel
theorem kd_Mo_undash_8 : decode kb_Mo_undash 8 = .ok (.iadd, 1) := by decide +kernel
theorem kd_Mo_undash_9 : decode kb_Mo_undash 9 = .ok (.istore_n 2, 1) := by decide +kernel
theorem kd_Mo_undash_10 : decode kb_Mo_undash 10 = .ok (.aload_n 0, 1) := by decide +kernel
theorem kd_Mo_undash_11 : decode kb_Mo_undash 11 = .ok (.getfield 120, 3) := by decide +kernel
theorem kd_Mo_undash_14 : decode kb_Mo_undash 14 = .ok (.ifCond .ne 19, 3) := by decide +kernel
theorem kd_Mo_undash_17 : decode kb_Mo_undash 17 = .ok (.aload_n 0, 1) := by decide +kernel
theorem kd_Mo_undash_18 : decode kb_Mo_undash 18 = .ok (.getfield 31, 3) := by decide +kernel
theorem kd_Mo_undash_21 : decode kb_Mo_undash 21 = .ok (.iload_n 2, 1) := by decide +kernel
theorem kd_Mo_undash_22 : decode kb_Mo_undash 22 = .ok (.aload_n 0, 1) := by decide +kernel
theorem kd_Mo_undash_23 : decode kb_Mo_undash 23 = .ok (.getfield 31, 3) := by decide +kernel
theorem kd_Mo_undash_26 : decode kb_Mo_undash 26 = .ok (.iload_n 2, 1) := by decide +kernel
theorem kd_Mo_undash_27 : decode kb_Mo_undash 27 = .ok (.iaload, 1) := by decide +kernel
theorem kd_Mo_undash_28 : decode kb_Mo_undash 28 = .ok (.sipush (-8193), 3) := by decide +kernel
theorem kd_Mo_undash_31 : decode kb_Mo_undash 31 = .ok (.iand, 1) := by decide +kernel
theorem kd_Mo_undash_32 : decode kb_Mo_undash 32 = .ok (.iastore, 1) := by decide +kernel
theorem kd_Mo_undash_33 : decode kb_Mo_undash 33 = .ok (.return_, 1) := by decide +kernel
theorem kd_Mo_take_0 : decode kb_Mo_take 0 = .ok (.aload_n 0, 1) := by decide +kernel
theorem kd_Mo_take_1 : decode kb_Mo_take 1 = .ok (.getfield 75, 3) := by decide +kernel
theorem kd_Mo_take_4 : decode kb_Mo_take 4 = .ok (.ifCond .ne 9, 3) := by decide +kernel
theorem kd_Mo_take_7 : decode kb_Mo_take 7 = .ok (.aload_n 0, 1) := by decide +kernel
theorem kd_Mo_take_8 : decode kb_Mo_take 8 = .ok (.iload_n 1, 1) := by decide +kernel
theorem kd_Mo_take_9 : decode kb_Mo_take 9 = .ok (.invokevirtual 123, 3) := by decide +kernel
theorem kd_Mo_take_12 : decode kb_Mo_take 12 = .ok (.ireturn, 1) := by decide +kernel
theorem kd_Mo_take_13 : decode kb_Mo_take 13 = .ok (.aload_n 0, 1) := by decide +kernel
theorem kd_Mo_take_14 : decode kb_Mo_take 14 = .ok (.getfield 75, 3) := by decide +kernel
theorem kd_Mo_take_17 : decode kb_Mo_take 17 = .ok (.iconst 5, 1) := by decide +kernel
theorem kd_Mo_take_18 : decode kb_Mo_take 18 = .ok (.if_icmp .ge 9, 3) := by decide +kernel
theorem kd_Mo_take_21 : decode kb_Mo_take 21 = .ok (.aload_n 0, 1) := by decide +kernel
theorem kd_Mo_take_22 : decode kb_Mo_take 22 = .ok (.iload_n 1, 1) := by decide +kernel
theorem kd_Mo_take_23 : decode kb_Mo_take 23 = .ok (.invokevirtual 126, 3) := by decide +kernel
theorem kd_Mo_take_26 : decode kb_Mo_take 26 = .ok (.ireturn, 1) := by decide +kernel
theorem kd_Mo_take_27 : decode kb_Mo_take 27 = .ok (.aload_n 0, 1) := by decide +kernel
theorem kd_Mo_take_28 : decode kb_Mo_take 28 = .ok (.getfield 75, 3) := by decide +kernel
theorem kd_Mo_take_31 : decode kb_Mo_take 31 = .ok (.bipush 7, 2) := by decide +kernel
theorem kd_Mo_take_33 : decode kb_Mo_take 33 = .ok (.if_icmp .ne 32, 3) := by decide +kernel
theorem kd_Mo_take_36 : decode kb_Mo_take 36 = .ok (.iload_n 1, 1) := by decide +kernel
theorem kd_Mo_take_37 : decode kb_Mo_take 37 = .ok (.bipush 45, 2) := by decide +kernel
theorem kd_Mo_take_39 : decode kb_Mo_take 39 = .ok (.if_icmp .ne 26, 3) := by decide +kernel
theorem kd_Mo_take_42 : decode kb_Mo_take 42 = .ok (.aload_n 0, 1) := by decide +kernel
theorem kd_Mo_take_43 : decode kb_Mo_take 43 = .ok (.aload_n 0, 1) := by decide +kernel
theorem kd_Mo_take_44 : decode kb_Mo_take 44 = .ok (.sipush 256, 3) := by decide +kernel
theorem kd_Mo_take_47 : decode kb_Mo_take 47 = .ok (.aload_n 0, 1) := by decide +kernel
theorem kd_Mo_take_48 : decode kb_Mo_take 48 = .ok (.getfield 46, 3) := by decide +kernel
theorem kd_Mo_take_51 : decode kb_Mo_take 51 = .ok (.aload_n 0, 1) := by decide +kernel
theorem kd_Mo_take_52 : decode kb_Mo_take 52 = .ok (.getfield 62, 3) := by decide +kernel
theorem kd_Mo_take_55 : decode kb_Mo_take 55 = .ok (.iaload, 1) := by decide +kernel
theorem kd_Mo_take_56 : decode kb_Mo_take 56 = .ok (.iadd, 1) := by decide +kernel
theorem kd_Mo_take_57 : decode kb_Mo_take 57 = .ok (.bipush 45, 2) := by decide +kernel
theorem kd_Mo_take_59 : decode kb_Mo_take 59 = .ok (.invokevirtual 129, 3) := by decide +kernel
theorem kd_Mo_take_62 : decode kb_Mo_take 62 = .ok (.putfield 120, 3) := by decide +kernel
theorem kd_Mo_take_65 : decode kb_Mo_take 65 = .ok (.aload_n 0, 1) := by decide +kernel
theorem kd_Mo_take_66 : decode kb_Mo_take 66 = .ok (.iload_n 1, 1) := by decide +kernel
theorem kd_Mo_take_67 : decode kb_Mo_take 67 = .ok (.invokevirtual 133, 3) := by decide +kernel
theorem kd_Mo_take_70 : decode kb_Mo_take 70 = .ok (.ireturn, 1) := by decide +kernel
theorem kd_Mo_pattern_0 : decode kb_Mo_pattern 0 = .ok (.iload_n 1, 1) := by decide +kernel
theorem kd_Mo_pattern_1 : decode kb_Mo_pattern 1 = .ok (.ifCond .lt 8, 3) := by decide +kernel
theorem kd_Mo_pattern_4 : decode kb_Mo_pattern 4 = .ok (.iload_n 1, 1) := by decide +kernel
theorem kd_Mo_pattern_5 : decode kb_Mo_pattern 5 = .ok (.iconst 1, 1) := by decide +kernel
theorem kd_Mo_pattern_6 : decode kb_Mo_pattern 6 = .ok (.if_icmp .le 5, 3) := by decide +kernel
theorem kd_Mo_pattern_9 : decode kb_Mo_pattern 9 = .ok (.iconst (-1), 1) := by decide +kernel
theorem kd_Mo_pattern_10 : decode kb_Mo_pattern 10 = .ok (.ireturn, 1) := by decide +kernel
theorem kd_Mo_pattern_11 : decode kb_Mo_pattern 11 = .ok (.aload_n 0, 1) := by decide +kernel
theorem kd_Mo_pattern_12 : decode kb_Mo_pattern 12 = .ok (.getfield 19, 3) := by decide +kernel
theorem kd_Mo_pattern_15 : decode kb_Mo_pattern 15 = .ok (.iconst 2, 1) := by decide +kernel
theorem kd_Mo_pattern_16 : decode kb_Mo_pattern 16 = .ok (.iconst 0, 1) := by decide +kernel
theorem kd_Mo_pattern_17 : decode kb_Mo_pattern 17 = .ok (.iastore, 1) := by decide +kernel
theorem kd_Mo_pattern_18 : decode kb_Mo_pattern 18 = .ok (.aload_n 0, 1) := by decide +kernel
theorem kd_Mo_pattern_19 : decode kb_Mo_pattern 19 = .ok (.iconst 0, 1) := by decide +kernel
theorem kd_Mo_pattern_20 : decode kb_Mo_pattern 20 = .ok (.putfield 62, 3) := by decide +kernel
theorem kd_Mo_pattern_23 : decode kb_Mo_pattern 23 = .ok (.aload_n 0, 1) := by decide +kernel
theorem kd_Mo_pattern_24 : decode kb_Mo_pattern 24 = .ok (.iconst 0, 1) := by decide +kernel
theorem kd_Mo_pattern_25 : decode kb_Mo_pattern 25 = .ok (.putfield 75, 3) := by decide +kernel
theorem kd_Mo_pattern_28 : decode kb_Mo_pattern 28 = .ok (.aload_n 0, 1) := by decide +kernel
theorem kd_Mo_pattern_29 : decode kb_Mo_pattern 29 = .ok (.invokevirtual 93, 3) := by decide +kernel
theorem kd_Mo_pattern_32 : decode kb_Mo_pattern 32 = .ok (.iconst 0, 1) := by decide +kernel
theorem kd_Mo_pattern_33 : decode kb_Mo_pattern 33 = .ok (.istore_n 2, 1) := by decide +kernel
theorem kd_Mo_pattern_34 : decode kb_Mo_pattern 34 = .ok (.iload_n 2, 1) := by decide +kernel
theorem kd_Mo_pattern_35 : decode kb_Mo_pattern 35 = .ok (.aload_n 0, 1) := by decide +kernel
theorem kd_Mo_pattern_36 : decode kb_Mo_pattern 36 = .ok (.getfield 58, 3) := by decide +kernel
theorem kd_Mo_pattern_39 : decode kb_Mo_pattern 39 = .ok (.if_icmp .gt 34, 3) := by decide +kernel
theorem kd_Mo_pattern_42 : decode kb_Mo_pattern 42 = .ok (.aload_n 0, 1) := by decide +kernel
theorem kd_Mo_pattern_43 : decode kb_Mo_pattern 43 = .ok (.iload_n 2, 1) := by decide +kernel
theorem kd_Mo_pattern_44 : decode kb_Mo_pattern 44 = .ok (.aload_n 0, 1) := by decide +kernel
theorem kd_Mo_pattern_45 : decode kb_Mo_pattern 45 = .ok (.getfield 58, 3) := by decide +kernel
theorem kd_Mo_pattern_48 : decode kb_Mo_pattern 48 = .ok (.if_icmp .ge 12, 3) := by decide +kernel
theorem kd_Mo_pattern_51 : decode kb_Mo_pattern 51 = .ok (.aload_n 0, 1) := by decide +kernel
theorem kd_Mo_pattern_52 : decode kb_Mo_pattern 52 = .ok (.getfield 7, 3) := by decide +kernel
theorem kd_Mo_pattern_55 : decode kb_Mo_pattern 55 = .ok (.iload_n 2, 1) := by decide +kernel
theorem kd_Mo_pattern_56 : decode kb_Mo_pattern 56 = .ok (.iaload, 1) := by decide +kernel
theorem kd_Mo_pattern_57 : decode kb_Mo_pattern 57 = .ok (.goto 4, 3) := by decide +kernel
theorem kd_Mo_pattern_60 : decode kb_Mo_pattern 60 = .ok (.iconst (-1), 1) := by decide +kernel
theorem kd_Mo_pattern_61 : decode kb_Mo_pattern 61 = .ok (.invokevirtual 136, 3) := by decide +kernel
theorem kd_Mo_pattern_64 : decode kb_Mo_pattern 64 = .ok (.ifCond .eq 9, 3) := by decide +kernel
theorem kd_Mo_pattern_67 : decode kb_Mo_pattern 67 = .ok (.iinc 2 1, 3) := by decide +kernel
theorem kd_Mo_pattern_70 : decode kb_Mo_pattern 70 = .ok (.goto (-36), 3) := by decide +kernel
theorem kd_Mo_pattern_73 : decode kb_Mo_pattern 73 = .ok (.iload_n 2, 1) := by decide +kernel
theorem kd_Mo_pattern_74 : decode kb_Mo_pattern 74 = .ok (.aload_n 0, 1) := by decide +kernel
theorem kd_Mo_pattern_75 : decode kb_Mo_pattern 75 = .ok (.getfield 58, 3) := by decide +kernel
theorem kd_Mo_pattern_78 : decode kb_Mo_pattern 78 = .ok (.if_icmp .le 7, 3) := by decide +kernel
theorem kd_Mo_pattern_81 : decode kb_Mo_pattern 81 = .ok (.iconst 1, 1) := by decide +kernel
theorem kd_Mo_pattern_82 : decode kb_Mo_pattern 82 = .ok (.goto 4, 3) := by decide +kernel
theorem kd_Mo_pattern_85 : decode kb_Mo_pattern 85 = .ok (.iconst 0, 1) := by decide +kernel
theorem kd_Mo_pattern_86 : decode kb_Mo_pattern 86 = .ok (.istore_n 3, 1) := by decide +kernel
theorem kd_Mo_pattern_87 : decode kb_Mo_pattern 87 = .ok (.aload_n 0, 1) := by decide +kernel
theorem kd_Mo_pattern_88 : decode kb_Mo_pattern 88 = .ok (.iconst 0, 1) := by decide +kernel
theorem kd_Mo_pattern_89 : decode kb_Mo_pattern 89 = .ok (.putfield 58, 3) := by decide +kernel
theorem kd_Mo_pattern_92 : decode kb_Mo_pattern 92 = .ok (.iload_n 3, 1) := by decide +kernel
theorem kd_Mo_pattern_93 : decode kb_Mo_pattern 93 = .ok (.ifCond .ne 8, 3) := by decide +kernel
theorem kd_Mo_pattern_96 : decode kb_Mo_pattern 96 = .ok (.bipush (-10), 2) := by decide +kernel
theorem kd_Mo_pattern_98 : decode kb_Mo_pattern 98 = .ok (.iload_n 2, 1) := by decide +kernel
theorem kd_Mo_pattern_99 : decode kb_Mo_pattern 99 = .ok (.isub, 1) := by decide +kernel
theorem kd_Mo_pattern_100 : decode kb_Mo_pattern 100 = .ok (.ireturn, 1) := by decide +kernel
theorem kd_Mo_pattern_101 : decode kb_Mo_pattern 101 = .ok (.aload_n 0, 1) := by decide +kernel
theorem kd_Mo_pattern_102 : decode kb_Mo_pattern 102 = .ok (.getfield 19, 3) := by decide +kernel
theorem kd_Mo_pattern_105 : decode kb_Mo_pattern 105 = .ok (.iload_n 1, 1) := by decide +kernel
theorem kd_Mo_pattern_106 : decode kb_Mo_pattern 106 = .ok (.aload_n 0, 1) := by decide +kernel
theorem kd_Mo_pattern_107 : decode kb_Mo_pattern 107 = .ok (.getfield 19, 3) := by decide +kernel
theorem kd_Mo_pattern_110 : decode kb_Mo_pattern 110 = .ok (.iconst 2, 1) := by decide +kernel
theorem kd_Mo_pattern_111 : decode kb_Mo_pattern 111 = .ok (.iaload, 1) := by decide +kernel
theorem kd_Mo_pattern_112 : decode kb_Mo_pattern 112 = .ok (.iastore, 1) := by decide +kernel
theorem kd_Mo_pattern_113 : decode kb_Mo_pattern 113 = .ok (.iconst 0, 1) := by decide +kernel
theorem kd_Mo_pattern_114 : decode kb_Mo_pattern 114 = .ok (.istore 4, 2) := by decide +kernel
theorem kd_Mo_pattern_116 : decode kb_Mo_pattern 116 = .ok (.iload 4, 2) := by decide +kernel
theorem kd_Mo_pattern_118 : decode kb_Mo_pattern 118 = .ok (.aload_n 0, 1) := by decide +kernel
theorem kd_Mo_pattern_119 : decode kb_Mo_pattern 119 = .ok (.getfield 19, 3) := by decide +kernel
theorem kd_Mo_pattern_122 : decode kb_Mo_pattern 122 = .ok (.iconst 2, 1) := by decide +kernel
theorem kd_Mo_pattern_123 : decode kb_Mo_pattern 123 = .ok (.iaload, 1) := by decide +kernel
theorem kd_Mo_pattern_124 : decode kb_Mo_pattern 124 = .ok (.if_icmp .ge 130, 3) := by decide +kernel
theorem kd_Mo_pattern_127 : decode kb_Mo_pattern 127 = .ok (.aload_n 0, 1) := by decide +kernel
theorem kd_Mo_pattern_128 : decode kb_Mo_pattern 128 = .ok (.getfield 22, 3) := by decide +kernel
theorem kd_Mo_pattern_131 : decode kb_Mo_pattern 131 = .ok (.sipush 128, 3) := by decide +kernel
theorem kd_Mo_pattern_134 : decode kb_Mo_pattern 134 = .ok (.iload_n 1, 1) := by decide +kernel
theorem kd_Mo_pattern_135 : decode kb_Mo_pattern 135 = .ok (.imul, 1) := by decide +kernel
theorem kd_Mo_pattern_136 : decode kb_Mo_pattern 136 = .ok (.iload 4, 2) := by decide +kernel
theorem kd_Mo_pattern_138 : decode kb_Mo_pattern 138 = .ok (.iadd, 1) := by decide +kernel
theorem kd_Mo_pattern_139 : decode kb_Mo_pattern 139 = .ok (.aload_n 0, 1) := by decide +kernel
theorem kd_Mo_pattern_140 : decode kb_Mo_pattern 140 = .ok (.getfield 22, 3) := by decide +kernel
theorem kd_Mo_pattern_143 : decode kb_Mo_pattern 143 = .ok (.sipush 256, 3) := by decide +kernel
theorem kd_Mo_pattern_146 : decode kb_Mo_pattern 146 = .ok (.iload 4, 2) := by decide +kernel
theorem kd_Mo_pattern_148 : decode kb_Mo_pattern 148 = .ok (.iadd, 1) := by decide +kernel
theorem kd_Mo_pattern_149 : decode kb_Mo_pattern 149 = .ok (.iaload, 1) := by decide +kernel
theorem kd_Mo_pattern_150 : decode kb_Mo_pattern 150 = .ok (.iastore, 1) := by decide +kernel
theorem kd_Mo_pattern_151 : decode kb_Mo_pattern 151 = .ok (.aload_n 0, 1) := by decide +kernel
theorem kd_Mo_pattern_152 : decode kb_Mo_pattern 152 = .ok (.getfield 25, 3) := by decide +kernel
theorem kd_Mo_pattern_155 : decode kb_Mo_pattern 155 = .ok (.sipush 128, 3) := by decide +kernel
theorem kd_Mo_pattern_158 : decode kb_Mo_pattern 158 = .ok (.iload_n 1, 1) := by decide +kernel
theorem kd_Mo_pattern_159 : decode kb_Mo_pattern 159 = .ok (.imul, 1) := by decide +kernel
theorem kd_Mo_pattern_160 : decode kb_Mo_pattern 160 = .ok (.iload 4, 2) := by decide +kernel
theorem kd_Mo_pattern_162 : decode kb_Mo_pattern 162 = .ok (.iadd, 1) := by decide +kernel
theorem kd_Mo_pattern_163 : decode kb_Mo_pattern 163 = .ok (.aload_n 0, 1) := by decide +kernel
theorem kd_Mo_pattern_164 : decode kb_Mo_pattern 164 = .ok (.getfield 25, 3) := by decide +kernel
theorem kd_Mo_pattern_167 : decode kb_Mo_pattern 167 = .ok (.sipush 256, 3) := by decide +kernel
theorem kd_Mo_pattern_170 : decode kb_Mo_pattern 170 = .ok (.iload 4, 2) := by decide +kernel
theorem kd_Mo_pattern_172 : decode kb_Mo_pattern 172 = .ok (.iadd, 1) := by decide +kernel
theorem kd_Mo_pattern_173 : decode kb_Mo_pattern 173 = .ok (.iaload, 1) := by decide +kernel
theorem kd_Mo_pattern_174 : decode kb_Mo_pattern 174 = .ok (.iastore, 1) := by decide +kernel
theorem kd_Mo_pattern_175 : decode kb_Mo_pattern 175 = .ok (.aload_n 0, 1) := by decide +kernel
theorem kd_Mo_pattern_176 : decode kb_Mo_pattern 176 = .ok (.getfield 28, 3) := by decide +kernel
theorem kd_Mo_pattern_179 : decode kb_Mo_pattern 179 = .ok (.sipush 128, 3) := by decide +kernel
theorem kd_Mo_pattern_182 : decode kb_Mo_pattern 182 = .ok (.iload_n 1, 1) := by decide +kernel
theorem kd_Mo_pattern_183 : decode kb_Mo_pattern 183 = .ok (.imul, 1) := by decide +kernel
theorem kd_Mo_pattern_184 : decode kb_Mo_pattern 184 = .ok (.iload 4, 2) := by decide +kernel
theorem kd_Mo_pattern_186 : decode kb_Mo_pattern 186 = .ok (.iadd, 1) := by decide +kernel
theorem kd_Mo_pattern_187 : decode kb_Mo_pattern 187 = .ok (.aload_n 0, 1) := by decide +kernel
theorem kd_Mo_pattern_188 : decode kb_Mo_pattern 188 = .ok (.getfield 28, 3) := by decide +kernel
theorem kd_Mo_pattern_191 : decode kb_Mo_pattern 191 = .ok (.sipush 256, 3) := by decide +kernel
theorem kd_Mo_pattern_194 : decode kb_Mo_pattern 194 = .ok (.iload 4, 2) := by decide +kernel
theorem kd_Mo_pattern_196 : decode kb_Mo_pattern 196 = .ok (.iadd, 1) := by decide +kernel
theorem kd_Mo_pattern_197 : decode kb_Mo_pattern 197 = .ok (.iaload, 1) := by decide +kernel
theorem kd_Mo_pattern_198 : decode kb_Mo_pattern 198 = .ok (.iastore, 1) := by decide +kernel
theorem kd_Mo_pattern_199 : decode kb_Mo_pattern 199 = .ok (.iconst 0, 1) := by decide +kernel
theorem kd_Mo_pattern_200 : decode kb_Mo_pattern 200 = .ok (.istore 5, 2) := by decide +kernel
theorem kd_Mo_pattern_202 : decode kb_Mo_pattern 202 = .ok (.iload 5, 2) := by decide +kernel
theorem kd_Mo_pattern_204 : decode kb_Mo_pattern 204 = .ok (.iconst 3, 1) := by decide +kernel
theorem kd_Mo_pattern_205 : decode kb_Mo_pattern 205 = .ok (.if_icmp .ge 43, 3) := by decide +kernel
theorem kd_Mo_pattern_208 : decode kb_Mo_pattern 208 = .ok (.aload_n 0, 1) := by decide +kernel
theorem kd_Mo_pattern_209 : decode kb_Mo_pattern 209 = .ok (.getfield 31, 3) := by decide +kernel
theorem kd_Mo_pattern_212 : decode kb_Mo_pattern 212 = .ok (.iconst 3, 1) := by decide +kernel
theorem kd_Mo_pattern_213 : decode kb_Mo_pattern 213 = .ok (.sipush 128, 3) := by decide +kernel
theorem kd_Mo_pattern_216 : decode kb_Mo_pattern 216 = .ok (.iload_n 1, 1) := by decide +kernel
theorem kd_Mo_pattern_217 : decode kb_Mo_pattern 217 = .ok (.imul, 1) := by decide +kernel
theorem kd_Mo_pattern_218 : decode kb_Mo_pattern 218 = .ok (.iload 4, 2) := by decide +kernel
theorem kd_Mo_pattern_220 : decode kb_Mo_pattern 220 = .ok (.iadd, 1) := by decide +kernel
theorem kd_Mo_pattern_221 : decode kb_Mo_pattern 221 = .ok (.imul, 1) := by decide +kernel
theorem kd_Mo_pattern_222 : decode kb_Mo_pattern 222 = .ok (.iload 5, 2) := by decide +kernel
theorem kd_Mo_pattern_224 : decode kb_Mo_pattern 224 = .ok (.iadd, 1) := by decide +kernel
theorem kd_Mo_pattern_225 : decode kb_Mo_pattern 225 = .ok (.aload_n 0, 1) := by decide +kernel
theorem kd_Mo_pattern_226 : decode kb_Mo_pattern 226 = .ok (.getfield 31, 3) := by decide +kernel
theorem kd_Mo_pattern_229 : decode kb_Mo_pattern 229 = .ok (.iconst 3, 1) := by decide +kernel
theorem kd_Mo_pattern_230 : decode kb_Mo_pattern 230 = .ok (.sipush 256, 3) := by decide +kernel
theorem kd_Mo_pattern_233 : decode kb_Mo_pattern 233 = .ok (.iload 4, 2) := by decide +kernel
theorem kd_Mo_pattern_235 : decode kb_Mo_pattern 235 = .ok (.iadd, 1) := by decide +kernel
theorem kd_Mo_pattern_236 : decode kb_Mo_pattern 236 = .ok (.imul, 1) := by decide +kernel
theorem kd_Mo_pattern_237 : decode kb_Mo_pattern 237 = .ok (.iload 5, 2) := by decide +kernel
theorem kd_Mo_pattern_239 : decode kb_Mo_pattern 239 = .ok (.iadd, 1) := by decide +kernel
theorem kd_Mo_pattern_240 : decode kb_Mo_pattern 240 = .ok (.iaload, 1) := by decide +kernel
theorem kd_Mo_pattern_241 : decode kb_Mo_pattern 241 = .ok (.iastore, 1) := by decide +kernel
theorem kd_Mo_pattern_242 : decode kb_Mo_pattern 242 = .ok (.iinc 5 1, 3) := by decide +kernel
theorem kd_Mo_pattern_245 : decode kb_Mo_pattern 245 = .ok (.goto (-43), 3) := by decide +kernel
theorem kd_Mo_pattern_248 : decode kb_Mo_pattern 248 = .ok (.iinc 4 1, 3) := by decide +kernel
theorem kd_Mo_pattern_251 : decode kb_Mo_pattern 251 = .ok (.goto (-135), 3) := by decide +kernel
theorem kd_Mo_pattern_254 : decode kb_Mo_pattern 254 = .ok (.iconst 0, 1) := by decide +kernel
theorem kd_Mo_pattern_255 : decode kb_Mo_pattern 255 = .ok (.ireturn, 1) := by decide +kernel
theorem kd_Mo_text_0 : decode kb_Mo_text 0 = .ok (.aload_n 0, 1) := by decide +kernel
theorem kd_Mo_text_1 : decode kb_Mo_text 1 = .ok (.getfield 58, 3) := by decide +kernel
theorem kd_Mo_text_4 : decode kb_Mo_text 4 = .ok (.bipush 24, 2) := by decide +kernel
theorem kd_Mo_text_6 : decode kb_Mo_text 6 = .ok (.if_icmp .le 5, 3) := by decide +kernel
theorem kd_Mo_text_9 : decode kb_Mo_text 9 = .ok (.iconst (-1), 1) := by decide +kernel
theorem kd_Mo_text_10 : decode kb_Mo_text 10 = .ok (.ireturn, 1) := by decide +kernel
theorem kd_Mo_text_11 : decode kb_Mo_text 11 = .ok (.iconst 0, 1) := by decide +kernel
theorem kd_Mo_text_12 : decode kb_Mo_text 12 = .ok (.istore_n 1, 1) := by decide +kernel
theorem kd_Mo_text_13 : decode kb_Mo_text 13 = .ok (.iload_n 1, 1) := by decide +kernel
theorem kd_Mo_text_14 : decode kb_Mo_text 14 = .ok (.aload_n 0, 1) := by decide +kernel
theorem kd_Mo_text_15 : decode kb_Mo_text 15 = .ok (.getfield 58, 3) := by decide +kernel
theorem kd_Mo_text_18 : decode kb_Mo_text 18 = .ok (.if_icmp .ge 21, 3) := by decide +kernel
theorem kd_Mo_text_21 : decode kb_Mo_text 21 = .ok (.aload_n 0, 1) := by decide +kernel
theorem kd_Mo_text_22 : decode kb_Mo_text 22 = .ok (.getfield 13, 3) := by decide +kernel
theorem kd_Mo_text_25 : decode kb_Mo_text 25 = .ok (.iload_n 1, 1) := by decide +kernel
theorem kd_Mo_text_26 : decode kb_Mo_text 26 = .ok (.aload_n 0, 1) := by decide +kernel
theorem kd_Mo_text_27 : decode kb_Mo_text 27 = .ok (.getfield 7, 3) := by decide +kernel
theorem kd_Mo_text_30 : decode kb_Mo_text 30 = .ok (.iload_n 1, 1) := by decide +kernel
theorem kd_Mo_text_31 : decode kb_Mo_text 31 = .ok (.iaload, 1) := by decide +kernel
theorem kd_Mo_text_32 : decode kb_Mo_text 32 = .ok (.iastore, 1) := by decide +kernel
theorem kd_Mo_text_33 : decode kb_Mo_text 33 = .ok (.iinc 1 1, 3) := by decide +kernel
theorem kd_Mo_text_36 : decode kb_Mo_text 36 = .ok (.goto (-23), 3) := by decide +kernel
theorem kd_Mo_text_39 : decode kb_Mo_text 39 = .ok (.aload_n 0, 1) := by decide +kernel
theorem kd_Mo_text_40 : decode kb_Mo_text 40 = .ok (.aload_n 0, 1) := by decide +kernel
theorem kd_Mo_text_41 : decode kb_Mo_text 41 = .ok (.getfield 58, 3) := by decide +kernel
theorem kd_Mo_text_44 : decode kb_Mo_text 44 = .ok (.putfield 139, 3) := by decide +kernel
theorem kd_Mo_text_47 : decode kb_Mo_text 47 = .ok (.aload_n 0, 1) := by decide +kernel
theorem kd_Mo_text_48 : decode kb_Mo_text 48 = .ok (.iconst 0, 1) := by decide +kernel
theorem kd_Mo_text_49 : decode kb_Mo_text 49 = .ok (.putfield 58, 3) := by decide +kernel
theorem kd_Mo_text_52 : decode kb_Mo_text 52 = .ok (.aload_n 0, 1) := by decide +kernel
theorem kd_Mo_text_53 : decode kb_Mo_text 53 = .ok (.getfield 139, 3) := by decide +kernel
theorem kd_Mo_text_56 : decode kb_Mo_text 56 = .ok (.ireturn, 1) := by decide +kernel
theorem kd_Mo_has_0 : decode kb_Mo_has 0 = .ok (.aload_n 0, 1) := by decide +kernel
theorem kd_Mo_has_1 : decode kb_Mo_has 1 = .ok (.getfield 31, 3) := by decide +kernel
theorem kd_Mo_has_4 : decode kb_Mo_has 4 = .ok (.iconst 3, 1) := by decide +kernel
theorem kd_Mo_has_5 : decode kb_Mo_has 5 = .ok (.iload_n 1, 1) := by decide +kernel
theorem kd_Mo_has_6 : decode kb_Mo_has 6 = .ok (.imul, 1) := by decide +kernel
theorem kd_Mo_has_7 : decode kb_Mo_has 7 = .ok (.iload_n 2, 1) := by decide +kernel
theorem kd_Mo_has_8 : decode kb_Mo_has 8 = .ok (.bipush 32, 2) := by decide +kernel
theorem kd_Mo_has_10 : decode kb_Mo_has 10 = .ok (.isub, 1) := by decide +kernel
theorem kd_Mo_has_11 : decode kb_Mo_has 11 = .ok (.bipush 32, 2) := by decide +kernel
theorem kd_Mo_has_13 : decode kb_Mo_has 13 = .ok (.idiv, 1) := by decide +kernel
theorem kd_Mo_has_14 : decode kb_Mo_has 14 = .ok (.iadd, 1) := by decide +kernel
theorem kd_Mo_has_15 : decode kb_Mo_has 15 = .ok (.iaload, 1) := by decide +kernel
theorem kd_Mo_has_16 : decode kb_Mo_has 16 = .ok (.iload_n 2, 1) := by decide +kernel
theorem kd_Mo_has_17 : decode kb_Mo_has 17 = .ok (.bipush 32, 2) := by decide +kernel
theorem kd_Mo_has_19 : decode kb_Mo_has 19 = .ok (.isub, 1) := by decide +kernel
theorem kd_Mo_has_20 : decode kb_Mo_has 20 = .ok (.bipush 32, 2) := by decide +kernel
theorem kd_Mo_has_22 : decode kb_Mo_has 22 = .ok (.irem, 1) := by decide +kernel
theorem kd_Mo_has_23 : decode kb_Mo_has 23 = .ok (.ishr, 1) := by decide +kernel
theorem kd_Mo_has_24 : decode kb_Mo_has 24 = .ok (.iconst 1, 1) := by decide +kernel
theorem kd_Mo_has_25 : decode kb_Mo_has 25 = .ok (.iand, 1) := by decide +kernel
theorem kd_Mo_has_26 : decode kb_Mo_has 26 = .ok (.iconst 1, 1) := by decide +kernel
theorem kd_Mo_has_27 : decode kb_Mo_has 27 = .ok (.if_icmp .ne 7, 3) := by decide +kernel
theorem kd_Mo_has_30 : decode kb_Mo_has 30 = .ok (.iconst 1, 1) := by decide +kernel
theorem kd_Mo_has_31 : decode kb_Mo_has 31 = .ok (.goto 4, 3) := by decide +kernel
theorem kd_Mo_has_34 : decode kb_Mo_has 34 = .ok (.iconst 0, 1) := by decide +kernel
theorem kd_Mo_has_35 : decode kb_Mo_has 35 = .ok (.ireturn, 1) := by decide +kernel
theorem kd_Mo_onward_0 : decode kb_Mo_onward 0 = .ok (.iconst 0, 1) := by decide +kernel
theorem kd_Mo_onward_1 : decode kb_Mo_onward 1 = .ok (.istore_n 3, 1) := by decide +kernel
theorem kd_Mo_onward_2 : decode kb_Mo_onward 2 = .ok (.iconst 0, 1) := by decide +kernel
theorem kd_Mo_onward_3 : decode kb_Mo_onward 3 = .ok (.istore 4, 2) := by decide +kernel
theorem kd_Mo_onward_5 : decode kb_Mo_onward 5 = .ok (.iload 4, 2) := by decide +kernel
theorem kd_Mo_onward_7 : decode kb_Mo_onward 7 = .ok (.aload_n 0, 1) := by decide +kernel
theorem kd_Mo_onward_8 : decode kb_Mo_onward 8 = .ok (.getfield 142, 3) := by decide +kernel
theorem kd_Mo_onward_11 : decode kb_Mo_onward 11 = .ok (.if_icmp .gt 38, 3) := by decide +kernel
theorem kd_Mo_onward_14 : decode kb_Mo_onward 14 = .ok (.iload_n 1, 1) := by decide +kernel
theorem kd_Mo_onward_15 : decode kb_Mo_onward 15 = .ok (.iload 4, 2) := by decide +kernel
theorem kd_Mo_onward_17 : decode kb_Mo_onward 17 = .ok (.ishr, 1) := by decide +kernel
theorem kd_Mo_onward_18 : decode kb_Mo_onward 18 = .ok (.iconst 1, 1) := by decide +kernel
theorem kd_Mo_onward_19 : decode kb_Mo_onward 19 = .ok (.iand, 1) := by decide +kernel
theorem kd_Mo_onward_20 : decode kb_Mo_onward 20 = .ok (.iconst 1, 1) := by decide +kernel
theorem kd_Mo_onward_21 : decode kb_Mo_onward 21 = .ok (.if_icmp .ne 20, 3) := by decide +kernel
theorem kd_Mo_onward_24 : decode kb_Mo_onward 24 = .ok (.iload_n 3, 1) := by decide +kernel
theorem kd_Mo_onward_25 : decode kb_Mo_onward 25 = .ok (.aload_n 0, 1) := by decide +kernel
theorem kd_Mo_onward_26 : decode kb_Mo_onward 26 = .ok (.getfield 52, 3) := by decide +kernel
theorem kd_Mo_onward_29 : decode kb_Mo_onward 29 = .ok (.bipush 25, 2) := by decide +kernel
theorem kd_Mo_onward_31 : decode kb_Mo_onward 31 = .ok (.iload_n 2, 1) := by decide +kernel
theorem kd_Mo_onward_32 : decode kb_Mo_onward 32 = .ok (.imul, 1) := by decide +kernel
theorem kd_Mo_onward_33 : decode kb_Mo_onward 33 = .ok (.iload 4, 2) := by decide +kernel
theorem kd_Mo_onward_35 : decode kb_Mo_onward 35 = .ok (.iadd, 1) := by decide +kernel
theorem kd_Mo_onward_36 : decode kb_Mo_onward 36 = .ok (.iaload, 1) := by decide +kernel
theorem kd_Mo_onward_37 : decode kb_Mo_onward 37 = .ok (.ior, 1) := by decide +kernel
theorem kd_Mo_onward_38 : decode kb_Mo_onward 38 = .ok (.goto 4, 3) := by decide +kernel
theorem kd_Mo_onward_41 : decode kb_Mo_onward 41 = .ok (.iload_n 3, 1) := by decide +kernel
theorem kd_Mo_onward_42 : decode kb_Mo_onward 42 = .ok (.istore_n 3, 1) := by decide +kernel
theorem kd_Mo_onward_43 : decode kb_Mo_onward 43 = .ok (.iinc 4 1, 3) := by decide +kernel
theorem kd_Mo_onward_46 : decode kb_Mo_onward 46 = .ok (.goto (-41), 3) := by decide +kernel
theorem kd_Mo_onward_49 : decode kb_Mo_onward 49 = .ok (.iload_n 3, 1) := by decide +kernel
theorem kd_Mo_onward_50 : decode kb_Mo_onward 50 = .ok (.ireturn, 1) := by decide +kernel
theorem kd_Mo_again_0 : decode kb_Mo_again 0 = .ok (.aload_n 0, 1) := by decide +kernel
theorem kd_Mo_again_1 : decode kb_Mo_again 1 = .ok (.getfield 142, 3) := by decide +kernel
theorem kd_Mo_again_4 : decode kb_Mo_again 4 = .ok (.istore_n 2, 1) := by decide +kernel
theorem kd_Mo_again_5 : decode kb_Mo_again 5 = .ok (.iload_n 2, 1) := by decide +kernel
theorem kd_Mo_again_6 : decode kb_Mo_again 6 = .ok (.ifCond .lt 74, 3) := by decide +kernel
theorem kd_Mo_again_9 : decode kb_Mo_again 9 = .ok (.iconst 1, 1) := by decide +kernel
theorem kd_Mo_again_10 : decode kb_Mo_again 10 = .ok (.iload_n 2, 1) := by decide +kernel
theorem kd_Mo_again_11 : decode kb_Mo_again 11 = .ok (.ishl, 1) := by decide +kernel
theorem kd_Mo_again_12 : decode kb_Mo_again 12 = .ok (.istore_n 3, 1) := by decide +kernel
theorem kd_Mo_again_13 : decode kb_Mo_again 13 = .ok (.iload_n 2, 1) := by decide +kernel
theorem kd_Mo_again_14 : decode kb_Mo_again 14 = .ok (.iconst 1, 1) := by decide +kernel
theorem kd_Mo_again_15 : decode kb_Mo_again 15 = .ok (.iadd, 1) := by decide +kernel
theorem kd_Mo_again_16 : decode kb_Mo_again 16 = .ok (.istore 4, 2) := by decide +kernel
theorem kd_Mo_again_18 : decode kb_Mo_again 18 = .ok (.iload 4, 2) := by decide +kernel
theorem kd_Mo_again_20 : decode kb_Mo_again 20 = .ok (.aload_n 0, 1) := by decide +kernel
theorem kd_Mo_again_21 : decode kb_Mo_again 21 = .ok (.getfield 142, 3) := by decide +kernel
theorem kd_Mo_again_24 : decode kb_Mo_again 24 = .ok (.if_icmp .gt 43, 3) := by decide +kernel
theorem kd_Mo_again_27 : decode kb_Mo_again 27 = .ok (.aload_n 0, 1) := by decide +kernel
theorem kd_Mo_again_28 : decode kb_Mo_again 28 = .ok (.getfield 52, 3) := by decide +kernel
theorem kd_Mo_again_31 : decode kb_Mo_again 31 = .ok (.bipush 25, 2) := by decide +kernel
theorem kd_Mo_again_33 : decode kb_Mo_again 33 = .ok (.iload_n 1, 1) := by decide +kernel
theorem kd_Mo_again_34 : decode kb_Mo_again 34 = .ok (.imul, 1) := by decide +kernel
theorem kd_Mo_again_35 : decode kb_Mo_again 35 = .ok (.iload_n 2, 1) := by decide +kernel
theorem kd_Mo_again_36 : decode kb_Mo_again 36 = .ok (.iadd, 1) := by decide +kernel
theorem kd_Mo_again_37 : decode kb_Mo_again 37 = .ok (.iaload, 1) := by decide +kernel
theorem kd_Mo_again_38 : decode kb_Mo_again 38 = .ok (.iload 4, 2) := by decide +kernel
theorem kd_Mo_again_40 : decode kb_Mo_again 40 = .ok (.ishr, 1) := by decide +kernel
theorem kd_Mo_again_41 : decode kb_Mo_again 41 = .ok (.iconst 1, 1) := by decide +kernel
theorem kd_Mo_again_42 : decode kb_Mo_again 42 = .ok (.iand, 1) := by decide +kernel
theorem kd_Mo_again_43 : decode kb_Mo_again 43 = .ok (.iconst 1, 1) := by decide +kernel
theorem kd_Mo_again_44 : decode kb_Mo_again 44 = .ok (.if_icmp .ne 15, 3) := by decide +kernel
theorem kd_Mo_again_47 : decode kb_Mo_again 47 = .ok (.iload_n 3, 1) := by decide +kernel
theorem kd_Mo_again_48 : decode kb_Mo_again 48 = .ok (.aload_n 0, 1) := by decide +kernel
theorem kd_Mo_again_49 : decode kb_Mo_again 49 = .ok (.getfield 55, 3) := by decide +kernel
theorem kd_Mo_again_52 : decode kb_Mo_again 52 = .ok (.iload 4, 2) := by decide +kernel
theorem kd_Mo_again_54 : decode kb_Mo_again 54 = .ok (.iaload, 1) := by decide +kernel
theorem kd_Mo_again_55 : decode kb_Mo_again 55 = .ok (.ior, 1) := by decide +kernel
theorem kd_Mo_again_56 : decode kb_Mo_again 56 = .ok (.goto 4, 3) := by decide +kernel
theorem kd_Mo_again_59 : decode kb_Mo_again 59 = .ok (.iload_n 3, 1) := by decide +kernel
theorem kd_Mo_again_60 : decode kb_Mo_again 60 = .ok (.istore_n 3, 1) := by decide +kernel
theorem kd_Mo_again_61 : decode kb_Mo_again 61 = .ok (.iinc 4 1, 3) := by decide +kernel
theorem kd_Mo_again_64 : decode kb_Mo_again 64 = .ok (.goto (-46), 3) := by decide +kernel
theorem kd_Mo_again_67 : decode kb_Mo_again 67 = .ok (.aload_n 0, 1) := by decide +kernel
theorem kd_Mo_again_68 : decode kb_Mo_again 68 = .ok (.getfield 55, 3) := by decide +kernel
theorem kd_Mo_again_71 : decode kb_Mo_again 71 = .ok (.iload_n 2, 1) := by decide +kernel
theorem kd_Mo_again_72 : decode kb_Mo_again 72 = .ok (.iload_n 3, 1) := by decide +kernel
theorem kd_Mo_again_73 : decode kb_Mo_again 73 = .ok (.iastore, 1) := by decide +kernel
theorem kd_Mo_again_74 : decode kb_Mo_again 74 = .ok (.iinc 2 (-1), 3) := by decide +kernel
theorem kd_Mo_again_77 : decode kb_Mo_again 77 = .ok (.goto (-72), 3) := by decide +kernel
theorem kd_Mo_again_80 : decode kb_Mo_again 80 = .ok (.return_, 1) := by decide +kernel
theorem kd_Mo_times_0 : decode kb_Mo_times 0 = .ok (.aload_n 0, 1) := by decide +kernel
theorem kd_Mo_times_1 : decode kb_Mo_times 1 = .ok (.iload_n 2, 1) := by decide +kernel
theorem kd_Mo_times_2 : decode kb_Mo_times 2 = .ok (.invokevirtual 145, 3) := by decide +kernel
theorem kd_Mo_times_5 : decode kb_Mo_times 5 = .ok (.iconst 0, 1) := by decide +kernel
theorem kd_Mo_times_6 : decode kb_Mo_times 6 = .ok (.istore 5, 2) := by decide +kernel
theorem kd_Mo_times_8 : decode kb_Mo_times 8 = .ok (.iload 5, 2) := by decide +kernel
theorem kd_Mo_times_10 : decode kb_Mo_times 10 = .ok (.aload_n 0, 1) := by decide +kernel
theorem kd_Mo_times_11 : decode kb_Mo_times 11 = .ok (.getfield 142, 3) := by decide +kernel
theorem kd_Mo_times_14 : decode kb_Mo_times 14 = .ok (.if_icmp .gt 150, 3) := by decide +kernel
theorem kd_Mo_times_17 : decode kb_Mo_times 17 = .ok (.iconst 1, 1) := by decide +kernel
theorem kd_Mo_times_18 : decode kb_Mo_times 18 = .ok (.iload 5, 2) := by decide +kernel
theorem kd_Mo_times_20 : decode kb_Mo_times 20 = .ok (.ishl, 1) := by decide +kernel
theorem kd_Mo_times_21 : decode kb_Mo_times 21 = .ok (.istore 6, 2) := by decide +kernel
theorem kd_Mo_times_23 : decode kb_Mo_times 23 = .ok (.iconst 0, 1) := by decide +kernel
theorem kd_Mo_times_24 : decode kb_Mo_times 24 = .ok (.istore 7, 2) := by decide +kernel
theorem kd_Mo_times_26 : decode kb_Mo_times 26 = .ok (.iload 7, 2) := by decide +kernel
theorem kd_Mo_times_28 : decode kb_Mo_times 28 = .ok (.iload_n 3, 1) := by decide +kernel
theorem kd_Mo_times_29 : decode kb_Mo_times 29 = .ok (.if_icmp .ge 18, 3) := by decide +kernel
theorem kd_Mo_times_32 : decode kb_Mo_times 32 = .ok (.aload_n 0, 1) := by decide +kernel
theorem kd_Mo_times_33 : decode kb_Mo_times 33 = .ok (.iload 6, 2) := by decide +kernel
theorem kd_Mo_times_35 : decode kb_Mo_times 35 = .ok (.iload_n 2, 1) := by decide +kernel
theorem kd_Mo_times_36 : decode kb_Mo_times 36 = .ok (.invokevirtual 148, 3) := by decide +kernel
theorem kd_Mo_times_39 : decode kb_Mo_times 39 = .ok (.istore 6, 2) := by decide +kernel
theorem kd_Mo_times_41 : decode kb_Mo_times 41 = .ok (.iinc 7 1, 3) := by decide +kernel
theorem kd_Mo_times_44 : decode kb_Mo_times 44 = .ok (.goto (-18), 3) := by decide +kernel
theorem kd_Mo_times_47 : decode kb_Mo_times 47 = .ok (.iload_n 3, 1) := by decide +kernel
theorem kd_Mo_times_48 : decode kb_Mo_times 48 = .ok (.istore 7, 2) := by decide +kernel
theorem kd_Mo_times_50 : decode kb_Mo_times 50 = .ok (.iload 7, 2) := by decide +kernel
theorem kd_Mo_times_52 : decode kb_Mo_times 52 = .ok (.iload 4, 2) := by decide +kernel
theorem kd_Mo_times_54 : decode kb_Mo_times 54 = .ok (.if_icmp .ge 28, 3) := by decide +kernel
theorem kd_Mo_times_57 : decode kb_Mo_times 57 = .ok (.iload 4, 2) := by decide +kernel
theorem kd_Mo_times_59 : decode kb_Mo_times 59 = .ok (.bipush 10, 2) := by decide +kernel
theorem kd_Mo_times_61 : decode kb_Mo_times 61 = .ok (.if_icmp .ge 21, 3) := by decide +kernel
theorem kd_Mo_times_64 : decode kb_Mo_times 64 = .ok (.iload 6, 2) := by decide +kernel
theorem kd_Mo_times_66 : decode kb_Mo_times 66 = .ok (.aload_n 0, 1) := by decide +kernel
theorem kd_Mo_times_67 : decode kb_Mo_times 67 = .ok (.iload 6, 2) := by decide +kernel
theorem kd_Mo_times_69 : decode kb_Mo_times 69 = .ok (.iload_n 2, 1) := by decide +kernel
theorem kd_Mo_times_70 : decode kb_Mo_times 70 = .ok (.invokevirtual 148, 3) := by decide +kernel
theorem kd_Mo_times_73 : decode kb_Mo_times 73 = .ok (.ior, 1) := by decide +kernel
theorem kd_Mo_times_74 : decode kb_Mo_times 74 = .ok (.istore 6, 2) := by decide +kernel
theorem kd_Mo_times_76 : decode kb_Mo_times 76 = .ok (.iinc 7 1, 3) := by decide +kernel
theorem kd_Mo_times_79 : decode kb_Mo_times 79 = .ok (.goto (-29), 3) := by decide +kernel
theorem kd_Mo_times_82 : decode kb_Mo_times 82 = .ok (.iconst 0, 1) := by decide +kernel
theorem kd_Mo_times_83 : decode kb_Mo_times 83 = .ok (.istore 7, 2) := by decide +kernel
theorem kd_Mo_times_85 : decode kb_Mo_times 85 = .ok (.iload 5, 2) := by decide +kernel
theorem kd_Mo_times_87 : decode kb_Mo_times 87 = .ok (.istore 8, 2) := by decide +kernel
theorem kd_Mo_times_89 : decode kb_Mo_times 89 = .ok (.iload 8, 2) := by decide +kernel
theorem kd_Mo_times_91 : decode kb_Mo_times 91 = .ok (.aload_n 0, 1) := by decide +kernel
theorem kd_Mo_times_92 : decode kb_Mo_times 92 = .ok (.getfield 142, 3) := by decide +kernel
theorem kd_Mo_times_95 : decode kb_Mo_times 95 = .ok (.if_icmp .gt 37, 3) := by decide +kernel
theorem kd_Mo_times_98 : decode kb_Mo_times 98 = .ok (.iload 6, 2) := by decide +kernel
theorem kd_Mo_times_100 : decode kb_Mo_times 100 = .ok (.iload 8, 2) := by decide +kernel
theorem kd_Mo_times_102 : decode kb_Mo_times 102 = .ok (.ishr, 1) := by decide +kernel
theorem kd_Mo_times_103 : decode kb_Mo_times 103 = .ok (.iconst 1, 1) := by decide +kernel
theorem kd_Mo_times_104 : decode kb_Mo_times 104 = .ok (.iand, 1) := by decide +kernel
theorem kd_Mo_times_105 : decode kb_Mo_times 105 = .ok (.iconst 1, 1) := by decide +kernel
theorem kd_Mo_times_106 : decode kb_Mo_times 106 = .ok (.if_icmp .ne 16, 3) := by decide +kernel
theorem kd_Mo_times_109 : decode kb_Mo_times 109 = .ok (.iload 7, 2) := by decide +kernel
theorem kd_Mo_times_111 : decode kb_Mo_times 111 = .ok (.aload_n 0, 1) := by decide +kernel
theorem kd_Mo_times_112 : decode kb_Mo_times 112 = .ok (.getfield 55, 3) := by decide +kernel
theorem kd_Mo_times_115 : decode kb_Mo_times 115 = .ok (.iload 8, 2) := by decide +kernel
theorem kd_Mo_times_117 : decode kb_Mo_times 117 = .ok (.iaload, 1) := by decide +kernel
theorem kd_Mo_times_118 : decode kb_Mo_times 118 = .ok (.ior, 1) := by decide +kernel
theorem kd_Mo_times_119 : decode kb_Mo_times 119 = .ok (.goto 5, 3) := by decide +kernel
theorem kd_Mo_times_122 : decode kb_Mo_times 122 = .ok (.iload 7, 2) := by decide +kernel
theorem kd_Mo_times_124 : decode kb_Mo_times 124 = .ok (.istore 7, 2) := by decide +kernel
theorem kd_Mo_times_126 : decode kb_Mo_times 126 = .ok (.iinc 8 1, 3) := by decide +kernel
theorem kd_Mo_times_129 : decode kb_Mo_times 129 = .ok (.goto (-40), 3) := by decide +kernel

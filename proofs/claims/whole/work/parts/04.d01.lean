theorem kd_Dm_keepWord_57 : decode kb_Dm_keepWord 57 = .ok (.castore, 1) := by decide +kernel
theorem kd_Dm_keepWord_58 : decode kb_Dm_keepWord 58 = .ok (.iload_n 2, 1) := by decide +kernel
theorem kd_Dm_keepWord_59 : decode kb_Dm_keepWord 59 = .ok (.iconst 1, 1) := by decide +kernel
theorem kd_Dm_keepWord_60 : decode kb_Dm_keepWord 60 = .ok (.isub, 1) := by decide +kernel
theorem kd_Dm_keepWord_61 : decode kb_Dm_keepWord 61 = .ok (.iconst 3, 1) := by decide +kernel
theorem kd_Dm_keepWord_62 : decode kb_Dm_keepWord 62 = .ok (.idiv, 1) := by decide +kernel
theorem kd_Dm_keepWord_63 : decode kb_Dm_keepWord 63 = .ok (.istore_n 2, 1) := by decide +kernel
theorem kd_Dm_keepWord_64 : decode kb_Dm_keepWord 64 = .ok (.iinc 3 (-1), 3) := by decide +kernel
theorem kd_Dm_keepWord_67 : decode kb_Dm_keepWord 67 = .ok (.goto (-28), 3) := by decide +kernel
theorem kd_Dm_keepWord_70 : decode kb_Dm_keepWord 70 = .ok (.aload_n 0, 1) := by decide +kernel
theorem kd_Dm_keepWord_71 : decode kb_Dm_keepWord 71 = .ok (.getfield 61, 3) := by decide +kernel
theorem kd_Dm_keepWord_74 : decode kb_Dm_keepWord 74 = .ok (.ireturn, 1) := by decide +kernel
theorem kd_Mo_init_0 : decode kb_Mo_init 0 = .ok (.aload_n 0, 1) := by decide +kernel
theorem kd_Mo_init_1 : decode kb_Mo_init 1 = .ok (.invokespecial 1, 3) := by decide +kernel
theorem kd_Mo_init_4 : decode kb_Mo_init 4 = .ok (.aload_n 0, 1) := by decide +kernel
theorem kd_Mo_init_5 : decode kb_Mo_init 5 = .ok (.bipush 40, 2) := by decide +kernel
theorem kd_Mo_init_7 : decode kb_Mo_init 7 = .ok (.newarray .int, 2) := by decide +kernel
theorem kd_Mo_init_9 : decode kb_Mo_init 9 = .ok (.putfield 7, 3) := by decide +kernel
theorem kd_Mo_init_12 : decode kb_Mo_init 12 = .ok (.aload_n 0, 1) := by decide +kernel
theorem kd_Mo_init_13 : decode kb_Mo_init 13 = .ok (.bipush 24, 2) := by decide +kernel
theorem kd_Mo_init_15 : decode kb_Mo_init 15 = .ok (.newarray .int, 2) := by decide +kernel
theorem kd_Mo_init_17 : decode kb_Mo_init 17 = .ok (.putfield 13, 3) := by decide +kernel
theorem kd_Mo_init_20 : decode kb_Mo_init 20 = .ok (.aload_n 0, 1) := by decide +kernel
theorem kd_Mo_init_21 : decode kb_Mo_init 21 = .ok (.iconst 4, 1) := by decide +kernel
theorem kd_Mo_init_22 : decode kb_Mo_init 22 = .ok (.newarray .int, 2) := by decide +kernel
theorem kd_Mo_init_24 : decode kb_Mo_init 24 = .ok (.putfield 16, 3) := by decide +kernel
theorem kd_Mo_init_27 : decode kb_Mo_init 27 = .ok (.aload_n 0, 1) := by decide +kernel
theorem kd_Mo_init_28 : decode kb_Mo_init 28 = .ok (.iconst 3, 1) := by decide +kernel
theorem kd_Mo_init_29 : decode kb_Mo_init 29 = .ok (.newarray .int, 2) := by decide +kernel
theorem kd_Mo_init_31 : decode kb_Mo_init 31 = .ok (.putfield 19, 3) := by decide +kernel
theorem kd_Mo_init_34 : decode kb_Mo_init 34 = .ok (.aload_n 0, 1) := by decide +kernel
theorem kd_Mo_init_35 : decode kb_Mo_init 35 = .ok (.sipush 384, 3) := by decide +kernel
theorem kd_Mo_init_38 : decode kb_Mo_init 38 = .ok (.newarray .int, 2) := by decide +kernel
theorem kd_Mo_init_40 : decode kb_Mo_init 40 = .ok (.putfield 22, 3) := by decide +kernel
theorem kd_Mo_init_43 : decode kb_Mo_init 43 = .ok (.aload_n 0, 1) := by decide +kernel
theorem kd_Mo_init_44 : decode kb_Mo_init 44 = .ok (.sipush 384, 3) := by decide +kernel
theorem kd_Mo_init_47 : decode kb_Mo_init 47 = .ok (.newarray .int, 2) := by decide +kernel
theorem kd_Mo_init_49 : decode kb_Mo_init 49 = .ok (.putfield 25, 3) := by decide +kernel
theorem kd_Mo_init_52 : decode kb_Mo_init 52 = .ok (.aload_n 0, 1) := by decide +kernel
theorem kd_Mo_init_53 : decode kb_Mo_init 53 = .ok (.sipush 384, 3) := by decide +kernel
theorem kd_Mo_init_56 : decode kb_Mo_init 56 = .ok (.newarray .int, 2) := by decide +kernel
theorem kd_Mo_init_58 : decode kb_Mo_init 58 = .ok (.putfield 28, 3) := by decide +kernel
theorem kd_Mo_init_61 : decode kb_Mo_init 61 = .ok (.aload_n 0, 1) := by decide +kernel
theorem kd_Mo_init_62 : decode kb_Mo_init 62 = .ok (.sipush 1152, 3) := by decide +kernel
theorem kd_Mo_init_65 : decode kb_Mo_init 65 = .ok (.newarray .int, 2) := by decide +kernel
theorem kd_Mo_init_67 : decode kb_Mo_init 67 = .ok (.putfield 31, 3) := by decide +kernel
theorem kd_Mo_init_70 : decode kb_Mo_init 70 = .ok (.aload_n 0, 1) := by decide +kernel
theorem kd_Mo_init_71 : decode kb_Mo_init 71 = .ok (.bipush 42, 2) := by decide +kernel
theorem kd_Mo_init_73 : decode kb_Mo_init 73 = .ok (.newarray .int, 2) := by decide +kernel
theorem kd_Mo_init_75 : decode kb_Mo_init 75 = .ok (.putfield 34, 3) := by decide +kernel
theorem kd_Mo_init_78 : decode kb_Mo_init 78 = .ok (.aload_n 0, 1) := by decide +kernel
theorem kd_Mo_init_79 : decode kb_Mo_init 79 = .ok (.bipush 42, 2) := by decide +kernel
theorem kd_Mo_init_81 : decode kb_Mo_init 81 = .ok (.newarray .int, 2) := by decide +kernel
theorem kd_Mo_init_83 : decode kb_Mo_init 83 = .ok (.putfield 37, 3) := by decide +kernel
theorem kd_Mo_init_86 : decode kb_Mo_init 86 = .ok (.aload_n 0, 1) := by decide +kernel
theorem kd_Mo_init_87 : decode kb_Mo_init 87 = .ok (.bipush 42, 2) := by decide +kernel
theorem kd_Mo_init_89 : decode kb_Mo_init 89 = .ok (.newarray .int, 2) := by decide +kernel
theorem kd_Mo_init_91 : decode kb_Mo_init 91 = .ok (.putfield 40, 3) := by decide +kernel
theorem kd_Mo_init_94 : decode kb_Mo_init 94 = .ok (.aload_n 0, 1) := by decide +kernel
theorem kd_Mo_init_95 : decode kb_Mo_init 95 = .ok (.bipush 42, 2) := by decide +kernel
theorem kd_Mo_init_97 : decode kb_Mo_init 97 = .ok (.newarray .int, 2) := by decide +kernel
theorem kd_Mo_init_99 : decode kb_Mo_init 99 = .ok (.putfield 43, 3) := by decide +kernel
theorem kd_Mo_init_102 : decode kb_Mo_init 102 = .ok (.aload_n 0, 1) := by decide +kernel
theorem kd_Mo_init_103 : decode kb_Mo_init 103 = .ok (.bipush 42, 2) := by decide +kernel
theorem kd_Mo_init_105 : decode kb_Mo_init 105 = .ok (.newarray .int, 2) := by decide +kernel
theorem kd_Mo_init_107 : decode kb_Mo_init 107 = .ok (.putfield 46, 3) := by decide +kernel
theorem kd_Mo_init_110 : decode kb_Mo_init 110 = .ok (.aload_n 0, 1) := by decide +kernel
theorem kd_Mo_init_111 : decode kb_Mo_init 111 = .ok (.bipush 24, 2) := by decide +kernel
theorem kd_Mo_init_113 : decode kb_Mo_init 113 = .ok (.newarray .int, 2) := by decide +kernel
theorem kd_Mo_init_115 : decode kb_Mo_init 115 = .ok (.putfield 49, 3) := by decide +kernel
theorem kd_Mo_init_118 : decode kb_Mo_init 118 = .ok (.aload_n 0, 1) := by decide +kernel
theorem kd_Mo_init_119 : decode kb_Mo_init 119 = .ok (.sipush 3200, 3) := by decide +kernel
theorem kd_Mo_init_122 : decode kb_Mo_init 122 = .ok (.newarray .int, 2) := by decide +kernel
theorem kd_Mo_init_124 : decode kb_Mo_init 124 = .ok (.putfield 52, 3) := by decide +kernel
theorem kd_Mo_init_127 : decode kb_Mo_init 127 = .ok (.aload_n 0, 1) := by decide +kernel
theorem kd_Mo_init_128 : decode kb_Mo_init 128 = .ok (.bipush 25, 2) := by decide +kernel
theorem kd_Mo_init_130 : decode kb_Mo_init 130 = .ok (.newarray .int, 2) := by decide +kernel
theorem kd_Mo_init_132 : decode kb_Mo_init 132 = .ok (.putfield 55, 3) := by decide +kernel
theorem kd_Mo_init_135 : decode kb_Mo_init 135 = .ok (.iconst 0, 1) := by decide +kernel
theorem kd_Mo_init_136 : decode kb_Mo_init 136 = .ok (.istore_n 1, 1) := by decide +kernel
theorem kd_Mo_init_137 : decode kb_Mo_init 137 = .ok (.iload_n 1, 1) := by decide +kernel
theorem kd_Mo_init_138 : decode kb_Mo_init 138 = .ok (.iconst 2, 1) := by decide +kernel
theorem kd_Mo_init_139 : decode kb_Mo_init 139 = .ok (.if_icmp .ge 27, 3) := by decide +kernel
theorem kd_Mo_init_142 : decode kb_Mo_init 142 = .ok (.aload_n 0, 1) := by decide +kernel
theorem kd_Mo_init_143 : decode kb_Mo_init 143 = .ok (.getfield 19, 3) := by decide +kernel
theorem kd_Mo_init_146 : decode kb_Mo_init 146 = .ok (.iload_n 1, 1) := by decide +kernel
theorem kd_Mo_init_147 : decode kb_Mo_init 147 = .ok (.iconst 1, 1) := by decide +kernel
theorem kd_Mo_init_148 : decode kb_Mo_init 148 = .ok (.iastore, 1) := by decide +kernel
theorem kd_Mo_init_149 : decode kb_Mo_init 149 = .ok (.aload_n 0, 1) := by decide +kernel
theorem kd_Mo_init_150 : decode kb_Mo_init 150 = .ok (.getfield 22, 3) := by decide +kernel
theorem kd_Mo_init_153 : decode kb_Mo_init 153 = .ok (.sipush 128, 3) := by decide +kernel
theorem kd_Mo_init_156 : decode kb_Mo_init 156 = .ok (.iload_n 1, 1) := by decide +kernel
theorem kd_Mo_init_157 : decode kb_Mo_init 157 = .ok (.imul, 1) := by decide +kernel
theorem kd_Mo_init_158 : decode kb_Mo_init 158 = .ok (.iconst 0, 1) := by decide +kernel
theorem kd_Mo_init_159 : decode kb_Mo_init 159 = .ok (.iastore, 1) := by decide +kernel
theorem kd_Mo_init_160 : decode kb_Mo_init 160 = .ok (.iinc 1 1, 3) := by decide +kernel
theorem kd_Mo_init_163 : decode kb_Mo_init 163 = .ok (.goto (-26), 3) := by decide +kernel
theorem kd_Mo_init_166 : decode kb_Mo_init 166 = .ok (.return_, 1) := by decide +kernel
theorem kd_Mo_type_0 : decode kb_Mo_type 0 = .ok (.iload_n 1, 1) := by decide +kernel
theorem kd_Mo_type_1 : decode kb_Mo_type 1 = .ok (.bipush 32, 2) := by decide +kernel
theorem kd_Mo_type_3 : decode kb_Mo_type 3 = .ok (.if_icmp .lt 18, 3) := by decide +kernel
theorem kd_Mo_type_6 : decode kb_Mo_type 6 = .ok (.iload_n 1, 1) := by decide +kernel
theorem kd_Mo_type_7 : decode kb_Mo_type 7 = .ok (.bipush 126, 2) := by decide +kernel
theorem kd_Mo_type_9 : decode kb_Mo_type 9 = .ok (.if_icmp .gt 12, 3) := by decide +kernel
theorem kd_Mo_type_12 : decode kb_Mo_type 12 = .ok (.aload_n 0, 1) := by decide +kernel
theorem kd_Mo_type_13 : decode kb_Mo_type 13 = .ok (.getfield 58, 3) := by decide +kernel
theorem kd_Mo_type_16 : decode kb_Mo_type 16 = .ok (.bipush 40, 2) := by decide +kernel
theorem kd_Mo_type_18 : decode kb_Mo_type 18 = .ok (.if_icmp .ne 5, 3) := by decide +kernel
theorem kd_Mo_type_21 : decode kb_Mo_type 21 = .ok (.iconst 0, 1) := by decide +kernel
theorem kd_Mo_type_22 : decode kb_Mo_type 22 = .ok (.ireturn, 1) := by decide +kernel
theorem kd_Mo_type_23 : decode kb_Mo_type 23 = .ok (.aload_n 0, 1) := by decide +kernel
theorem kd_Mo_type_24 : decode kb_Mo_type 24 = .ok (.getfield 7, 3) := by decide +kernel
theorem kd_Mo_type_27 : decode kb_Mo_type 27 = .ok (.aload_n 0, 1) := by decide +kernel
theorem kd_Mo_type_28 : decode kb_Mo_type 28 = .ok (.getfield 58, 3) := by decide +kernel
theorem kd_Mo_type_31 : decode kb_Mo_type 31 = .ok (.iload_n 1, 1) := by decide +kernel
theorem kd_Mo_type_32 : decode kb_Mo_type 32 = .ok (.iastore, 1) := by decide +kernel
theorem kd_Mo_type_33 : decode kb_Mo_type 33 = .ok (.aload_n 0, 1) := by decide +kernel
theorem kd_Mo_type_34 : decode kb_Mo_type 34 = .ok (.dup, 1) := by decide +kernel
theorem kd_Mo_type_35 : decode kb_Mo_type 35 = .ok (.getfield 58, 3) := by decide +kernel
theorem kd_Mo_type_38 : decode kb_Mo_type 38 = .ok (.iconst 1, 1) := by decide +kernel
theorem kd_Mo_type_39 : decode kb_Mo_type 39 = .ok (.iadd, 1) := by decide +kernel
theorem kd_Mo_type_40 : decode kb_Mo_type 40 = .ok (.putfield 58, 3) := by decide +kernel
theorem kd_Mo_type_43 : decode kb_Mo_type 43 = .ok (.iconst 1, 1) := by decide +kernel
theorem kd_Mo_type_44 : decode kb_Mo_type 44 = .ok (.ireturn, 1) := by decide +kernel
theorem kd_Mo_node_0 : decode kb_Mo_node 0 = .ok (.aload_n 0, 1) := by decide +kernel
theorem kd_Mo_node_1 : decode kb_Mo_node 1 = .ok (.getfield 19, 3) := by decide +kernel
theorem kd_Mo_node_4 : decode kb_Mo_node 4 = .ok (.iconst 2, 1) := by decide +kernel
theorem kd_Mo_node_5 : decode kb_Mo_node 5 = .ok (.iaload, 1) := by decide +kernel
theorem kd_Mo_node_6 : decode kb_Mo_node 6 = .ok (.istore 4, 2) := by decide +kernel
theorem kd_Mo_node_8 : decode kb_Mo_node 8 = .ok (.aload_n 0, 1) := by decide +kernel
theorem kd_Mo_node_9 : decode kb_Mo_node 9 = .ok (.getfield 22, 3) := by decide +kernel
theorem kd_Mo_node_12 : decode kb_Mo_node 12 = .ok (.sipush 256, 3) := by decide +kernel
theorem kd_Mo_node_15 : decode kb_Mo_node 15 = .ok (.iload 4, 2) := by decide +kernel
theorem kd_Mo_node_17 : decode kb_Mo_node 17 = .ok (.iadd, 1) := by decide +kernel
theorem kd_Mo_node_18 : decode kb_Mo_node 18 = .ok (.iload_n 1, 1) := by decide +kernel
theorem kd_Mo_node_19 : decode kb_Mo_node 19 = .ok (.iastore, 1) := by decide +kernel
theorem kd_Mo_node_20 : decode kb_Mo_node 20 = .ok (.aload_n 0, 1) := by decide +kernel
theorem kd_Mo_node_21 : decode kb_Mo_node 21 = .ok (.getfield 25, 3) := by decide +kernel
theorem kd_Mo_node_24 : decode kb_Mo_node 24 = .ok (.sipush 256, 3) := by decide +kernel
theorem kd_Mo_node_27 : decode kb_Mo_node 27 = .ok (.iload 4, 2) := by decide +kernel
theorem kd_Mo_node_29 : decode kb_Mo_node 29 = .ok (.iadd, 1) := by decide +kernel
theorem kd_Mo_node_30 : decode kb_Mo_node 30 = .ok (.iload_n 2, 1) := by decide +kernel
theorem kd_Mo_node_31 : decode kb_Mo_node 31 = .ok (.iastore, 1) := by decide +kernel
theorem kd_Mo_node_32 : decode kb_Mo_node 32 = .ok (.aload_n 0, 1) := by decide +kernel
theorem kd_Mo_node_33 : decode kb_Mo_node 33 = .ok (.getfield 28, 3) := by decide +kernel
theorem kd_Mo_node_36 : decode kb_Mo_node 36 = .ok (.sipush 256, 3) := by decide +kernel
theorem kd_Mo_node_39 : decode kb_Mo_node 39 = .ok (.iload 4, 2) := by decide +kernel
theorem kd_Mo_node_41 : decode kb_Mo_node 41 = .ok (.iadd, 1) := by decide +kernel
theorem kd_Mo_node_42 : decode kb_Mo_node 42 = .ok (.iload_n 3, 1) := by decide +kernel
theorem kd_Mo_node_43 : decode kb_Mo_node 43 = .ok (.iastore, 1) := by decide +kernel
theorem kd_Mo_node_44 : decode kb_Mo_node 44 = .ok (.iconst 0, 1) := by decide +kernel
theorem kd_Mo_node_45 : decode kb_Mo_node 45 = .ok (.istore 5, 2) := by decide +kernel
theorem kd_Mo_node_47 : decode kb_Mo_node 47 = .ok (.iload 5, 2) := by decide +kernel
theorem kd_Mo_node_49 : decode kb_Mo_node 49 = .ok (.iconst 3, 1) := by decide +kernel
theorem kd_Mo_node_50 : decode kb_Mo_node 50 = .ok (.if_icmp .ge 26, 3) := by decide +kernel
theorem kd_Mo_node_53 : decode kb_Mo_node 53 = .ok (.aload_n 0, 1) := by decide +kernel
theorem kd_Mo_node_54 : decode kb_Mo_node 54 = .ok (.getfield 31, 3) := by decide +kernel
theorem kd_Mo_node_57 : decode kb_Mo_node 57 = .ok (.iconst 3, 1) := by decide +kernel
theorem kd_Mo_node_58 : decode kb_Mo_node 58 = .ok (.sipush 256, 3) := by decide +kernel
theorem kd_Mo_node_61 : decode kb_Mo_node 61 = .ok (.iload 4, 2) := by decide +kernel
theorem kd_Mo_node_63 : decode kb_Mo_node 63 = .ok (.iadd, 1) := by decide +kernel
theorem kd_Mo_node_64 : decode kb_Mo_node 64 = .ok (.imul, 1) := by decide +kernel
theorem kd_Mo_node_65 : decode kb_Mo_node 65 = .ok (.iload 5, 2) := by decide +kernel
theorem kd_Mo_node_67 : decode kb_Mo_node 67 = .ok (.iadd, 1) := by decide +kernel
theorem kd_Mo_node_68 : decode kb_Mo_node 68 = .ok (.iconst 0, 1) := by decide +kernel
theorem kd_Mo_node_69 : decode kb_Mo_node 69 = .ok (.iastore, 1) := by decide +kernel
theorem kd_Mo_node_70 : decode kb_Mo_node 70 = .ok (.iinc 5 1, 3) := by decide +kernel
theorem kd_Mo_node_73 : decode kb_Mo_node 73 = .ok (.goto (-26), 3) := by decide +kernel
theorem kd_Mo_node_76 : decode kb_Mo_node 76 = .ok (.aload_n 0, 1) := by decide +kernel
theorem kd_Mo_node_77 : decode kb_Mo_node 77 = .ok (.getfield 19, 3) := by decide +kernel
theorem kd_Mo_node_80 : decode kb_Mo_node 80 = .ok (.iconst 2, 1) := by decide +kernel
theorem kd_Mo_node_81 : decode kb_Mo_node 81 = .ok (.dup2, 1) := by decide +kernel
theorem kd_Mo_node_82 : decode kb_Mo_node 82 = .ok (.iaload, 1) := by decide +kernel
theorem kd_Mo_node_83 : decode kb_Mo_node 83 = .ok (.iconst 1, 1) := by decide +kernel
theorem kd_Mo_node_84 : decode kb_Mo_node 84 = .ok (.iadd, 1) := by decide +kernel
theorem kd_Mo_node_85 : decode kb_Mo_node 85 = .ok (.iastore, 1) := by decide +kernel
theorem kd_Mo_node_86 : decode kb_Mo_node 86 = .ok (.iload 4, 2) := by decide +kernel
theorem kd_Mo_node_88 : decode kb_Mo_node 88 = .ok (.ireturn, 1) := by decide +kernel
theorem kd_Mo_include_0 : decode kb_Mo_include 0 = .ok (.iconst 3, 1) := by decide +kernel
theorem kd_Mo_include_1 : decode kb_Mo_include 1 = .ok (.sipush 256, 3) := by decide +kernel
theorem kd_Mo_include_4 : decode kb_Mo_include 4 = .ok (.iload_n 1, 1) := by decide +kernel
theorem kd_Mo_include_5 : decode kb_Mo_include 5 = .ok (.iadd, 1) := by decide +kernel
theorem kd_Mo_include_6 : decode kb_Mo_include 6 = .ok (.imul, 1) := by decide +kernel
theorem kd_Mo_include_7 : decode kb_Mo_include 7 = .ok (.iload_n 2, 1) := by decide +kernel
theorem kd_Mo_include_8 : decode kb_Mo_include 8 = .ok (.bipush 32, 2) := by decide +kernel
theorem kd_Mo_include_10 : decode kb_Mo_include 10 = .ok (.isub, 1) := by decide +kernel
theorem kd_Mo_include_11 : decode kb_Mo_include 11 = .ok (.bipush 32, 2) := by decide +kernel
theorem kd_Mo_include_13 : decode kb_Mo_include 13 = .ok (.idiv, 1) := by decide +kernel
theorem kd_Mo_include_14 : decode kb_Mo_include 14 = .ok (.iadd, 1) := by decide +kernel
theorem kd_Mo_include_15 : decode kb_Mo_include 15 = .ok (.istore_n 3, 1) := by decide +kernel
theorem kd_Mo_include_16 : decode kb_Mo_include 16 = .ok (.aload_n 0, 1) := by decide +kernel
theorem kd_Mo_include_17 : decode kb_Mo_include 17 = .ok (.getfield 31, 3) := by decide +kernel
theorem kd_Mo_include_20 : decode kb_Mo_include 20 = .ok (.iload_n 3, 1) := by decide +kernel
theorem kd_Mo_include_21 : decode kb_Mo_include 21 = .ok (.aload_n 0, 1) := by decide +kernel
theorem kd_Mo_include_22 : decode kb_Mo_include 22 = .ok (.getfield 31, 3) := by decide +kernel
theorem kd_Mo_include_25 : decode kb_Mo_include 25 = .ok (.iload_n 3, 1) := by decide +kernel
theorem kd_Mo_include_26 : decode kb_Mo_include 26 = .ok (.iaload, 1) := by decide +kernel
theorem kd_Mo_include_27 : decode kb_Mo_include 27 = .ok (.iconst 1, 1) := by decide +kernel
theorem kd_Mo_include_28 : decode kb_Mo_include 28 = .ok (.iload_n 2, 1) := by decide +kernel
theorem kd_Mo_include_29 : decode kb_Mo_include 29 = .ok (.bipush 32, 2) := by decide +kernel
theorem kd_Mo_include_31 : decode kb_Mo_include 31 = .ok (.isub, 1) := by decide +kernel
theorem kd_Mo_include_32 : decode kb_Mo_include 32 = .ok (.bipush 32, 2) := by decide +kernel
theorem kd_Mo_include_34 : decode kb_Mo_include 34 = .ok (.irem, 1) := by decide +kernel
theorem kd_Mo_include_35 : decode kb_Mo_include 35 = .ok (.ishl, 1) := by decide +kernel
theorem kd_Mo_include_36 : decode kb_Mo_include 36 = .ok (.ior, 1) := by decide +kernel
theorem kd_Mo_include_37 : decode kb_Mo_include 37 = .ok (.iastore, 1) := by decide +kernel
theorem kd_Mo_include_38 : decode kb_Mo_include 38 = .ok (.return_, 1) := by decide +kernel
theorem kd_Mo_open_0 : decode kb_Mo_open 0 = .ok (.aload_n 0, 1) := by decide +kernel
theorem kd_Mo_open_1 : decode kb_Mo_open 1 = .ok (.getfield 34, 3) := by decide +kernel
theorem kd_Mo_open_4 : decode kb_Mo_open 4 = .ok (.aload_n 0, 1) := by decide +kernel
theorem kd_Mo_open_5 : decode kb_Mo_open 5 = .ok (.getfield 62, 3) := by decide +kernel
theorem kd_Mo_open_8 : decode kb_Mo_open 8 = .ok (.iconst (-1), 1) := by decide +kernel
theorem kd_Mo_open_9 : decode kb_Mo_open 9 = .ok (.iastore, 1) := by decide +kernel
theorem kd_Mo_open_10 : decode kb_Mo_open 10 = .ok (.aload_n 0, 1) := by decide +kernel
theorem kd_Mo_open_11 : decode kb_Mo_open 11 = .ok (.getfield 37, 3) := by decide +kernel
theorem kd_Mo_open_14 : decode kb_Mo_open 14 = .ok (.aload_n 0, 1) := by decide +kernel
theorem kd_Mo_open_15 : decode kb_Mo_open 15 = .ok (.getfield 62, 3) := by decide +kernel
theorem kd_Mo_open_18 : decode kb_Mo_open 18 = .ok (.iconst (-1), 1) := by decide +kernel
theorem kd_Mo_open_19 : decode kb_Mo_open 19 = .ok (.iastore, 1) := by decide +kernel
theorem kd_Mo_open_20 : decode kb_Mo_open 20 = .ok (.aload_n 0, 1) := by decide +kernel
theorem kd_Mo_open_21 : decode kb_Mo_open 21 = .ok (.getfield 40, 3) := by decide +kernel
theorem kd_Mo_open_24 : decode kb_Mo_open 24 = .ok (.aload_n 0, 1) := by decide +kernel
theorem kd_Mo_open_25 : decode kb_Mo_open 25 = .ok (.getfield 62, 3) := by decide +kernel
theorem kd_Mo_open_28 : decode kb_Mo_open 28 = .ok (.iconst (-1), 1) := by decide +kernel
theorem kd_Mo_open_29 : decode kb_Mo_open 29 = .ok (.iastore, 1) := by decide +kernel
theorem kd_Mo_open_30 : decode kb_Mo_open 30 = .ok (.aload_n 0, 1) := by decide +kernel
theorem kd_Mo_open_31 : decode kb_Mo_open 31 = .ok (.getfield 43, 3) := by decide +kernel
theorem kd_Mo_open_34 : decode kb_Mo_open 34 = .ok (.aload_n 0, 1) := by decide +kernel
theorem kd_Mo_open_35 : decode kb_Mo_open 35 = .ok (.getfield 62, 3) := by decide +kernel
theorem kd_Mo_open_38 : decode kb_Mo_open 38 = .ok (.iconst 0, 1) := by decide +kernel
theorem kd_Mo_open_39 : decode kb_Mo_open 39 = .ok (.iastore, 1) := by decide +kernel
theorem kd_Mo_open_40 : decode kb_Mo_open 40 = .ok (.aload_n 0, 1) := by decide +kernel
theorem kd_Mo_open_41 : decode kb_Mo_open 41 = .ok (.getfield 46, 3) := by decide +kernel
theorem kd_Mo_open_44 : decode kb_Mo_open 44 = .ok (.aload_n 0, 1) := by decide +kernel
theorem kd_Mo_open_45 : decode kb_Mo_open 45 = .ok (.getfield 62, 3) := by decide +kernel
theorem kd_Mo_open_48 : decode kb_Mo_open 48 = .ok (.iconst (-1), 1) := by decide +kernel
theorem kd_Mo_open_49 : decode kb_Mo_open 49 = .ok (.iastore, 1) := by decide +kernel
theorem kd_Mo_open_50 : decode kb_Mo_open 50 = .ok (.return_, 1) := by decide +kernel
theorem kd_Mo_closePiece_0 : decode kb_Mo_closePiece 0 = .ok (.aload_n 0, 1) := by decide +kernel
theorem kd_Mo_closePiece_1 : decode kb_Mo_closePiece 1 = .ok (.getfield 46, 3) := by decide +kernel
theorem kd_Mo_closePiece_4 : decode kb_Mo_closePiece 4 = .ok (.aload_n 0, 1) := by decide +kernel
theorem kd_Mo_closePiece_5 : decode kb_Mo_closePiece 5 = .ok (.getfield 62, 3) := by decide +kernel
theorem kd_Mo_closePiece_8 : decode kb_Mo_closePiece 8 = .ok (.iaload, 1) := by decide +kernel
theorem kd_Mo_closePiece_9 : decode kb_Mo_closePiece 9 = .ok (.istore_n 1, 1) := by decide +kernel
theorem kd_Mo_closePiece_10 : decode kb_Mo_closePiece 10 = .ok (.iload_n 1, 1) := by decide +kernel
theorem kd_Mo_closePiece_11 : decode kb_Mo_closePiece 11 = .ok (.ifCond .ge 4, 3) := by decide +kernel
theorem kd_Mo_closePiece_14 : decode kb_Mo_closePiece 14 = .ok (.return_, 1) := by decide +kernel
theorem kd_Mo_closePiece_15 : decode kb_Mo_closePiece 15 = .ok (.iconst 0, 1) := by decide +kernel
theorem kd_Mo_closePiece_16 : decode kb_Mo_closePiece 16 = .ok (.istore_n 2, 1) := by decide +kernel
theorem kd_Mo_closePiece_17 : decode kb_Mo_closePiece 17 = .ok (.iload_n 2, 1) := by decide +kernel
theorem kd_Mo_closePiece_18 : decode kb_Mo_closePiece 18 = .ok (.aload_n 0, 1) := by decide +kernel
theorem kd_Mo_closePiece_19 : decode kb_Mo_closePiece 19 = .ok (.getfield 43, 3) := by decide +kernel
theorem kd_Mo_closePiece_22 : decode kb_Mo_closePiece 22 = .ok (.aload_n 0, 1) := by decide +kernel
theorem kd_Mo_closePiece_23 : decode kb_Mo_closePiece 23 = .ok (.getfield 62, 3) := by decide +kernel
theorem kd_Mo_closePiece_26 : decode kb_Mo_closePiece 26 = .ok (.iaload, 1) := by decide +kernel
theorem kd_Mo_closePiece_27 : decode kb_Mo_closePiece 27 = .ok (.if_icmp .ge 17, 3) := by decide +kernel
theorem kd_Mo_closePiece_30 : decode kb_Mo_closePiece 30 = .ok (.aload_n 0, 1) := by decide +kernel
theorem kd_Mo_closePiece_31 : decode kb_Mo_closePiece 31 = .ok (.iconst 5, 1) := by decide +kernel
theorem kd_Mo_closePiece_32 : decode kb_Mo_closePiece 32 = .ok (.iload_n 1, 1) := by decide +kernel
theorem kd_Mo_closePiece_33 : decode kb_Mo_closePiece 33 = .ok (.iconst 0, 1) := by decide +kernel
theorem kd_Mo_closePiece_34 : decode kb_Mo_closePiece 34 = .ok (.invokevirtual 65, 3) := by decide +kernel
theorem kd_Mo_closePiece_37 : decode kb_Mo_closePiece 37 = .ok (.istore_n 1, 1) := by decide +kernel
theorem kd_Mo_closePiece_38 : decode kb_Mo_closePiece 38 = .ok (.iinc 2 1, 3) := by decide +kernel
theorem kd_Mo_closePiece_41 : decode kb_Mo_closePiece 41 = .ok (.goto (-24), 3) := by decide +kernel
theorem kd_Mo_closePiece_44 : decode kb_Mo_closePiece 44 = .ok (.aload_n 0, 1) := by decide +kernel
theorem kd_Mo_closePiece_45 : decode kb_Mo_closePiece 45 = .ok (.getfield 40, 3) := by decide +kernel
theorem kd_Mo_closePiece_48 : decode kb_Mo_closePiece 48 = .ok (.aload_n 0, 1) := by decide +kernel
theorem kd_Mo_closePiece_49 : decode kb_Mo_closePiece 49 = .ok (.getfield 62, 3) := by decide +kernel
theorem kd_Mo_closePiece_52 : decode kb_Mo_closePiece 52 = .ok (.aload_n 0, 1) := by decide +kernel
theorem kd_Mo_closePiece_53 : decode kb_Mo_closePiece 53 = .ok (.getfield 40, 3) := by decide +kernel
theorem kd_Mo_closePiece_56 : decode kb_Mo_closePiece 56 = .ok (.aload_n 0, 1) := by decide +kernel
theorem kd_Mo_closePiece_57 : decode kb_Mo_closePiece 57 = .ok (.getfield 62, 3) := by decide +kernel
theorem kd_Mo_closePiece_60 : decode kb_Mo_closePiece 60 = .ok (.iaload, 1) := by decide +kernel
theorem kd_Mo_closePiece_61 : decode kb_Mo_closePiece 61 = .ok (.ifCond .ge 7, 3) := by decide +kernel
theorem kd_Mo_closePiece_64 : decode kb_Mo_closePiece 64 = .ok (.iload_n 1, 1) := by decide +kernel
theorem kd_Mo_closePiece_65 : decode kb_Mo_closePiece 65 = .ok (.goto 18, 3) := by decide +kernel
theorem kd_Mo_closePiece_68 : decode kb_Mo_closePiece 68 = .ok (.aload_n 0, 1) := by decide +kernel
theorem kd_Mo_closePiece_69 : decode kb_Mo_closePiece 69 = .ok (.iconst 2, 1) := by decide +kernel
theorem kd_Mo_closePiece_70 : decode kb_Mo_closePiece 70 = .ok (.aload_n 0, 1) := by decide +kernel
theorem kd_Mo_closePiece_71 : decode kb_Mo_closePiece 71 = .ok (.getfield 40, 3) := by decide +kernel
theorem kd_Mo_closePiece_74 : decode kb_Mo_closePiece 74 = .ok (.aload_n 0, 1) := by decide +kernel
theorem kd_Mo_closePiece_75 : decode kb_Mo_closePiece 75 = .ok (.getfield 62, 3) := by decide +kernel
theorem kd_Mo_closePiece_78 : decode kb_Mo_closePiece 78 = .ok (.iaload, 1) := by decide +kernel
theorem kd_Mo_closePiece_79 : decode kb_Mo_closePiece 79 = .ok (.iload_n 1, 1) := by decide +kernel
theorem kd_Mo_closePiece_80 : decode kb_Mo_closePiece 80 = .ok (.invokevirtual 65, 3) := by decide +kernel
theorem kd_Mo_closePiece_83 : decode kb_Mo_closePiece 83 = .ok (.iastore, 1) := by decide +kernel
theorem kd_Mo_closePiece_84 : decode kb_Mo_closePiece 84 = .ok (.aload_n 0, 1) := by decide +kernel
theorem kd_Mo_closePiece_85 : decode kb_Mo_closePiece 85 = .ok (.getfield 43, 3) := by decide +kernel
theorem kd_Mo_closePiece_88 : decode kb_Mo_closePiece 88 = .ok (.aload_n 0, 1) := by decide +kernel
theorem kd_Mo_closePiece_89 : decode kb_Mo_closePiece 89 = .ok (.getfield 62, 3) := by decide +kernel
theorem kd_Mo_closePiece_92 : decode kb_Mo_closePiece 92 = .ok (.iconst 0, 1) := by decide +kernel
theorem kd_Mo_closePiece_93 : decode kb_Mo_closePiece 93 = .ok (.iastore, 1) := by decide +kernel
theorem kd_Mo_closePiece_94 : decode kb_Mo_closePiece 94 = .ok (.aload_n 0, 1) := by decide +kernel
theorem kd_Mo_closePiece_95 : decode kb_Mo_closePiece 95 = .ok (.getfield 46, 3) := by decide +kernel
theorem kd_Mo_closePiece_98 : decode kb_Mo_closePiece 98 = .ok (.aload_n 0, 1) := by decide +kernel
theorem kd_Mo_closePiece_99 : decode kb_Mo_closePiece 99 = .ok (.getfield 62, 3) := by decide +kernel
theorem kd_Mo_closePiece_102 : decode kb_Mo_closePiece 102 = .ok (.iconst (-1), 1) := by decide +kernel
theorem kd_Mo_closePiece_103 : decode kb_Mo_closePiece 103 = .ok (.iastore, 1) := by decide +kernel
theorem kd_Mo_closePiece_104 : decode kb_Mo_closePiece 104 = .ok (.return_, 1) := by decide +kernel
theorem kd_Mo_closeRow_0 : decode kb_Mo_closeRow 0 = .ok (.aload_n 0, 1) := by decide +kernel
theorem kd_Mo_closeRow_1 : decode kb_Mo_closeRow 1 = .ok (.invokevirtual 69, 3) := by decide +kernel
theorem kd_Mo_closeRow_4 : decode kb_Mo_closeRow 4 = .ok (.aload_n 0, 1) := by decide +kernel
theorem kd_Mo_closeRow_5 : decode kb_Mo_closeRow 5 = .ok (.getfield 40, 3) := by decide +kernel
theorem kd_Mo_closeRow_8 : decode kb_Mo_closeRow 8 = .ok (.aload_n 0, 1) := by decide +kernel
theorem kd_Mo_closeRow_9 : decode kb_Mo_closeRow 9 = .ok (.getfield 62, 3) := by decide +kernel
theorem kd_Mo_closeRow_12 : decode kb_Mo_closeRow 12 = .ok (.iaload, 1) := by decide +kernel
theorem kd_Mo_closeRow_13 : decode kb_Mo_closeRow 13 = .ok (.ifCond .ge 13, 3) := by decide +kernel
theorem kd_Mo_closeRow_16 : decode kb_Mo_closeRow 16 = .ok (.aload_n 0, 1) := by decide +kernel
theorem kd_Mo_closeRow_17 : decode kb_Mo_closeRow 17 = .ok (.iconst 0, 1) := by decide +kernel
theorem kd_Mo_closeRow_18 : decode kb_Mo_closeRow 18 = .ok (.iconst 0, 1) := by decide +kernel
theorem kd_Mo_closeRow_19 : decode kb_Mo_closeRow 19 = .ok (.iconst 0, 1) := by decide +kernel
theorem kd_Mo_closeRow_20 : decode kb_Mo_closeRow 20 = .ok (.invokevirtual 65, 3) := by decide +kernel
theorem kd_Mo_closeRow_23 : decode kb_Mo_closeRow 23 = .ok (.goto 12, 3) := by decide +kernel
theorem kd_Mo_closeRow_26 : decode kb_Mo_closeRow 26 = .ok (.aload_n 0, 1) := by decide +kernel
theorem kd_Mo_closeRow_27 : decode kb_Mo_closeRow 27 = .ok (.getfield 40, 3) := by decide +kernel
theorem kd_Mo_closeRow_30 : decode kb_Mo_closeRow 30 = .ok (.aload_n 0, 1) := by decide +kernel
theorem kd_Mo_closeRow_31 : decode kb_Mo_closeRow 31 = .ok (.getfield 62, 3) := by decide +kernel
theorem kd_Mo_closeRow_34 : decode kb_Mo_closeRow 34 = .ok (.iaload, 1) := by decide +kernel
theorem kd_Mo_closeRow_35 : decode kb_Mo_closeRow 35 = .ok (.istore_n 1, 1) := by decide +kernel
theorem kd_Mo_closeRow_36 : decode kb_Mo_closeRow 36 = .ok (.aload_n 0, 1) := by decide +kernel
theorem kd_Mo_closeRow_37 : decode kb_Mo_closeRow 37 = .ok (.getfield 37, 3) := by decide +kernel
theorem kd_Mo_closeRow_40 : decode kb_Mo_closeRow 40 = .ok (.aload_n 0, 1) := by decide +kernel
theorem kd_Mo_closeRow_41 : decode kb_Mo_closeRow 41 = .ok (.getfield 62, 3) := by decide +kernel
theorem kd_Mo_closeRow_44 : decode kb_Mo_closeRow 44 = .ok (.aload_n 0, 1) := by decide +kernel
theorem kd_Mo_closeRow_45 : decode kb_Mo_closeRow 45 = .ok (.getfield 37, 3) := by decide +kernel
theorem kd_Mo_closeRow_48 : decode kb_Mo_closeRow 48 = .ok (.aload_n 0, 1) := by decide +kernel
theorem kd_Mo_closeRow_49 : decode kb_Mo_closeRow 49 = .ok (.getfield 62, 3) := by decide +kernel
theorem kd_Mo_closeRow_52 : decode kb_Mo_closeRow 52 = .ok (.iaload, 1) := by decide +kernel
theorem kd_Mo_closeRow_53 : decode kb_Mo_closeRow 53 = .ok (.ifCond .ge 7, 3) := by decide +kernel
theorem kd_Mo_closeRow_56 : decode kb_Mo_closeRow 56 = .ok (.iload_n 1, 1) := by decide +kernel
theorem kd_Mo_closeRow_57 : decode kb_Mo_closeRow 57 = .ok (.goto 18, 3) := by decide +kernel
theorem kd_Mo_closeRow_60 : decode kb_Mo_closeRow 60 = .ok (.aload_n 0, 1) := by decide +kernel
theorem kd_Mo_closeRow_61 : decode kb_Mo_closeRow 61 = .ok (.iconst 3, 1) := by decide +kernel
theorem kd_Mo_closeRow_62 : decode kb_Mo_closeRow 62 = .ok (.aload_n 0, 1) := by decide +kernel
theorem kd_Mo_closeRow_63 : decode kb_Mo_closeRow 63 = .ok (.getfield 37, 3) := by decide +kernel
theorem kd_Mo_closeRow_66 : decode kb_Mo_closeRow 66 = .ok (.aload_n 0, 1) := by decide +kernel
theorem kd_Mo_closeRow_67 : decode kb_Mo_closeRow 67 = .ok (.getfield 62, 3) := by decide +kernel
theorem kd_Mo_closeRow_70 : decode kb_Mo_closeRow 70 = .ok (.iaload, 1) := by decide +kernel
theorem kd_Mo_closeRow_71 : decode kb_Mo_closeRow 71 = .ok (.iload_n 1, 1) := by decide +kernel
theorem kd_Mo_closeRow_72 : decode kb_Mo_closeRow 72 = .ok (.invokevirtual 65, 3) := by decide +kernel
theorem kd_Mo_closeRow_75 : decode kb_Mo_closeRow 75 = .ok (.iastore, 1) := by decide +kernel
theorem kd_Mo_closeRow_76 : decode kb_Mo_closeRow 76 = .ok (.aload_n 0, 1) := by decide +kernel
theorem kd_Mo_closeRow_77 : decode kb_Mo_closeRow 77 = .ok (.getfield 40, 3) := by decide +kernel
theorem kd_Mo_closeRow_80 : decode kb_Mo_closeRow 80 = .ok (.aload_n 0, 1) := by decide +kernel
theorem kd_Mo_closeRow_81 : decode kb_Mo_closeRow 81 = .ok (.getfield 62, 3) := by decide +kernel
theorem kd_Mo_closeRow_84 : decode kb_Mo_closeRow 84 = .ok (.iconst (-1), 1) := by decide +kernel
theorem kd_Mo_closeRow_85 : decode kb_Mo_closeRow 85 = .ok (.iastore, 1) := by decide +kernel
theorem kd_Mo_closeRow_86 : decode kb_Mo_closeRow 86 = .ok (.return_, 1) := by decide +kernel
theorem kd_Mo_closeIntersection_0 : decode kb_Mo_closeIntersection 0 = .ok (.aload_n 0, 1) := by decide +kernel
theorem kd_Mo_closeIntersection_1 : decode kb_Mo_closeIntersection 1 = .ok (.invokevirtual 72, 3) := by decide +kernel
theorem kd_Mo_closeIntersection_4 : decode kb_Mo_closeIntersection 4 = .ok (.aload_n 0, 1) := by decide +kernel
theorem kd_Mo_closeIntersection_5 : decode kb_Mo_closeIntersection 5 = .ok (.getfield 37, 3) := by decide +kernel
theorem kd_Mo_closeIntersection_8 : decode kb_Mo_closeIntersection 8 = .ok (.aload_n 0, 1) := by decide +kernel
theorem kd_Mo_closeIntersection_9 : decode kb_Mo_closeIntersection 9 = .ok (.getfield 62, 3) := by decide +kernel
theorem kd_Mo_closeIntersection_12 : decode kb_Mo_closeIntersection 12 = .ok (.iaload, 1) := by decide +kernel
theorem kd_Mo_closeIntersection_13 : decode kb_Mo_closeIntersection 13 = .ok (.istore_n 1, 1) := by decide +kernel
theorem kd_Mo_closeIntersection_14 : decode kb_Mo_closeIntersection 14 = .ok (.aload_n 0, 1) := by decide +kernel
theorem kd_Mo_closeIntersection_15 : decode kb_Mo_closeIntersection 15 = .ok (.getfield 34, 3) := by decide +kernel
theorem kd_Mo_closeIntersection_18 : decode kb_Mo_closeIntersection 18 = .ok (.aload_n 0, 1) := by decide +kernel
theorem kd_Mo_closeIntersection_19 : decode kb_Mo_closeIntersection 19 = .ok (.getfield 62, 3) := by decide +kernel
theorem kd_Mo_closeIntersection_22 : decode kb_Mo_closeIntersection 22 = .ok (.aload_n 0, 1) := by decide +kernel
theorem kd_Mo_closeIntersection_23 : decode kb_Mo_closeIntersection 23 = .ok (.getfield 34, 3) := by decide +kernel
theorem kd_Mo_closeIntersection_26 : decode kb_Mo_closeIntersection 26 = .ok (.aload_n 0, 1) := by decide +kernel
theorem kd_Mo_closeIntersection_27 : decode kb_Mo_closeIntersection 27 = .ok (.getfield 62, 3) := by decide +kernel
theorem kd_Mo_closeIntersection_30 : decode kb_Mo_closeIntersection 30 = .ok (.iaload, 1) := by decide +kernel
theorem kd_Mo_closeIntersection_31 : decode kb_Mo_closeIntersection 31 = .ok (.ifCond .ge 7, 3) := by decide +kernel
theorem kd_Mo_closeIntersection_34 : decode kb_Mo_closeIntersection 34 = .ok (.iload_n 1, 1) := by decide +kernel
theorem kd_Mo_closeIntersection_35 : decode kb_Mo_closeIntersection 35 = .ok (.goto 18, 3) := by decide +kernel
theorem kd_Mo_closeIntersection_38 : decode kb_Mo_closeIntersection 38 = .ok (.aload_n 0, 1) := by decide +kernel
theorem kd_Mo_closeIntersection_39 : decode kb_Mo_closeIntersection 39 = .ok (.iconst 4, 1) := by decide +kernel
theorem kd_Mo_closeIntersection_40 : decode kb_Mo_closeIntersection 40 = .ok (.aload_n 0, 1) := by decide +kernel
theorem kd_Mo_closeIntersection_41 : decode kb_Mo_closeIntersection 41 = .ok (.getfield 34, 3) := by decide +kernel
theorem kd_Mo_closeIntersection_44 : decode kb_Mo_closeIntersection 44 = .ok (.aload_n 0, 1) := by decide +kernel
theorem kd_Mo_closeIntersection_45 : decode kb_Mo_closeIntersection 45 = .ok (.getfield 62, 3) := by decide +kernel
theorem kd_Mo_closeIntersection_48 : decode kb_Mo_closeIntersection 48 = .ok (.iaload, 1) := by decide +kernel
theorem kd_Mo_closeIntersection_49 : decode kb_Mo_closeIntersection 49 = .ok (.iload_n 1, 1) := by decide +kernel
theorem kd_Mo_closeIntersection_50 : decode kb_Mo_closeIntersection 50 = .ok (.invokevirtual 65, 3) := by decide +kernel
theorem kd_Mo_closeIntersection_53 : decode kb_Mo_closeIntersection 53 = .ok (.iastore, 1) := by decide +kernel
theorem kd_Mo_closeIntersection_54 : decode kb_Mo_closeIntersection 54 = .ok (.aload_n 0, 1) := by decide +kernel
theorem kd_Mo_closeIntersection_55 : decode kb_Mo_closeIntersection 55 = .ok (.getfield 37, 3) := by decide +kernel
theorem kd_Mo_closeIntersection_58 : decode kb_Mo_closeIntersection 58 = .ok (.aload_n 0, 1) := by decide +kernel
theorem kd_Mo_closeIntersection_59 : decode kb_Mo_closeIntersection 59 = .ok (.getfield 62, 3) := by decide +kernel
theorem kd_Mo_closeIntersection_62 : decode kb_Mo_closeIntersection 62 = .ok (.iconst (-1), 1) := by decide +kernel
theorem kd_Mo_closeIntersection_63 : decode kb_Mo_closeIntersection 63 = .ok (.iastore, 1) := by decide +kernel
theorem kd_Mo_closeIntersection_64 : decode kb_Mo_closeIntersection 64 = .ok (.return_, 1) := by decide +kernel
theorem kd_Mo_mark_0 : decode kb_Mo_mark 0 = .ok (.aload_n 0, 1) := by decide +kernel
theorem kd_Mo_mark_1 : decode kb_Mo_mark 1 = .ok (.iload_n 1, 1) := by decide +kernel
theorem kd_Mo_mark_2 : decode kb_Mo_mark 2 = .ok (.aload_n 0, 1) := by decide +kernel
theorem kd_Mo_mark_3 : decode kb_Mo_mark 3 = .ok (.getfield 46, 3) := by decide +kernel
theorem kd_Mo_mark_6 : decode kb_Mo_mark 6 = .ok (.aload_n 0, 1) := by decide +kernel
theorem kd_Mo_mark_7 : decode kb_Mo_mark 7 = .ok (.getfield 62, 3) := by decide +kernel
theorem kd_Mo_mark_10 : decode kb_Mo_mark 10 = .ok (.iaload, 1) := by decide +kernel
theorem kd_Mo_mark_11 : decode kb_Mo_mark 11 = .ok (.iload_n 2, 1) := by decide +kernel
theorem kd_Mo_mark_12 : decode kb_Mo_mark 12 = .ok (.invokevirtual 65, 3) := by decide +kernel
theorem kd_Mo_mark_15 : decode kb_Mo_mark 15 = .ok (.istore 4, 2) := by decide +kernel
theorem kd_Mo_mark_17 : decode kb_Mo_mark 17 = .ok (.aload_n 0, 1) := by decide +kernel
theorem kd_Mo_mark_18 : decode kb_Mo_mark 18 = .ok (.getfield 31, 3) := by decide +kernel
theorem kd_Mo_mark_21 : decode kb_Mo_mark 21 = .ok (.iconst 3, 1) := by decide +kernel
theorem kd_Mo_mark_22 : decode kb_Mo_mark 22 = .ok (.sipush 256, 3) := by decide +kernel
theorem kd_Mo_mark_25 : decode kb_Mo_mark 25 = .ok (.iload 4, 2) := by decide +kernel
theorem kd_Mo_mark_27 : decode kb_Mo_mark 27 = .ok (.iadd, 1) := by decide +kernel
theorem kd_Mo_mark_28 : decode kb_Mo_mark 28 = .ok (.imul, 1) := by decide +kernel
theorem kd_Mo_mark_29 : decode kb_Mo_mark 29 = .ok (.iload_n 3, 1) := by decide +kernel
theorem kd_Mo_mark_30 : decode kb_Mo_mark 30 = .ok (.iastore, 1) := by decide +kernel
theorem kd_Mo_mark_31 : decode kb_Mo_mark 31 = .ok (.aload_n 0, 1) := by decide +kernel
theorem kd_Mo_mark_32 : decode kb_Mo_mark 32 = .ok (.getfield 46, 3) := by decide +kernel
theorem kd_Mo_mark_35 : decode kb_Mo_mark 35 = .ok (.aload_n 0, 1) := by decide +kernel
theorem kd_Mo_mark_36 : decode kb_Mo_mark 36 = .ok (.getfield 62, 3) := by decide +kernel
theorem kd_Mo_mark_39 : decode kb_Mo_mark 39 = .ok (.iload 4, 2) := by decide +kernel
theorem kd_Mo_mark_41 : decode kb_Mo_mark 41 = .ok (.iastore, 1) := by decide +kernel
theorem kd_Mo_mark_42 : decode kb_Mo_mark 42 = .ok (.aload_n 0, 1) := by decide +kernel
theorem kd_Mo_mark_43 : decode kb_Mo_mark 43 = .ok (.iconst 0, 1) := by decide +kernel
theorem kd_Mo_mark_44 : decode kb_Mo_mark 44 = .ok (.putfield 75, 3) := by decide +kernel
theorem kd_Mo_mark_47 : decode kb_Mo_mark 47 = .ok (.return_, 1) := by decide +kernel
theorem kd_Mo_isDone_0 : decode kb_Mo_isDone 0 = .ok (.aload_n 0, 1) := by decide +kernel
theorem kd_Mo_isDone_1 : decode kb_Mo_isDone 1 = .ok (.getfield 43, 3) := by decide +kernel
theorem kd_Mo_isDone_4 : decode kb_Mo_isDone 4 = .ok (.aload_n 0, 1) := by decide +kernel
theorem kd_Mo_isDone_5 : decode kb_Mo_isDone 5 = .ok (.getfield 62, 3) := by decide +kernel
theorem kd_Mo_isDone_8 : decode kb_Mo_isDone 8 = .ok (.iaload, 1) := by decide +kernel
theorem kd_Mo_isDone_9 : decode kb_Mo_isDone 9 = .ok (.ifCond .eq 15, 3) := by decide +kernel
theorem kd_Mo_isDone_12 : decode kb_Mo_isDone 12 = .ok (.aload_n 0, 1) := by decide +kernel
theorem kd_Mo_isDone_13 : decode kb_Mo_isDone 13 = .ok (.getfield 46, 3) := by decide +kernel
theorem kd_Mo_isDone_16 : decode kb_Mo_isDone 16 = .ok (.aload_n 0, 1) := by decide +kernel
theorem kd_Mo_isDone_17 : decode kb_Mo_isDone 17 = .ok (.getfield 62, 3) := by decide +kernel
theorem kd_Mo_isDone_20 : decode kb_Mo_isDone 20 = .ok (.iaload, 1) := by decide +kernel
theorem kd_Mo_isDone_21 : decode kb_Mo_isDone 21 = .ok (.ifCond .lt 7, 3) := by decide +kernel
theorem kd_Mo_isDone_24 : decode kb_Mo_isDone 24 = .ok (.iconst 1, 1) := by decide +kernel
theorem kd_Mo_isDone_25 : decode kb_Mo_isDone 25 = .ok (.goto 4, 3) := by decide +kernel
theorem kd_Mo_isDone_28 : decode kb_Mo_isDone 28 = .ok (.iconst 0, 1) := by decide +kernel
theorem kd_Mo_isDone_29 : decode kb_Mo_isDone 29 = .ok (.ireturn, 1) := by decide +kernel
theorem kd_Mo_plain_0 : decode kb_Mo_plain 0 = .ok (.iload_n 1, 1) := by decide +kernel
theorem kd_Mo_plain_1 : decode kb_Mo_plain 1 = .ok (.lookupswitch 255 #[((-1), 91), (38, 113), (41, 141), (42, 193), (43, 193), (63, 193), (93, 253), (123, 193), (124, 113), (125, 253)], 91) := by decide +kernel
theorem kd_Mo_plain_92 : decode kb_Mo_plain 92 = .ok (.aload_n 0, 1) := by decide +kernel
theorem kd_Mo_plain_93 : decode kb_Mo_plain 93 = .ok (.getfield 62, 3) := by decide +kernel
theorem kd_Mo_plain_96 : decode kb_Mo_plain 96 = .ok (.ifCond .gt 10, 3) := by decide +kernel
theorem kd_Mo_plain_99 : decode kb_Mo_plain 99 = .ok (.aload_n 0, 1) := by decide +kernel
theorem kd_Mo_plain_100 : decode kb_Mo_plain 100 = .ok (.invokevirtual 78, 3) := by decide +kernel
theorem kd_Mo_plain_103 : decode kb_Mo_plain 103 = .ok (.ifCond .ne 5, 3) := by decide +kernel
theorem kd_Mo_plain_106 : decode kb_Mo_plain 106 = .ok (.iconst 0, 1) := by decide +kernel
theorem kd_Mo_plain_107 : decode kb_Mo_plain 107 = .ok (.ireturn, 1) := by decide +kernel
theorem kd_Mo_plain_108 : decode kb_Mo_plain 108 = .ok (.aload_n 0, 1) := by decide +kernel
theorem kd_Mo_plain_109 : decode kb_Mo_plain 109 = .ok (.invokevirtual 82, 3) := by decide +kernel
theorem kd_Mo_plain_112 : decode kb_Mo_plain 112 = .ok (.iconst 1, 1) := by decide +kernel
theorem kd_Mo_plain_113 : decode kb_Mo_plain 113 = .ok (.ireturn, 1) := by decide +kernel
theorem kd_Mo_plain_114 : decode kb_Mo_plain 114 = .ok (.aload_n 0, 1) := by decide +kernel
theorem kd_Mo_plain_115 : decode kb_Mo_plain 115 = .ok (.invokevirtual 78, 3) := by decide +kernel
theorem kd_Mo_plain_118 : decode kb_Mo_plain 118 = .ok (.ifCond .ne 5, 3) := by decide +kernel
theorem kd_Mo_plain_121 : decode kb_Mo_plain 121 = .ok (.iconst 0, 1) := by decide +kernel
theorem kd_Mo_plain_122 : decode kb_Mo_plain 122 = .ok (.ireturn, 1) := by decide +kernel
theorem kd_Mo_plain_123 : decode kb_Mo_plain 123 = .ok (.iload_n 1, 1) := by decide +kernel
theorem kd_Mo_plain_124 : decode kb_Mo_plain 124 = .ok (.bipush 124, 2) := by decide +kernel
theorem kd_Mo_plain_126 : decode kb_Mo_plain 126 = .ok (.if_icmp .ne 10, 3) := by decide +kernel
theorem kd_Mo_plain_129 : decode kb_Mo_plain 129 = .ok (.aload_n 0, 1) := by decide +kernel
theorem kd_Mo_plain_130 : decode kb_Mo_plain 130 = .ok (.invokevirtual 82, 3) := by decide +kernel
theorem kd_Mo_plain_133 : decode kb_Mo_plain 133 = .ok (.goto 7, 3) := by decide +kernel
theorem kd_Mo_plain_136 : decode kb_Mo_plain 136 = .ok (.aload_n 0, 1) := by decide +kernel
theorem kd_Mo_plain_137 : decode kb_Mo_plain 137 = .ok (.invokevirtual 72, 3) := by decide +kernel
theorem kd_Mo_plain_140 : decode kb_Mo_plain 140 = .ok (.iconst 1, 1) := by decide +kernel
theorem kd_Mo_plain_141 : decode kb_Mo_plain 141 = .ok (.ireturn, 1) := by decide +kernel
theorem kd_Mo_plain_142 : decode kb_Mo_plain 142 = .ok (.aload_n 0, 1) := by decide +kernel
theorem kd_Mo_plain_143 : decode kb_Mo_plain 143 = .ok (.getfield 62, 3) := by decide +kernel
theorem kd_Mo_plain_146 : decode kb_Mo_plain 146 = .ok (.ifCond .eq 10, 3) := by decide +kernel
theorem kd_Mo_plain_149 : decode kb_Mo_plain 149 = .ok (.aload_n 0, 1) := by decide +kernel
theorem kd_Mo_plain_150 : decode kb_Mo_plain 150 = .ok (.invokevirtual 78, 3) := by decide +kernel
theorem kd_Mo_plain_153 : decode kb_Mo_plain 153 = .ok (.ifCond .ne 5, 3) := by decide +kernel
theorem kd_Mo_plain_156 : decode kb_Mo_plain 156 = .ok (.iconst 0, 1) := by decide +kernel
theorem kd_Mo_plain_157 : decode kb_Mo_plain 157 = .ok (.ireturn, 1) := by decide +kernel
theorem kd_Mo_plain_158 : decode kb_Mo_plain 158 = .ok (.aload_n 0, 1) := by decide +kernel
theorem kd_Mo_plain_159 : decode kb_Mo_plain 159 = .ok (.invokevirtual 82, 3) := by decide +kernel
theorem kd_Mo_plain_162 : decode kb_Mo_plain 162 = .ok (.aload_n 0, 1) := by decide +kernel
theorem kd_Mo_plain_163 : decode kb_Mo_plain 163 = .ok (.dup, 1) := by decide +kernel
theorem kd_Mo_plain_164 : decode kb_Mo_plain 164 = .ok (.getfield 62, 3) := by decide +kernel
theorem kd_Mo_plain_167 : decode kb_Mo_plain 167 = .ok (.iconst 1, 1) := by decide +kernel
theorem kd_Mo_plain_168 : decode kb_Mo_plain 168 = .ok (.isub, 1) := by decide +kernel
theorem kd_Mo_plain_169 : decode kb_Mo_plain 169 = .ok (.putfield 62, 3) := by decide +kernel
theorem kd_Mo_plain_172 : decode kb_Mo_plain 172 = .ok (.aload_n 0, 1) := by decide +kernel
theorem kd_Mo_plain_173 : decode kb_Mo_plain 173 = .ok (.getfield 46, 3) := by decide +kernel
theorem kd_Mo_plain_176 : decode kb_Mo_plain 176 = .ok (.aload_n 0, 1) := by decide +kernel
theorem kd_Mo_plain_177 : decode kb_Mo_plain 177 = .ok (.getfield 62, 3) := by decide +kernel
theorem kd_Mo_plain_180 : decode kb_Mo_plain 180 = .ok (.aload_n 0, 1) := by decide +kernel
theorem kd_Mo_plain_181 : decode kb_Mo_plain 181 = .ok (.getfield 34, 3) := by decide +kernel
theorem kd_Mo_plain_184 : decode kb_Mo_plain 184 = .ok (.aload_n 0, 1) := by decide +kernel
theorem kd_Mo_plain_185 : decode kb_Mo_plain 185 = .ok (.getfield 62, 3) := by decide +kernel
theorem kd_Mo_plain_188 : decode kb_Mo_plain 188 = .ok (.iconst 1, 1) := by decide +kernel
theorem kd_Mo_plain_189 : decode kb_Mo_plain 189 = .ok (.iadd, 1) := by decide +kernel
theorem kd_Mo_plain_190 : decode kb_Mo_plain 190 = .ok (.iaload, 1) := by decide +kernel
theorem kd_Mo_plain_191 : decode kb_Mo_plain 191 = .ok (.iastore, 1) := by decide +kernel
theorem kd_Mo_plain_192 : decode kb_Mo_plain 192 = .ok (.iconst 1, 1) := by decide +kernel
theorem kd_Mo_plain_193 : decode kb_Mo_plain 193 = .ok (.ireturn, 1) := by decide +kernel
theorem kd_Mo_plain_194 : decode kb_Mo_plain 194 = .ok (.aload_n 0, 1) := by decide +kernel
theorem kd_Mo_plain_195 : decode kb_Mo_plain 195 = .ok (.getfield 46, 3) := by decide +kernel
theorem kd_Mo_plain_198 : decode kb_Mo_plain 198 = .ok (.aload_n 0, 1) := by decide +kernel
theorem kd_Mo_plain_199 : decode kb_Mo_plain 199 = .ok (.getfield 62, 3) := by decide +kernel
theorem kd_Mo_plain_202 : decode kb_Mo_plain 202 = .ok (.iaload, 1) := by decide +kernel
theorem kd_Mo_plain_203 : decode kb_Mo_plain 203 = .ok (.ifCond .ge 5, 3) := by decide +kernel
theorem kd_Mo_plain_206 : decode kb_Mo_plain 206 = .ok (.iconst 0, 1) := by decide +kernel
theorem kd_Mo_plain_207 : decode kb_Mo_plain 207 = .ok (.ireturn, 1) := by decide +kernel
theorem kd_Mo_plain_208 : decode kb_Mo_plain 208 = .ok (.iload_n 1, 1) := by decide +kernel
theorem kd_Mo_plain_209 : decode kb_Mo_plain 209 = .ok (.bipush 123, 2) := by decide +kernel
theorem kd_Mo_plain_211 : decode kb_Mo_plain 211 = .ok (.if_icmp .ne 11, 3) := by decide +kernel
theorem kd_Mo_plain_214 : decode kb_Mo_plain 214 = .ok (.aload_n 0, 1) := by decide +kernel
theorem kd_Mo_plain_215 : decode kb_Mo_plain 215 = .ok (.iconst 1, 1) := by decide +kernel
theorem kd_Mo_plain_216 : decode kb_Mo_plain 216 = .ok (.putfield 75, 3) := by decide +kernel
theorem kd_Mo_plain_219 : decode kb_Mo_plain 219 = .ok (.goto 33, 3) := by decide +kernel
theorem kd_Mo_plain_222 : decode kb_Mo_plain 222 = .ok (.aload_n 0, 1) := by decide +kernel
theorem kd_Mo_plain_223 : decode kb_Mo_plain 223 = .ok (.iload_n 1, 1) := by decide +kernel
theorem kd_Mo_plain_224 : decode kb_Mo_plain 224 = .ok (.bipush 42, 2) := by decide +kernel
theorem kd_Mo_plain_226 : decode kb_Mo_plain 226 = .ok (.if_icmp .ne 8, 3) := by decide +kernel
theorem kd_Mo_plain_229 : decode kb_Mo_plain 229 = .ok (.bipush 6, 2) := by decide +kernel
theorem kd_Mo_plain_231 : decode kb_Mo_plain 231 = .ok (.goto 16, 3) := by decide +kernel
theorem kd_Mo_plain_234 : decode kb_Mo_plain 234 = .ok (.iload_n 1, 1) := by decide +kernel
theorem kd_Mo_plain_235 : decode kb_Mo_plain 235 = .ok (.bipush 43, 2) := by decide +kernel
theorem kd_Mo_plain_237 : decode kb_Mo_plain 237 = .ok (.if_icmp .ne 8, 3) := by decide +kernel
theorem kd_Mo_plain_240 : decode kb_Mo_plain 240 = .ok (.bipush 7, 2) := by decide +kernel
theorem kd_Mo_plain_242 : decode kb_Mo_plain 242 = .ok (.goto 5, 3) := by decide +kernel
theorem kd_Mo_plain_245 : decode kb_Mo_plain 245 = .ok (.bipush 8, 2) := by decide +kernel
theorem kd_Mo_plain_247 : decode kb_Mo_plain 247 = .ok (.iconst 0, 1) := by decide +kernel
theorem kd_Mo_plain_248 : decode kb_Mo_plain 248 = .ok (.iconst 0, 1) := by decide +kernel
theorem kd_Mo_plain_249 : decode kb_Mo_plain 249 = .ok (.invokevirtual 85, 3) := by decide +kernel
theorem kd_Mo_plain_252 : decode kb_Mo_plain 252 = .ok (.iconst 1, 1) := by decide +kernel
theorem kd_Mo_plain_253 : decode kb_Mo_plain 253 = .ok (.ireturn, 1) := by decide +kernel
theorem kd_Mo_plain_254 : decode kb_Mo_plain 254 = .ok (.iconst 0, 1) := by decide +kernel
theorem kd_Mo_plain_255 : decode kb_Mo_plain 255 = .ok (.ireturn, 1) := by decide +kernel
theorem kd_Mo_plain_256 : decode kb_Mo_plain 256 = .ok (.aload_n 0, 1) := by decide +kernel
theorem kd_Mo_plain_257 : decode kb_Mo_plain 257 = .ok (.iload_n 1, 1) := by decide +kernel
theorem kd_Mo_plain_258 : decode kb_Mo_plain 258 = .ok (.invokevirtual 89, 3) := by decide +kernel
theorem kd_Mo_plain_261 : decode kb_Mo_plain 261 = .ok (.ireturn, 1) := by decide +kernel
theorem kd_Mo_begin_0 : decode kb_Mo_begin 0 = .ok (.aload_n 0, 1) := by decide +kernel
theorem kd_Mo_begin_1 : decode kb_Mo_begin 1 = .ok (.invokevirtual 69, 3) := by decide +kernel
theorem kd_Mo_begin_4 : decode kb_Mo_begin 4 = .ok (.iload_n 1, 1) := by decide +kernel
theorem kd_Mo_begin_5 : decode kb_Mo_begin 5 = .ok (.bipush 126, 2) := by decide +kernel
theorem kd_Mo_begin_7 : decode kb_Mo_begin 7 = .ok (.if_icmp .ne 19, 3) := by decide +kernel
theorem kd_Mo_begin_10 : decode kb_Mo_begin 10 = .ok (.aload_n 0, 1) := by decide +kernel
theorem kd_Mo_begin_11 : decode kb_Mo_begin 11 = .ok (.getfield 43, 3) := by decide +kernel
theorem kd_Mo_begin_14 : decode kb_Mo_begin 14 = .ok (.aload_n 0, 1) := by decide +kernel
theorem kd_Mo_begin_15 : decode kb_Mo_begin 15 = .ok (.getfield 62, 3) := by decide +kernel
theorem kd_Mo_begin_18 : decode kb_Mo_begin 18 = .ok (.dup2, 1) := by decide +kernel
theorem kd_Mo_begin_19 : decode kb_Mo_begin 19 = .ok (.iaload, 1) := by decide +kernel
theorem kd_Mo_begin_20 : decode kb_Mo_begin 20 = .ok (.iconst 1, 1) := by decide +kernel
theorem kd_Mo_begin_21 : decode kb_Mo_begin 21 = .ok (.iadd, 1) := by decide +kernel
theorem kd_Mo_begin_22 : decode kb_Mo_begin 22 = .ok (.iastore, 1) := by decide +kernel
theorem kd_Mo_begin_23 : decode kb_Mo_begin 23 = .ok (.goto 102, 3) := by decide +kernel
theorem kd_Mo_begin_26 : decode kb_Mo_begin 26 = .ok (.iload_n 1, 1) := by decide +kernel
theorem kd_Mo_begin_27 : decode kb_Mo_begin 27 = .ok (.bipush 40, 2) := by decide +kernel
theorem kd_Mo_begin_29 : decode kb_Mo_begin 29 = .ok (.if_icmp .ne 20, 3) := by decide +kernel
theorem kd_Mo_begin_32 : decode kb_Mo_begin 32 = .ok (.aload_n 0, 1) := by decide +kernel
theorem kd_Mo_begin_33 : decode kb_Mo_begin 33 = .ok (.dup, 1) := by decide +kernel
theorem kd_Mo_begin_34 : decode kb_Mo_begin 34 = .ok (.getfield 62, 3) := by decide +kernel
theorem kd_Mo_begin_37 : decode kb_Mo_begin 37 = .ok (.iconst 1, 1) := by decide +kernel
theorem kd_Mo_begin_38 : decode kb_Mo_begin 38 = .ok (.iadd, 1) := by decide +kernel
theorem kd_Mo_begin_39 : decode kb_Mo_begin 39 = .ok (.putfield 62, 3) := by decide +kernel
theorem kd_Mo_begin_42 : decode kb_Mo_begin 42 = .ok (.aload_n 0, 1) := by decide +kernel
theorem kd_Mo_begin_43 : decode kb_Mo_begin 43 = .ok (.invokevirtual 93, 3) := by decide +kernel
theorem kd_Mo_begin_46 : decode kb_Mo_begin 46 = .ok (.goto 79, 3) := by decide +kernel
theorem kd_Mo_begin_49 : decode kb_Mo_begin 49 = .ok (.aload_n 0, 1) := by decide +kernel
theorem kd_Mo_begin_50 : decode kb_Mo_begin 50 = .ok (.iconst 1, 1) := by decide +kernel
theorem kd_Mo_begin_51 : decode kb_Mo_begin 51 = .ok (.iconst 0, 1) := by decide +kernel
theorem kd_Mo_begin_52 : decode kb_Mo_begin 52 = .ok (.iconst 0, 1) := by decide +kernel
theorem kd_Mo_begin_53 : decode kb_Mo_begin 53 = .ok (.invokevirtual 65, 3) := by decide +kernel
theorem kd_Mo_begin_56 : decode kb_Mo_begin 56 = .ok (.istore_n 2, 1) := by decide +kernel
theorem kd_Mo_begin_57 : decode kb_Mo_begin 57 = .ok (.aload_n 0, 1) := by decide +kernel
theorem kd_Mo_begin_58 : decode kb_Mo_begin 58 = .ok (.getfield 46, 3) := by decide +kernel
theorem kd_Mo_begin_61 : decode kb_Mo_begin 61 = .ok (.aload_n 0, 1) := by decide +kernel
theorem kd_Mo_begin_62 : decode kb_Mo_begin 62 = .ok (.getfield 62, 3) := by decide +kernel
theorem kd_Mo_begin_65 : decode kb_Mo_begin 65 = .ok (.iload_n 2, 1) := by decide +kernel
theorem kd_Mo_begin_66 : decode kb_Mo_begin 66 = .ok (.iastore, 1) := by decide +kernel
theorem kd_Mo_begin_67 : decode kb_Mo_begin 67 = .ok (.aload_n 0, 1) := by decide +kernel
theorem kd_Mo_begin_68 : decode kb_Mo_begin 68 = .ok (.iconst 0, 1) := by decide +kernel
theorem kd_Mo_begin_69 : decode kb_Mo_begin 69 = .ok (.putfield 96, 3) := by decide +kernel
theorem kd_Mo_begin_72 : decode kb_Mo_begin 72 = .ok (.bipush 32, 2) := by decide +kernel
theorem kd_Mo_begin_74 : decode kb_Mo_begin 74 = .ok (.istore_n 3, 1) := by decide +kernel
theorem kd_Mo_begin_75 : decode kb_Mo_begin 75 = .ok (.iload_n 3, 1) := by decide +kernel
theorem kd_Mo_begin_76 : decode kb_Mo_begin 76 = .ok (.bipush 127, 2) := by decide +kernel
theorem kd_Mo_begin_78 : decode kb_Mo_begin 78 = .ok (.if_icmp .ge 21, 3) := by decide +kernel
theorem kd_Mo_begin_81 : decode kb_Mo_begin 81 = .ok (.iload_n 1, 1) := by decide +kernel
theorem kd_Mo_begin_82 : decode kb_Mo_begin 82 = .ok (.bipush 46, 2) := by decide +kernel
theorem kd_Mo_begin_84 : decode kb_Mo_begin 84 = .ok (.if_icmp .ne 15, 3) := by decide +kernel
theorem kd_Mo_begin_87 : decode kb_Mo_begin 87 = .ok (.aload_n 0, 1) := by decide +kernel
theorem kd_Mo_begin_88 : decode kb_Mo_begin 88 = .ok (.iload_n 2, 1) := by decide +kernel
theorem kd_Mo_begin_89 : decode kb_Mo_begin 89 = .ok (.iload_n 3, 1) := by decide +kernel
theorem kd_Mo_begin_90 : decode kb_Mo_begin 90 = .ok (.invokevirtual 100, 3) := by decide +kernel
theorem kd_Mo_begin_93 : decode kb_Mo_begin 93 = .ok (.iinc 3 1, 3) := by decide +kernel
theorem kd_Mo_begin_96 : decode kb_Mo_begin 96 = .ok (.goto (-21), 3) := by decide +kernel
theorem kd_Mo_begin_99 : decode kb_Mo_begin 99 = .ok (.iload_n 1, 1) := by decide +kernel
theorem kd_Mo_begin_100 : decode kb_Mo_begin 100 = .ok (.bipush 91, 2) := by decide +kernel
theorem kd_Mo_begin_102 : decode kb_Mo_begin 102 = .ok (.if_icmp .ne 11, 3) := by decide +kernel
theorem kd_Mo_begin_105 : decode kb_Mo_begin 105 = .ok (.aload_n 0, 1) := by decide +kernel
theorem kd_Mo_begin_106 : decode kb_Mo_begin 106 = .ok (.iconst 5, 1) := by decide +kernel
theorem kd_Mo_begin_107 : decode kb_Mo_begin 107 = .ok (.putfield 75, 3) := by decide +kernel
theorem kd_Mo_begin_110 : decode kb_Mo_begin 110 = .ok (.goto 15, 3) := by decide +kernel
theorem kd_Mo_begin_113 : decode kb_Mo_begin 113 = .ok (.iload_n 1, 1) := by decide +kernel
theorem kd_Mo_begin_114 : decode kb_Mo_begin 114 = .ok (.bipush 46, 2) := by decide +kernel
theorem kd_Mo_begin_116 : decode kb_Mo_begin 116 = .ok (.if_icmp .eq 9, 3) := by decide +kernel
theorem kd_Mo_begin_119 : decode kb_Mo_begin 119 = .ok (.aload_n 0, 1) := by decide +kernel
theorem kd_Mo_begin_120 : decode kb_Mo_begin 120 = .ok (.iload_n 2, 1) := by decide +kernel
theorem kd_Mo_begin_121 : decode kb_Mo_begin 121 = .ok (.iload_n 1, 1) := by decide +kernel
theorem kd_Mo_begin_122 : decode kb_Mo_begin 122 = .ok (.invokevirtual 100, 3) := by decide +kernel
theorem kd_Mo_begin_125 : decode kb_Mo_begin 125 = .ok (.iconst 1, 1) := by decide +kernel
theorem kd_Mo_begin_126 : decode kb_Mo_begin 126 = .ok (.ireturn, 1) := by decide +kernel
theorem kd_Mo_isDigit_0 : decode kb_Mo_isDigit 0 = .ok (.iload_n 0, 1) := by decide +kernel
theorem kd_Mo_isDigit_1 : decode kb_Mo_isDigit 1 = .ok (.bipush 48, 2) := by decide +kernel
theorem kd_Mo_isDigit_3 : decode kb_Mo_isDigit 3 = .ok (.if_icmp .lt 13, 3) := by decide +kernel
theorem kd_Mo_isDigit_6 : decode kb_Mo_isDigit 6 = .ok (.iload_n 0, 1) := by decide +kernel
theorem kd_Mo_isDigit_7 : decode kb_Mo_isDigit 7 = .ok (.bipush 57, 2) := by decide +kernel
theorem kd_Mo_isDigit_9 : decode kb_Mo_isDigit 9 = .ok (.if_icmp .gt 7, 3) := by decide +kernel
theorem kd_Mo_isDigit_12 : decode kb_Mo_isDigit 12 = .ok (.iconst 1, 1) := by decide +kernel
theorem kd_Mo_isDigit_13 : decode kb_Mo_isDigit 13 = .ok (.goto 4, 3) := by decide +kernel
theorem kd_Mo_isDigit_16 : decode kb_Mo_isDigit 16 = .ok (.iconst 0, 1) := by decide +kernel
theorem kd_Mo_isDigit_17 : decode kb_Mo_isDigit 17 = .ok (.ireturn, 1) := by decide +kernel
theorem kd_Mo_braces_0 : decode kb_Mo_braces 0 = .ok (.aload_n 0, 1) := by decide +kernel
theorem kd_Mo_braces_1 : decode kb_Mo_braces 1 = .ok (.getfield 75, 3) := by decide +kernel
theorem kd_Mo_braces_4 : decode kb_Mo_braces 4 = .ok (.iconst 1, 1) := by decide +kernel
theorem kd_Mo_braces_5 : decode kb_Mo_braces 5 = .ok (.if_icmp .ne 21, 3) := by decide +kernel
theorem kd_Mo_braces_8 : decode kb_Mo_braces 8 = .ok (.aload_n 0, 1) := by decide +kernel
theorem kd_Mo_braces_9 : decode kb_Mo_braces 9 = .ok (.iload_n 1, 1) := by decide +kernel
theorem kd_Mo_braces_10 : decode kb_Mo_braces 10 = .ok (.bipush 48, 2) := by decide +kernel
theorem kd_Mo_braces_12 : decode kb_Mo_braces 12 = .ok (.isub, 1) := by decide +kernel
theorem kd_Mo_braces_13 : decode kb_Mo_braces 13 = .ok (.putfield 104, 3) := by decide +kernel
theorem kd_Mo_braces_16 : decode kb_Mo_braces 16 = .ok (.aload_n 0, 1) := by decide +kernel
theorem kd_Mo_braces_17 : decode kb_Mo_braces 17 = .ok (.iconst 2, 1) := by decide +kernel

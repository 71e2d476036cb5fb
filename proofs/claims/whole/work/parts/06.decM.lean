theorem d_M_init_0 : decode mi_M_init.2.1 0 = .ok (.aload_n 0, 1) := by decide +kernel
theorem d_M_init_1 : decode mi_M_init.2.1 1 = .ok (.invokespecial 1, 3) := by decide +kernel
theorem d_M_init_4 : decode mi_M_init.2.1 4 = .ok (.aload_n 0, 1) := by decide +kernel
theorem d_M_init_5 : decode mi_M_init.2.1 5 = .ok (.iconst 1, 1) := by decide +kernel
theorem d_M_init_6 : decode mi_M_init.2.1 6 = .ok (.putfield 7, 3) := by decide +kernel
theorem d_M_init_9 : decode mi_M_init.2.1 9 = .ok (.aload_n 0, 1) := by decide +kernel
theorem d_M_init_10 : decode mi_M_init.2.1 10 = .ok (.bipush 16, 2) := by decide +kernel
theorem d_M_init_12 : decode mi_M_init.2.1 12 = .ok (.newarray .int, 2) := by decide +kernel
theorem d_M_init_14 : decode mi_M_init.2.1 14 = .ok (.putfield 13, 3) := by decide +kernel
theorem d_M_init_17 : decode mi_M_init.2.1 17 = .ok (.aload_n 0, 1) := by decide +kernel
theorem d_M_init_18 : decode mi_M_init.2.1 18 = .ok (.bipush 16, 2) := by decide +kernel
theorem d_M_init_20 : decode mi_M_init.2.1 20 = .ok (.newarray .boolean, 2) := by decide +kernel
theorem d_M_init_22 : decode mi_M_init.2.1 22 = .ok (.putfield 17, 3) := by decide +kernel
theorem d_M_init_25 : decode mi_M_init.2.1 25 = .ok (.aload_n 0, 1) := by decide +kernel
theorem d_M_init_26 : decode mi_M_init.2.1 26 = .ok (.bipush 16, 2) := by decide +kernel
theorem d_M_init_28 : decode mi_M_init.2.1 28 = .ok (.newarray .int, 2) := by decide +kernel
theorem d_M_init_30 : decode mi_M_init.2.1 30 = .ok (.putfield 21, 3) := by decide +kernel
theorem d_M_init_33 : decode mi_M_init.2.1 33 = .ok (.aload_n 0, 1) := by decide +kernel
theorem d_M_init_34 : decode mi_M_init.2.1 34 = .ok (.bipush 16, 2) := by decide +kernel
theorem d_M_init_36 : decode mi_M_init.2.1 36 = .ok (.newarray .int, 2) := by decide +kernel
theorem d_M_init_38 : decode mi_M_init.2.1 38 = .ok (.putfield 24, 3) := by decide +kernel
theorem d_M_init_41 : decode mi_M_init.2.1 41 = .ok (.aload_n 0, 1) := by decide +kernel
theorem d_M_init_42 : decode mi_M_init.2.1 42 = .ok (.sipush 1024, 3) := by decide +kernel
theorem d_M_init_45 : decode mi_M_init.2.1 45 = .ok (.newarray .int, 2) := by decide +kernel
theorem d_M_init_47 : decode mi_M_init.2.1 47 = .ok (.putfield 27, 3) := by decide +kernel
theorem d_M_init_50 : decode mi_M_init.2.1 50 = .ok (.aload_n 0, 1) := by decide +kernel
theorem d_M_init_51 : decode mi_M_init.2.1 51 = .ok (.bipush 6, 2) := by decide +kernel
theorem d_M_init_53 : decode mi_M_init.2.1 53 = .ok (.newarray .int, 2) := by decide +kernel
theorem d_M_init_55 : decode mi_M_init.2.1 55 = .ok (.putfield 30, 3) := by decide +kernel
theorem d_M_init_58 : decode mi_M_init.2.1 58 = .ok (.aload_n 0, 1) := by decide +kernel
theorem d_M_init_59 : decode mi_M_init.2.1 59 = .ok (.bipush 6, 2) := by decide +kernel
theorem d_M_init_61 : decode mi_M_init.2.1 61 = .ok (.newarray .int, 2) := by decide +kernel
theorem d_M_init_63 : decode mi_M_init.2.1 63 = .ok (.putfield 33, 3) := by decide +kernel
theorem d_M_init_66 : decode mi_M_init.2.1 66 = .ok (.aload_n 0, 1) := by decide +kernel
theorem d_M_init_67 : decode mi_M_init.2.1 67 = .ok (.bipush 6, 2) := by decide +kernel
theorem d_M_init_69 : decode mi_M_init.2.1 69 = .ok (.newarray .boolean, 2) := by decide +kernel
theorem d_M_init_71 : decode mi_M_init.2.1 71 = .ok (.putfield 36, 3) := by decide +kernel
theorem d_M_init_74 : decode mi_M_init.2.1 74 = .ok (.aload_n 0, 1) := by decide +kernel
theorem d_M_init_75 : decode mi_M_init.2.1 75 = .ok (.bipush 6, 2) := by decide +kernel
theorem d_M_init_77 : decode mi_M_init.2.1 77 = .ok (.newarray .int, 2) := by decide +kernel
theorem d_M_init_79 : decode mi_M_init.2.1 79 = .ok (.putfield 39, 3) := by decide +kernel
theorem d_M_init_82 : decode mi_M_init.2.1 82 = .ok (.aload_n 0, 1) := by decide +kernel
theorem d_M_init_83 : decode mi_M_init.2.1 83 = .ok (.bipush 24, 2) := by decide +kernel
theorem d_M_init_85 : decode mi_M_init.2.1 85 = .ok (.newarray .int, 2) := by decide +kernel
theorem d_M_init_87 : decode mi_M_init.2.1 87 = .ok (.putfield 42, 3) := by decide +kernel
theorem d_M_init_90 : decode mi_M_init.2.1 90 = .ok (.aload_n 0, 1) := by decide +kernel
theorem d_M_init_91 : decode mi_M_init.2.1 91 = .ok (.bipush 24, 2) := by decide +kernel
theorem d_M_init_93 : decode mi_M_init.2.1 93 = .ok (.newarray .int, 2) := by decide +kernel
theorem d_M_init_95 : decode mi_M_init.2.1 95 = .ok (.putfield 45, 3) := by decide +kernel
theorem d_M_init_98 : decode mi_M_init.2.1 98 = .ok (.aload_n 0, 1) := by decide +kernel
theorem d_M_init_99 : decode mi_M_init.2.1 99 = .ok (.sipush 1536, 3) := by decide +kernel
theorem d_M_init_102 : decode mi_M_init.2.1 102 = .ok (.newarray .int, 2) := by decide +kernel
theorem d_M_init_104 : decode mi_M_init.2.1 104 = .ok (.putfield 48, 3) := by decide +kernel
theorem d_M_init_107 : decode mi_M_init.2.1 107 = .ok (.aload_n 0, 1) := by decide +kernel
theorem d_M_init_108 : decode mi_M_init.2.1 108 = .ok (.iconst 3, 1) := by decide +kernel
theorem d_M_init_109 : decode mi_M_init.2.1 109 = .ok (.newarray .int, 2) := by decide +kernel
theorem d_M_init_111 : decode mi_M_init.2.1 111 = .ok (.putfield 51, 3) := by decide +kernel
theorem d_M_init_114 : decode mi_M_init.2.1 114 = .ok (.aload_n 0, 1) := by decide +kernel
theorem d_M_init_115 : decode mi_M_init.2.1 115 = .ok (.iconst 3, 1) := by decide +kernel
theorem d_M_init_116 : decode mi_M_init.2.1 116 = .ok (.newarray .int, 2) := by decide +kernel
theorem d_M_init_118 : decode mi_M_init.2.1 118 = .ok (.putfield 54, 3) := by decide +kernel
theorem d_M_init_121 : decode mi_M_init.2.1 121 = .ok (.aload_n 0, 1) := by decide +kernel
theorem d_M_init_122 : decode mi_M_init.2.1 122 = .ok (.sipush 600, 3) := by decide +kernel
theorem d_M_init_125 : decode mi_M_init.2.1 125 = .ok (.newarray .int, 2) := by decide +kernel
theorem d_M_init_127 : decode mi_M_init.2.1 127 = .ok (.putfield 57, 3) := by decide +kernel
theorem d_M_init_130 : decode mi_M_init.2.1 130 = .ok (.aload_n 0, 1) := by decide +kernel
theorem d_M_init_131 : decode mi_M_init.2.1 131 = .ok (.bipush 64, 2) := by decide +kernel
theorem d_M_init_133 : decode mi_M_init.2.1 133 = .ok (.newarray .int, 2) := by decide +kernel
theorem d_M_init_135 : decode mi_M_init.2.1 135 = .ok (.putfield 60, 3) := by decide +kernel
theorem d_M_init_138 : decode mi_M_init.2.1 138 = .ok (.aload_n 0, 1) := by decide +kernel
theorem d_M_init_139 : decode mi_M_init.2.1 139 = .ok (.bipush 64, 2) := by decide +kernel
theorem d_M_init_141 : decode mi_M_init.2.1 141 = .ok (.newarray .int, 2) := by decide +kernel
theorem d_M_init_143 : decode mi_M_init.2.1 143 = .ok (.putfield 63, 3) := by decide +kernel
theorem d_M_init_146 : decode mi_M_init.2.1 146 = .ok (.aload_n 0, 1) := by decide +kernel
theorem d_M_init_147 : decode mi_M_init.2.1 147 = .ok (.iconst 4, 1) := by decide +kernel
theorem d_M_init_148 : decode mi_M_init.2.1 148 = .ok (.newarray .int, 2) := by decide +kernel
theorem d_M_init_150 : decode mi_M_init.2.1 150 = .ok (.putfield 66, 3) := by decide +kernel
theorem d_M_init_153 : decode mi_M_init.2.1 153 = .ok (.aload_n 0, 1) := by decide +kernel
theorem d_M_init_154 : decode mi_M_init.2.1 154 = .ok (.sipush 200, 3) := by decide +kernel
theorem d_M_init_157 : decode mi_M_init.2.1 157 = .ok (.newarray .int, 2) := by decide +kernel
theorem d_M_init_159 : decode mi_M_init.2.1 159 = .ok (.putfield 69, 3) := by decide +kernel
theorem d_M_init_162 : decode mi_M_init.2.1 162 = .ok (.aload_n 0, 1) := by decide +kernel
theorem d_M_init_163 : decode mi_M_init.2.1 163 = .ok (.getfield 13, 3) := by decide +kernel
theorem d_M_init_166 : decode mi_M_init.2.1 166 = .ok (.iconst 0, 1) := by decide +kernel
theorem d_M_init_167 : decode mi_M_init.2.1 167 = .ok (.iconst (-1), 1) := by decide +kernel
theorem d_M_init_168 : decode mi_M_init.2.1 168 = .ok (.iastore, 1) := by decide +kernel
theorem d_M_init_169 : decode mi_M_init.2.1 169 = .ok (.return_, 1) := by decide +kernel
theorem d_M_open_0 : decode mi_M_open.2.1 0 = .ok (.aload_n 0, 1) := by decide +kernel
theorem d_M_open_1 : decode mi_M_open.2.1 1 = .ok (.iconst 0, 1) := by decide +kernel
theorem d_M_open_2 : decode mi_M_open.2.1 2 = .ok (.putfield 72, 3) := by decide +kernel
theorem d_M_open_5 : decode mi_M_open.2.1 5 = .ok (.aload_n 0, 1) := by decide +kernel
theorem d_M_open_6 : decode mi_M_open.2.1 6 = .ok (.iconst 0, 1) := by decide +kernel
theorem d_M_open_7 : decode mi_M_open.2.1 7 = .ok (.putfield 76, 3) := by decide +kernel
theorem d_M_open_10 : decode mi_M_open.2.1 10 = .ok (.aload_n 0, 1) := by decide +kernel
theorem d_M_open_11 : decode mi_M_open.2.1 11 = .ok (.iconst 0, 1) := by decide +kernel
theorem d_M_open_12 : decode mi_M_open.2.1 12 = .ok (.putfield 79, 3) := by decide +kernel
theorem d_M_open_15 : decode mi_M_open.2.1 15 = .ok (.aload_n 0, 1) := by decide +kernel
theorem d_M_open_16 : decode mi_M_open.2.1 16 = .ok (.iconst 0, 1) := by decide +kernel
theorem d_M_open_17 : decode mi_M_open.2.1 17 = .ok (.putfield 82, 3) := by decide +kernel
theorem d_M_open_20 : decode mi_M_open.2.1 20 = .ok (.aload_n 0, 1) := by decide +kernel
theorem d_M_open_21 : decode mi_M_open.2.1 21 = .ok (.iconst 0, 1) := by decide +kernel
theorem d_M_open_22 : decode mi_M_open.2.1 22 = .ok (.putfield 85, 3) := by decide +kernel
theorem d_M_open_25 : decode mi_M_open.2.1 25 = .ok (.aload_n 0, 1) := by decide +kernel
theorem d_M_open_26 : decode mi_M_open.2.1 26 = .ok (.iconst 0, 1) := by decide +kernel
theorem d_M_open_27 : decode mi_M_open.2.1 27 = .ok (.putfield 88, 3) := by decide +kernel
theorem d_M_open_30 : decode mi_M_open.2.1 30 = .ok (.aload_n 0, 1) := by decide +kernel
theorem d_M_open_31 : decode mi_M_open.2.1 31 = .ok (.iconst 0, 1) := by decide +kernel
theorem d_M_open_32 : decode mi_M_open.2.1 32 = .ok (.putfield 91, 3) := by decide +kernel
theorem d_M_open_35 : decode mi_M_open.2.1 35 = .ok (.aload_n 0, 1) := by decide +kernel
theorem d_M_open_36 : decode mi_M_open.2.1 36 = .ok (.iconst 0, 1) := by decide +kernel
theorem d_M_open_37 : decode mi_M_open.2.1 37 = .ok (.putfield 94, 3) := by decide +kernel
theorem d_M_open_40 : decode mi_M_open.2.1 40 = .ok (.return_, 1) := by decide +kernel
theorem d_M_isOpen_0 : decode mi_M_isOpen.2.1 0 = .ok (.aload_n 0, 1) := by decide +kernel
theorem d_M_isOpen_1 : decode mi_M_isOpen.2.1 1 = .ok (.getfield 72, 3) := by decide +kernel
theorem d_M_isOpen_4 : decode mi_M_isOpen.2.1 4 = .ok (.ifCond .ne 7, 3) := by decide +kernel
theorem d_M_isOpen_7 : decode mi_M_isOpen.2.1 7 = .ok (.iconst 1, 1) := by decide +kernel
theorem d_M_isOpen_8 : decode mi_M_isOpen.2.1 8 = .ok (.goto 4, 3) := by decide +kernel
theorem d_M_isOpen_11 : decode mi_M_isOpen.2.1 11 = .ok (.iconst 0, 1) := by decide +kernel
theorem d_M_isOpen_12 : decode mi_M_isOpen.2.1 12 = .ok (.ireturn, 1) := by decide +kernel
theorem d_M_folder_0 : decode mi_M_folder.2.1 0 = .ok (.aload_n 0, 1) := by decide +kernel
theorem d_M_folder_1 : decode mi_M_folder.2.1 1 = .ok (.iload_n 1, 1) := by decide +kernel
theorem d_M_folder_2 : decode mi_M_folder.2.1 2 = .ok (.iconst 0, 1) := by decide +kernel
theorem d_M_folder_3 : decode mi_M_folder.2.1 3 = .ok (.iconst 0, 1) := by decide +kernel
theorem d_M_folder_4 : decode mi_M_folder.2.1 4 = .ok (.invokevirtual 101, 3) := by decide +kernel
theorem d_M_folder_7 : decode mi_M_folder.2.1 7 = .ok (.ireturn, 1) := by decide +kernel
theorem d_M_make_0 : decode mi_M_make.2.1 0 = .ok (.aload_n 0, 1) := by decide +kernel
theorem d_M_make_1 : decode mi_M_make.2.1 1 = .ok (.iload_n 1, 1) := by decide +kernel
theorem d_M_make_2 : decode mi_M_make.2.1 2 = .ok (.invokevirtual 97, 3) := by decide +kernel
theorem d_M_make_5 : decode mi_M_make.2.1 5 = .ok (.ifCond .eq 21, 3) := by decide +kernel
theorem d_M_make_8 : decode mi_M_make.2.1 8 = .ok (.aload_n 0, 1) := by decide +kernel
theorem d_M_make_9 : decode mi_M_make.2.1 9 = .ok (.getfield 17, 3) := by decide +kernel
theorem d_M_make_12 : decode mi_M_make.2.1 12 = .ok (.iload_n 1, 1) := by decide +kernel
theorem d_M_make_13 : decode mi_M_make.2.1 13 = .ok (.baload, 1) := by decide +kernel
theorem d_M_make_14 : decode mi_M_make.2.1 14 = .ok (.ifCond .ne 12, 3) := by decide +kernel
theorem d_M_make_17 : decode mi_M_make.2.1 17 = .ok (.aload_n 0, 1) := by decide +kernel
theorem d_M_make_18 : decode mi_M_make.2.1 18 = .ok (.getfield 7, 3) := by decide +kernel
theorem d_M_make_21 : decode mi_M_make.2.1 21 = .ok (.bipush 16, 2) := by decide +kernel
theorem d_M_make_23 : decode mi_M_make.2.1 23 = .ok (.if_icmp .ne 5, 3) := by decide +kernel
theorem d_M_make_26 : decode mi_M_make.2.1 26 = .ok (.iconst (-1), 1) := by decide +kernel
theorem d_M_make_27 : decode mi_M_make.2.1 27 = .ok (.ireturn, 1) := by decide +kernel
theorem d_M_make_28 : decode mi_M_make.2.1 28 = .ok (.aload_n 0, 1) := by decide +kernel
theorem d_M_make_29 : decode mi_M_make.2.1 29 = .ok (.getfield 13, 3) := by decide +kernel
theorem d_M_make_32 : decode mi_M_make.2.1 32 = .ok (.aload_n 0, 1) := by decide +kernel
theorem d_M_make_33 : decode mi_M_make.2.1 33 = .ok (.getfield 7, 3) := by decide +kernel
theorem d_M_make_36 : decode mi_M_make.2.1 36 = .ok (.iload_n 1, 1) := by decide +kernel
theorem d_M_make_37 : decode mi_M_make.2.1 37 = .ok (.iastore, 1) := by decide +kernel
theorem d_M_make_38 : decode mi_M_make.2.1 38 = .ok (.aload_n 0, 1) := by decide +kernel
theorem d_M_make_39 : decode mi_M_make.2.1 39 = .ok (.getfield 17, 3) := by decide +kernel
theorem d_M_make_42 : decode mi_M_make.2.1 42 = .ok (.aload_n 0, 1) := by decide +kernel
theorem d_M_make_43 : decode mi_M_make.2.1 43 = .ok (.getfield 7, 3) := by decide +kernel
theorem d_M_make_46 : decode mi_M_make.2.1 46 = .ok (.iload_n 2, 1) := by decide +kernel
theorem d_M_make_47 : decode mi_M_make.2.1 47 = .ok (.bastore, 1) := by decide +kernel
theorem d_M_make_48 : decode mi_M_make.2.1 48 = .ok (.aload_n 0, 1) := by decide +kernel
theorem d_M_make_49 : decode mi_M_make.2.1 49 = .ok (.getfield 21, 3) := by decide +kernel
theorem d_M_make_52 : decode mi_M_make.2.1 52 = .ok (.aload_n 0, 1) := by decide +kernel
theorem d_M_make_53 : decode mi_M_make.2.1 53 = .ok (.getfield 7, 3) := by decide +kernel
theorem d_M_make_56 : decode mi_M_make.2.1 56 = .ok (.iload_n 3, 1) := by decide +kernel
theorem d_M_make_57 : decode mi_M_make.2.1 57 = .ok (.iastore, 1) := by decide +kernel
theorem d_M_make_58 : decode mi_M_make.2.1 58 = .ok (.aload_n 0, 1) := by decide +kernel
theorem d_M_make_59 : decode mi_M_make.2.1 59 = .ok (.getfield 24, 3) := by decide +kernel
theorem d_M_make_62 : decode mi_M_make.2.1 62 = .ok (.aload_n 0, 1) := by decide +kernel
theorem d_M_make_63 : decode mi_M_make.2.1 63 = .ok (.getfield 7, 3) := by decide +kernel
theorem d_M_make_66 : decode mi_M_make.2.1 66 = .ok (.iconst 0, 1) := by decide +kernel
theorem d_M_make_67 : decode mi_M_make.2.1 67 = .ok (.iastore, 1) := by decide +kernel
theorem d_M_make_68 : decode mi_M_make.2.1 68 = .ok (.aload_n 0, 1) := by decide +kernel
theorem d_M_make_69 : decode mi_M_make.2.1 69 = .ok (.dup, 1) := by decide +kernel
theorem d_M_make_70 : decode mi_M_make.2.1 70 = .ok (.getfield 7, 3) := by decide +kernel
theorem d_M_make_73 : decode mi_M_make.2.1 73 = .ok (.iconst 1, 1) := by decide +kernel
theorem d_M_make_74 : decode mi_M_make.2.1 74 = .ok (.iadd, 1) := by decide +kernel
theorem d_M_make_75 : decode mi_M_make.2.1 75 = .ok (.putfield 7, 3) := by decide +kernel
theorem d_M_make_78 : decode mi_M_make.2.1 78 = .ok (.aload_n 0, 1) := by decide +kernel
theorem d_M_make_79 : decode mi_M_make.2.1 79 = .ok (.getfield 7, 3) := by decide +kernel
theorem d_M_make_82 : decode mi_M_make.2.1 82 = .ok (.iconst 1, 1) := by decide +kernel
theorem d_M_make_83 : decode mi_M_make.2.1 83 = .ok (.isub, 1) := by decide +kernel
theorem d_M_make_84 : decode mi_M_make.2.1 84 = .ok (.ireturn, 1) := by decide +kernel
theorem d_M_isNode_0 : decode mi_M_isNode.2.1 0 = .ok (.iload_n 1, 1) := by decide +kernel
theorem d_M_isNode_1 : decode mi_M_isNode.2.1 1 = .ok (.ifCond .lt 15, 3) := by decide +kernel
theorem d_M_isNode_4 : decode mi_M_isNode.2.1 4 = .ok (.iload_n 1, 1) := by decide +kernel
theorem d_M_isNode_5 : decode mi_M_isNode.2.1 5 = .ok (.aload_n 0, 1) := by decide +kernel
theorem d_M_isNode_6 : decode mi_M_isNode.2.1 6 = .ok (.getfield 7, 3) := by decide +kernel
theorem d_M_isNode_9 : decode mi_M_isNode.2.1 9 = .ok (.if_icmp .ge 7, 3) := by decide +kernel
theorem d_M_isNode_12 : decode mi_M_isNode.2.1 12 = .ok (.iconst 1, 1) := by decide +kernel
theorem d_M_isNode_13 : decode mi_M_isNode.2.1 13 = .ok (.goto 4, 3) := by decide +kernel
theorem d_M_isNode_16 : decode mi_M_isNode.2.1 16 = .ok (.iconst 0, 1) := by decide +kernel
theorem d_M_isNode_17 : decode mi_M_isNode.2.1 17 = .ok (.ireturn, 1) := by decide +kernel
theorem d_M_variable_0 : decode mi_M_variable.2.1 0 = .ok (.iload_n 2, 1) := by decide +kernel
theorem d_M_variable_1 : decode mi_M_variable.2.1 1 = .ok (.ifCond .eq 28, 3) := by decide +kernel
theorem d_M_variable_4 : decode mi_M_variable.2.1 4 = .ok (.iload_n 2, 1) := by decide +kernel
theorem d_M_variable_5 : decode mi_M_variable.2.1 5 = .ok (.iconst 1, 1) := by decide +kernel
theorem d_M_variable_6 : decode mi_M_variable.2.1 6 = .ok (.if_icmp .eq 23, 3) := by decide +kernel
theorem d_M_variable_9 : decode mi_M_variable.2.1 9 = .ok (.iload_n 2, 1) := by decide +kernel
theorem d_M_variable_10 : decode mi_M_variable.2.1 10 = .ok (.bipush 6, 2) := by decide +kernel
theorem d_M_variable_12 : decode mi_M_variable.2.1 12 = .ok (.if_icmp .eq 17, 3) := by decide +kernel
theorem d_M_variable_15 : decode mi_M_variable.2.1 15 = .ok (.iload_n 2, 1) := by decide +kernel
theorem d_M_variable_16 : decode mi_M_variable.2.1 16 = .ok (.bipush 8, 2) := by decide +kernel
theorem d_M_variable_18 : decode mi_M_variable.2.1 18 = .ok (.if_icmp .eq 11, 3) := by decide +kernel
theorem d_M_variable_21 : decode mi_M_variable.2.1 21 = .ok (.iload_n 2, 1) := by decide +kernel
theorem d_M_variable_22 : decode mi_M_variable.2.1 22 = .ok (.bipush 12, 2) := by decide +kernel
theorem d_M_variable_24 : decode mi_M_variable.2.1 24 = .ok (.if_icmp .eq 5, 3) := by decide +kernel
theorem d_M_variable_27 : decode mi_M_variable.2.1 27 = .ok (.iconst (-1), 1) := by decide +kernel
theorem d_M_variable_28 : decode mi_M_variable.2.1 28 = .ok (.ireturn, 1) := by decide +kernel
theorem d_M_variable_29 : decode mi_M_variable.2.1 29 = .ok (.aload_n 0, 1) := by decide +kernel
theorem d_M_variable_30 : decode mi_M_variable.2.1 30 = .ok (.iload_n 1, 1) := by decide +kernel
theorem d_M_variable_31 : decode mi_M_variable.2.1 31 = .ok (.iconst 1, 1) := by decide +kernel
theorem d_M_variable_32 : decode mi_M_variable.2.1 32 = .ok (.iload_n 2, 1) := by decide +kernel
theorem d_M_variable_33 : decode mi_M_variable.2.1 33 = .ok (.invokevirtual 101, 3) := by decide +kernel
theorem d_M_variable_36 : decode mi_M_variable.2.1 36 = .ok (.istore_n 3, 1) := by decide +kernel
theorem d_M_variable_37 : decode mi_M_variable.2.1 37 = .ok (.iload_n 3, 1) := by decide +kernel
theorem d_M_variable_38 : decode mi_M_variable.2.1 38 = .ok (.ifCond .lt 79, 3) := by decide +kernel
theorem d_M_variable_41 : decode mi_M_variable.2.1 41 = .ok (.iload_n 2, 1) := by decide +kernel
theorem d_M_variable_42 : decode mi_M_variable.2.1 42 = .ok (.ifCond .ne 7, 3) := by decide +kernel
theorem d_M_variable_45 : decode mi_M_variable.2.1 45 = .ok (.iconst 0, 1) := by decide +kernel
theorem d_M_variable_46 : decode mi_M_variable.2.1 46 = .ok (.goto 24, 3) := by decide +kernel
theorem d_M_variable_49 : decode mi_M_variable.2.1 49 = .ok (.iload_n 2, 1) := by decide +kernel
theorem d_M_variable_50 : decode mi_M_variable.2.1 50 = .ok (.iconst 1, 1) := by decide +kernel
theorem d_M_variable_51 : decode mi_M_variable.2.1 51 = .ok (.if_icmp .ne 7, 3) := by decide +kernel
theorem d_M_variable_54 : decode mi_M_variable.2.1 54 = .ok (.iconst 1, 1) := by decide +kernel
theorem d_M_variable_55 : decode mi_M_variable.2.1 55 = .ok (.goto 15, 3) := by decide +kernel
theorem d_M_variable_58 : decode mi_M_variable.2.1 58 = .ok (.iload_n 2, 1) := by decide +kernel
theorem d_M_variable_59 : decode mi_M_variable.2.1 59 = .ok (.bipush 8, 2) := by decide +kernel
theorem d_M_variable_61 : decode mi_M_variable.2.1 61 = .ok (.if_icmp .ne 8, 3) := by decide +kernel
theorem d_M_variable_64 : decode mi_M_variable.2.1 64 = .ok (.bipush 8, 2) := by decide +kernel
theorem d_M_variable_66 : decode mi_M_variable.2.1 66 = .ok (.goto 4, 3) := by decide +kernel
theorem d_M_variable_69 : decode mi_M_variable.2.1 69 = .ok (.iconst 4, 1) := by decide +kernel
theorem d_M_variable_70 : decode mi_M_variable.2.1 70 = .ok (.istore 4, 2) := by decide +kernel
theorem d_M_variable_72 : decode mi_M_variable.2.1 72 = .ok (.aload_n 0, 1) := by decide +kernel
theorem d_M_variable_73 : decode mi_M_variable.2.1 73 = .ok (.getfield 27, 3) := by decide +kernel
theorem d_M_variable_76 : decode mi_M_variable.2.1 76 = .ok (.bipush 64, 2) := by decide +kernel
theorem d_M_variable_78 : decode mi_M_variable.2.1 78 = .ok (.iload_n 3, 1) := by decide +kernel
theorem d_M_variable_79 : decode mi_M_variable.2.1 79 = .ok (.imul, 1) := by decide +kernel
theorem d_M_variable_80 : decode mi_M_variable.2.1 80 = .ok (.iload_n 2, 1) := by decide +kernel
theorem d_M_variable_81 : decode mi_M_variable.2.1 81 = .ok (.iastore, 1) := by decide +kernel
theorem d_M_variable_82 : decode mi_M_variable.2.1 82 = .ok (.aload_n 0, 1) := by decide +kernel
theorem d_M_variable_83 : decode mi_M_variable.2.1 83 = .ok (.bipush 64, 2) := by decide +kernel
theorem d_M_variable_85 : decode mi_M_variable.2.1 85 = .ok (.iload_n 3, 1) := by decide +kernel
theorem d_M_variable_86 : decode mi_M_variable.2.1 86 = .ok (.imul, 1) := by decide +kernel
theorem d_M_variable_87 : decode mi_M_variable.2.1 87 = .ok (.iconst 1, 1) := by decide +kernel
theorem d_M_variable_88 : decode mi_M_variable.2.1 88 = .ok (.iadd, 1) := by decide +kernel
theorem d_M_variable_89 : decode mi_M_variable.2.1 89 = .ok (.iload_n 2, 1) := by decide +kernel
theorem d_M_variable_90 : decode mi_M_variable.2.1 90 = .ok (.bipush 12, 2) := by decide +kernel
theorem d_M_variable_92 : decode mi_M_variable.2.1 92 = .ok (.if_icmp .ne 9, 3) := by decide +kernel
theorem d_M_variable_95 : decode mi_M_variable.2.1 95 = .ok (.ldc2_w 107, 3) := by decide +kernel
theorem d_M_variable_98 : decode mi_M_variable.2.1 98 = .ok (.goto 4, 3) := by decide +kernel
theorem d_M_variable_101 : decode mi_M_variable.2.1 101 = .ok (.lconst 0, 1) := by decide +kernel
theorem d_M_variable_102 : decode mi_M_variable.2.1 102 = .ok (.iload 4, 2) := by decide +kernel
theorem d_M_variable_104 : decode mi_M_variable.2.1 104 = .ok (.invokevirtual 109, 3) := by decide +kernel
theorem d_M_variable_107 : decode mi_M_variable.2.1 107 = .ok (.aload_n 0, 1) := by decide +kernel
theorem d_M_variable_108 : decode mi_M_variable.2.1 108 = .ok (.getfield 24, 3) := by decide +kernel
theorem d_M_variable_111 : decode mi_M_variable.2.1 111 = .ok (.iload_n 3, 1) := by decide +kernel
theorem d_M_variable_112 : decode mi_M_variable.2.1 112 = .ok (.iconst 1, 1) := by decide +kernel
theorem d_M_variable_113 : decode mi_M_variable.2.1 113 = .ok (.iload 4, 2) := by decide +kernel
theorem d_M_variable_115 : decode mi_M_variable.2.1 115 = .ok (.iadd, 1) := by decide +kernel
theorem d_M_variable_116 : decode mi_M_variable.2.1 116 = .ok (.iastore, 1) := by decide +kernel
theorem d_M_variable_117 : decode mi_M_variable.2.1 117 = .ok (.iload_n 3, 1) := by decide +kernel
theorem d_M_variable_118 : decode mi_M_variable.2.1 118 = .ok (.ireturn, 1) := by decide +kernel
theorem d_M_startNumber_0 : decode mi_M_startNumber.2.1 0 = .ok (.iconst 0, 1) := by decide +kernel
theorem d_M_startNumber_1 : decode mi_M_startNumber.2.1 1 = .ok (.istore 5, 2) := by decide +kernel
theorem d_M_startNumber_3 : decode mi_M_startNumber.2.1 3 = .ok (.iload 5, 2) := by decide +kernel
theorem d_M_startNumber_5 : decode mi_M_startNumber.2.1 5 = .ok (.iload 4, 2) := by decide +kernel
theorem d_M_startNumber_7 : decode mi_M_startNumber.2.1 7 = .ok (.if_icmp .ge 30, 3) := by decide +kernel
theorem d_M_startNumber_10 : decode mi_M_startNumber.2.1 10 = .ok (.aload_n 0, 1) := by decide +kernel
theorem d_M_startNumber_11 : decode mi_M_startNumber.2.1 11 = .ok (.getfield 27, 3) := by decide +kernel
theorem d_M_startNumber_14 : decode mi_M_startNumber.2.1 14 = .ok (.iload_n 1, 1) := by decide +kernel
theorem d_M_startNumber_15 : decode mi_M_startNumber.2.1 15 = .ok (.iload 5, 2) := by decide +kernel
theorem d_M_startNumber_17 : decode mi_M_startNumber.2.1 17 = .ok (.iadd, 1) := by decide +kernel
theorem d_M_startNumber_18 : decode mi_M_startNumber.2.1 18 = .ok (.lload_n 2, 1) := by decide +kernel
theorem d_M_startNumber_19 : decode mi_M_startNumber.2.1 19 = .ok (.bipush 8, 2) := by decide +kernel
theorem d_M_startNumber_21 : decode mi_M_startNumber.2.1 21 = .ok (.iload 5, 2) := by decide +kernel
theorem d_M_startNumber_23 : decode mi_M_startNumber.2.1 23 = .ok (.imul, 1) := by decide +kernel
theorem d_M_startNumber_24 : decode mi_M_startNumber.2.1 24 = .ok (.lshr, 1) := by decide +kernel
theorem d_M_startNumber_25 : decode mi_M_startNumber.2.1 25 = .ok (.ldc2_w 105, 3) := by decide +kernel
theorem d_M_startNumber_28 : decode mi_M_startNumber.2.1 28 = .ok (.land, 1) := by decide +kernel
theorem d_M_startNumber_29 : decode mi_M_startNumber.2.1 29 = .ok (.l2i, 1) := by decide +kernel
theorem d_M_startNumber_30 : decode mi_M_startNumber.2.1 30 = .ok (.iastore, 1) := by decide +kernel
theorem d_M_startNumber_31 : decode mi_M_startNumber.2.1 31 = .ok (.iinc 5 1, 3) := by decide +kernel
theorem d_M_startNumber_34 : decode mi_M_startNumber.2.1 34 = .ok (.goto (-31), 3) := by decide +kernel
theorem d_M_startNumber_37 : decode mi_M_startNumber.2.1 37 = .ok (.return_, 1) := by decide +kernel
theorem d_M_poke_0 : decode mi_M_poke.2.1 0 = .ok (.aload_n 0, 1) := by decide +kernel
theorem d_M_poke_1 : decode mi_M_poke.2.1 1 = .ok (.iload_n 1, 1) := by decide +kernel
theorem d_M_poke_2 : decode mi_M_poke.2.1 2 = .ok (.invokevirtual 131, 3) := by decide +kernel
theorem d_M_poke_5 : decode mi_M_poke.2.1 5 = .ok (.ifCond .eq 35, 3) := by decide +kernel
theorem d_M_poke_8 : decode mi_M_poke.2.1 8 = .ok (.aload_n 0, 1) := by decide +kernel
theorem d_M_poke_9 : decode mi_M_poke.2.1 9 = .ok (.getfield 21, 3) := by decide +kernel
theorem d_M_poke_12 : decode mi_M_poke.2.1 12 = .ok (.iload_n 1, 1) := by decide +kernel
theorem d_M_poke_13 : decode mi_M_poke.2.1 13 = .ok (.iaload, 1) := by decide +kernel
theorem d_M_poke_14 : decode mi_M_poke.2.1 14 = .ok (.iconst 1, 1) := by decide +kernel
theorem d_M_poke_15 : decode mi_M_poke.2.1 15 = .ok (.if_icmp .eq 27, 3) := by decide +kernel
theorem d_M_poke_18 : decode mi_M_poke.2.1 18 = .ok (.aload_n 0, 1) := by decide +kernel
theorem d_M_poke_19 : decode mi_M_poke.2.1 19 = .ok (.getfield 21, 3) := by decide +kernel
theorem d_M_poke_22 : decode mi_M_poke.2.1 22 = .ok (.iload_n 1, 1) := by decide +kernel
theorem d_M_poke_23 : decode mi_M_poke.2.1 23 = .ok (.iaload, 1) := by decide +kernel
theorem d_M_poke_24 : decode mi_M_poke.2.1 24 = .ok (.bipush 6, 2) := by decide +kernel
theorem d_M_poke_26 : decode mi_M_poke.2.1 26 = .ok (.if_icmp .eq 16, 3) := by decide +kernel
theorem d_M_poke_29 : decode mi_M_poke.2.1 29 = .ok (.aload_n 0, 1) := by decide +kernel
theorem d_M_poke_30 : decode mi_M_poke.2.1 30 = .ok (.getfield 21, 3) := by decide +kernel
theorem d_M_poke_33 : decode mi_M_poke.2.1 33 = .ok (.iload_n 1, 1) := by decide +kernel
theorem d_M_poke_34 : decode mi_M_poke.2.1 34 = .ok (.iaload, 1) := by decide +kernel
theorem d_M_poke_35 : decode mi_M_poke.2.1 35 = .ok (.bipush 8, 2) := by decide +kernel
theorem d_M_poke_37 : decode mi_M_poke.2.1 37 = .ok (.if_icmp .eq 5, 3) := by decide +kernel
theorem d_M_poke_40 : decode mi_M_poke.2.1 40 = .ok (.iconst 0, 1) := by decide +kernel
theorem d_M_poke_41 : decode mi_M_poke.2.1 41 = .ok (.ireturn, 1) := by decide +kernel
theorem d_M_poke_42 : decode mi_M_poke.2.1 42 = .ok (.aload_n 0, 1) := by decide +kernel
theorem d_M_poke_43 : decode mi_M_poke.2.1 43 = .ok (.getfield 21, 3) := by decide +kernel
theorem d_M_poke_46 : decode mi_M_poke.2.1 46 = .ok (.iload_n 1, 1) := by decide +kernel
theorem d_M_poke_47 : decode mi_M_poke.2.1 47 = .ok (.iaload, 1) := by decide +kernel
theorem d_M_poke_48 : decode mi_M_poke.2.1 48 = .ok (.istore 4, 2) := by decide +kernel
theorem d_M_poke_50 : decode mi_M_poke.2.1 50 = .ok (.iload 4, 2) := by decide +kernel
theorem d_M_poke_52 : decode mi_M_poke.2.1 52 = .ok (.iconst 1, 1) := by decide +kernel
theorem d_M_poke_53 : decode mi_M_poke.2.1 53 = .ok (.if_icmp .ne 7, 3) := by decide +kernel
theorem d_M_poke_56 : decode mi_M_poke.2.1 56 = .ok (.iconst 1, 1) := by decide +kernel
theorem d_M_poke_57 : decode mi_M_poke.2.1 57 = .ok (.goto 16, 3) := by decide +kernel
theorem d_M_poke_60 : decode mi_M_poke.2.1 60 = .ok (.iload 4, 2) := by decide +kernel
theorem d_M_poke_62 : decode mi_M_poke.2.1 62 = .ok (.bipush 6, 2) := by decide +kernel
theorem d_M_poke_64 : decode mi_M_poke.2.1 64 = .ok (.if_icmp .ne 7, 3) := by decide +kernel
theorem d_M_poke_67 : decode mi_M_poke.2.1 67 = .ok (.iconst 4, 1) := by decide +kernel
theorem d_M_poke_68 : decode mi_M_poke.2.1 68 = .ok (.goto 5, 3) := by decide +kernel
theorem d_M_poke_71 : decode mi_M_poke.2.1 71 = .ok (.bipush 8, 2) := by decide +kernel
theorem d_M_poke_73 : decode mi_M_poke.2.1 73 = .ok (.istore 5, 2) := by decide +kernel
theorem d_M_poke_75 : decode mi_M_poke.2.1 75 = .ok (.iload 4, 2) := by decide +kernel
theorem d_M_poke_77 : decode mi_M_poke.2.1 77 = .ok (.iconst 1, 1) := by decide +kernel
theorem d_M_poke_78 : decode mi_M_poke.2.1 78 = .ok (.if_icmp .ne 17, 3) := by decide +kernel
theorem d_M_poke_81 : decode mi_M_poke.2.1 81 = .ok (.lload_n 2, 1) := by decide +kernel
theorem d_M_poke_82 : decode mi_M_poke.2.1 82 = .ok (.lconst 0, 1) := by decide +kernel
theorem d_M_poke_83 : decode mi_M_poke.2.1 83 = .ok (.lcmp, 1) := by decide +kernel
theorem d_M_poke_84 : decode mi_M_poke.2.1 84 = .ok (.ifCond .ne 7, 3) := by decide +kernel
theorem d_M_poke_87 : decode mi_M_poke.2.1 87 = .ok (.lconst 0, 1) := by decide +kernel
theorem d_M_poke_88 : decode mi_M_poke.2.1 88 = .ok (.goto 8, 3) := by decide +kernel
theorem d_M_poke_91 : decode mi_M_poke.2.1 91 = .ok (.lconst 1, 1) := by decide +kernel
theorem d_M_poke_92 : decode mi_M_poke.2.1 92 = .ok (.goto 4, 3) := by decide +kernel
theorem d_M_poke_95 : decode mi_M_poke.2.1 95 = .ok (.lload_n 2, 1) := by decide +kernel
theorem d_M_poke_96 : decode mi_M_poke.2.1 96 = .ok (.lstore 6, 2) := by decide +kernel
theorem d_M_poke_98 : decode mi_M_poke.2.1 98 = .ok (.aload_n 0, 1) := by decide +kernel
theorem d_M_poke_99 : decode mi_M_poke.2.1 99 = .ok (.getfield 63, 3) := by decide +kernel
theorem d_M_poke_102 : decode mi_M_poke.2.1 102 = .ok (.iconst 0, 1) := by decide +kernel
theorem d_M_poke_103 : decode mi_M_poke.2.1 103 = .ok (.iload 4, 2) := by decide +kernel
theorem d_M_poke_105 : decode mi_M_poke.2.1 105 = .ok (.iastore, 1) := by decide +kernel
theorem d_M_poke_106 : decode mi_M_poke.2.1 106 = .ok (.iconst 0, 1) := by decide +kernel
theorem d_M_poke_107 : decode mi_M_poke.2.1 107 = .ok (.istore 8, 2) := by decide +kernel
theorem d_M_poke_109 : decode mi_M_poke.2.1 109 = .ok (.iload 8, 2) := by decide +kernel
theorem d_M_poke_111 : decode mi_M_poke.2.1 111 = .ok (.iload 5, 2) := by decide +kernel
theorem d_M_poke_113 : decode mi_M_poke.2.1 113 = .ok (.if_icmp .ge 31, 3) := by decide +kernel
theorem d_M_poke_116 : decode mi_M_poke.2.1 116 = .ok (.aload_n 0, 1) := by decide +kernel
theorem d_M_poke_117 : decode mi_M_poke.2.1 117 = .ok (.getfield 63, 3) := by decide +kernel
theorem d_M_poke_120 : decode mi_M_poke.2.1 120 = .ok (.iconst 1, 1) := by decide +kernel
theorem d_M_poke_121 : decode mi_M_poke.2.1 121 = .ok (.iload 8, 2) := by decide +kernel
theorem d_M_poke_123 : decode mi_M_poke.2.1 123 = .ok (.iadd, 1) := by decide +kernel
theorem d_M_poke_124 : decode mi_M_poke.2.1 124 = .ok (.lload 6, 2) := by decide +kernel
theorem d_M_poke_126 : decode mi_M_poke.2.1 126 = .ok (.bipush 8, 2) := by decide +kernel
theorem d_M_poke_128 : decode mi_M_poke.2.1 128 = .ok (.iload 8, 2) := by decide +kernel
theorem d_M_poke_130 : decode mi_M_poke.2.1 130 = .ok (.imul, 1) := by decide +kernel
theorem d_M_poke_131 : decode mi_M_poke.2.1 131 = .ok (.lshr, 1) := by decide +kernel
theorem d_M_poke_132 : decode mi_M_poke.2.1 132 = .ok (.ldc2_w 105, 3) := by decide +kernel
theorem d_M_poke_135 : decode mi_M_poke.2.1 135 = .ok (.land, 1) := by decide +kernel
theorem d_M_poke_136 : decode mi_M_poke.2.1 136 = .ok (.l2i, 1) := by decide +kernel
theorem d_M_poke_137 : decode mi_M_poke.2.1 137 = .ok (.iastore, 1) := by decide +kernel
theorem d_M_poke_138 : decode mi_M_poke.2.1 138 = .ok (.iinc 8 1, 3) := by decide +kernel
theorem d_M_poke_141 : decode mi_M_poke.2.1 141 = .ok (.goto (-32), 3) := by decide +kernel
theorem d_M_poke_144 : decode mi_M_poke.2.1 144 = .ok (.aload_n 0, 1) := by decide +kernel
theorem d_M_poke_145 : decode mi_M_poke.2.1 145 = .ok (.iconst 1, 1) := by decide +kernel
theorem d_M_poke_146 : decode mi_M_poke.2.1 146 = .ok (.iload 5, 2) := by decide +kernel
theorem d_M_poke_148 : decode mi_M_poke.2.1 148 = .ok (.iadd, 1) := by decide +kernel
theorem d_M_poke_149 : decode mi_M_poke.2.1 149 = .ok (.putfield 125, 3) := by decide +kernel
theorem d_M_poke_152 : decode mi_M_poke.2.1 152 = .ok (.aload_n 0, 1) := by decide +kernel
theorem d_M_poke_153 : decode mi_M_poke.2.1 153 = .ok (.iload_n 1, 1) := by decide +kernel
theorem d_M_poke_154 : decode mi_M_poke.2.1 154 = .ok (.invokevirtual 134, 3) := by decide +kernel
theorem d_M_poke_157 : decode mi_M_poke.2.1 157 = .ok (.ireturn, 1) := by decide +kernel
theorem d_M_isVariable_0 : decode mi_M_isVariable.2.1 0 = .ok (.aload_n 0, 1) := by decide +kernel
theorem d_M_isVariable_1 : decode mi_M_isVariable.2.1 1 = .ok (.iload_n 1, 1) := by decide +kernel
theorem d_M_isVariable_2 : decode mi_M_isVariable.2.1 2 = .ok (.invokevirtual 97, 3) := by decide +kernel
theorem d_M_isVariable_5 : decode mi_M_isVariable.2.1 5 = .ok (.ifCond .eq 16, 3) := by decide +kernel
theorem d_M_isVariable_8 : decode mi_M_isVariable.2.1 8 = .ok (.aload_n 0, 1) := by decide +kernel
theorem d_M_isVariable_9 : decode mi_M_isVariable.2.1 9 = .ok (.getfield 17, 3) := by decide +kernel
theorem d_M_isVariable_12 : decode mi_M_isVariable.2.1 12 = .ok (.iload_n 1, 1) := by decide +kernel
theorem d_M_isVariable_13 : decode mi_M_isVariable.2.1 13 = .ok (.baload, 1) := by decide +kernel
theorem d_M_isVariable_14 : decode mi_M_isVariable.2.1 14 = .ok (.ifCond .eq 7, 3) := by decide +kernel
theorem d_M_isVariable_17 : decode mi_M_isVariable.2.1 17 = .ok (.iconst 1, 1) := by decide +kernel
theorem d_M_isVariable_18 : decode mi_M_isVariable.2.1 18 = .ok (.goto 4, 3) := by decide +kernel
theorem d_M_isVariable_21 : decode mi_M_isVariable.2.1 21 = .ok (.iconst 0, 1) := by decide +kernel
theorem d_M_isVariable_22 : decode mi_M_isVariable.2.1 22 = .ok (.ireturn, 1) := by decide +kernel
theorem d_M_become_0 : decode mi_M_become.2.1 0 = .ok (.aload_n 0, 1) := by decide +kernel
theorem d_M_become_1 : decode mi_M_become.2.1 1 = .ok (.getfield 24, 3) := by decide +kernel
theorem d_M_become_4 : decode mi_M_become.2.1 4 = .ok (.iload_n 1, 1) := by decide +kernel
theorem d_M_become_5 : decode mi_M_become.2.1 5 = .ok (.iaload, 1) := by decide +kernel
theorem d_M_become_6 : decode mi_M_become.2.1 6 = .ok (.aload_n 0, 1) := by decide +kernel
theorem d_M_become_7 : decode mi_M_become.2.1 7 = .ok (.getfield 125, 3) := by decide +kernel
theorem d_M_become_10 : decode mi_M_become.2.1 10 = .ok (.if_icmp .ne 7, 3) := by decide +kernel
theorem d_M_become_13 : decode mi_M_become.2.1 13 = .ok (.iconst 1, 1) := by decide +kernel
theorem d_M_become_14 : decode mi_M_become.2.1 14 = .ok (.goto 4, 3) := by decide +kernel
theorem d_M_become_17 : decode mi_M_become.2.1 17 = .ok (.iconst 0, 1) := by decide +kernel
theorem d_M_become_18 : decode mi_M_become.2.1 18 = .ok (.istore_n 2, 1) := by decide +kernel
theorem d_M_become_19 : decode mi_M_become.2.1 19 = .ok (.iconst 0, 1) := by decide +kernel
theorem d_M_become_20 : decode mi_M_become.2.1 20 = .ok (.istore_n 3, 1) := by decide +kernel
theorem d_M_become_21 : decode mi_M_become.2.1 21 = .ok (.iload_n 3, 1) := by decide +kernel
theorem d_M_become_22 : decode mi_M_become.2.1 22 = .ok (.aload_n 0, 1) := by decide +kernel
theorem d_M_become_23 : decode mi_M_become.2.1 23 = .ok (.getfield 125, 3) := by decide +kernel
theorem d_M_become_26 : decode mi_M_become.2.1 26 = .ok (.if_icmp .ge 39, 3) := by decide +kernel
theorem d_M_become_29 : decode mi_M_become.2.1 29 = .ok (.iload_n 2, 1) := by decide +kernel
theorem d_M_become_30 : decode mi_M_become.2.1 30 = .ok (.ifCond .eq 27, 3) := by decide +kernel
theorem d_M_become_33 : decode mi_M_become.2.1 33 = .ok (.aload_n 0, 1) := by decide +kernel
theorem d_M_become_34 : decode mi_M_become.2.1 34 = .ok (.getfield 27, 3) := by decide +kernel
theorem d_M_become_37 : decode mi_M_become.2.1 37 = .ok (.bipush 64, 2) := by decide +kernel
theorem d_M_become_39 : decode mi_M_become.2.1 39 = .ok (.iload_n 1, 1) := by decide +kernel
theorem d_M_become_40 : decode mi_M_become.2.1 40 = .ok (.imul, 1) := by decide +kernel
theorem d_M_become_41 : decode mi_M_become.2.1 41 = .ok (.iload_n 3, 1) := by decide +kernel
theorem d_M_become_42 : decode mi_M_become.2.1 42 = .ok (.iadd, 1) := by decide +kernel
theorem d_M_become_43 : decode mi_M_become.2.1 43 = .ok (.iaload, 1) := by decide +kernel
theorem d_M_become_44 : decode mi_M_become.2.1 44 = .ok (.aload_n 0, 1) := by decide +kernel
theorem d_M_become_45 : decode mi_M_become.2.1 45 = .ok (.getfield 63, 3) := by decide +kernel
theorem d_M_become_48 : decode mi_M_become.2.1 48 = .ok (.iload_n 3, 1) := by decide +kernel
theorem d_M_become_49 : decode mi_M_become.2.1 49 = .ok (.iaload, 1) := by decide +kernel
theorem d_M_become_50 : decode mi_M_become.2.1 50 = .ok (.if_icmp .ne 7, 3) := by decide +kernel
theorem d_M_become_53 : decode mi_M_become.2.1 53 = .ok (.iconst 1, 1) := by decide +kernel
theorem d_M_become_54 : decode mi_M_become.2.1 54 = .ok (.goto 4, 3) := by decide +kernel
theorem d_M_become_57 : decode mi_M_become.2.1 57 = .ok (.iconst 0, 1) := by decide +kernel
theorem d_M_become_58 : decode mi_M_become.2.1 58 = .ok (.istore_n 2, 1) := by decide +kernel
theorem d_M_become_59 : decode mi_M_become.2.1 59 = .ok (.iinc 3 1, 3) := by decide +kernel
theorem d_M_become_62 : decode mi_M_become.2.1 62 = .ok (.goto (-41), 3) := by decide +kernel
theorem d_M_become_65 : decode mi_M_become.2.1 65 = .ok (.iload_n 2, 1) := by decide +kernel
theorem d_M_become_66 : decode mi_M_become.2.1 66 = .ok (.ifCond .eq 5, 3) := by decide +kernel
theorem d_M_become_69 : decode mi_M_become.2.1 69 = .ok (.iconst 0, 1) := by decide +kernel
theorem d_M_become_70 : decode mi_M_become.2.1 70 = .ok (.ireturn, 1) := by decide +kernel
theorem d_M_become_71 : decode mi_M_become.2.1 71 = .ok (.aload_n 0, 1) := by decide +kernel
theorem d_M_become_72 : decode mi_M_become.2.1 72 = .ok (.getfield 24, 3) := by decide +kernel
theorem d_M_become_75 : decode mi_M_become.2.1 75 = .ok (.iload_n 1, 1) := by decide +kernel
theorem d_M_become_76 : decode mi_M_become.2.1 76 = .ok (.aload_n 0, 1) := by decide +kernel
theorem d_M_become_77 : decode mi_M_become.2.1 77 = .ok (.getfield 125, 3) := by decide +kernel
theorem d_M_become_80 : decode mi_M_become.2.1 80 = .ok (.iastore, 1) := by decide +kernel
theorem d_M_become_81 : decode mi_M_become.2.1 81 = .ok (.iconst 0, 1) := by decide +kernel
theorem d_M_become_82 : decode mi_M_become.2.1 82 = .ok (.istore_n 3, 1) := by decide +kernel
theorem d_M_become_83 : decode mi_M_become.2.1 83 = .ok (.iload_n 3, 1) := by decide +kernel
theorem d_M_become_84 : decode mi_M_become.2.1 84 = .ok (.aload_n 0, 1) := by decide +kernel
theorem d_M_become_85 : decode mi_M_become.2.1 85 = .ok (.getfield 125, 3) := by decide +kernel
theorem d_M_become_88 : decode mi_M_become.2.1 88 = .ok (.if_icmp .ge 26, 3) := by decide +kernel
theorem d_M_become_91 : decode mi_M_become.2.1 91 = .ok (.aload_n 0, 1) := by decide +kernel
theorem d_M_become_92 : decode mi_M_become.2.1 92 = .ok (.getfield 27, 3) := by decide +kernel
theorem d_M_become_95 : decode mi_M_become.2.1 95 = .ok (.bipush 64, 2) := by decide +kernel
theorem d_M_become_97 : decode mi_M_become.2.1 97 = .ok (.iload_n 1, 1) := by decide +kernel
theorem d_M_become_98 : decode mi_M_become.2.1 98 = .ok (.imul, 1) := by decide +kernel
theorem d_M_become_99 : decode mi_M_become.2.1 99 = .ok (.iload_n 3, 1) := by decide +kernel
theorem d_M_become_100 : decode mi_M_become.2.1 100 = .ok (.iadd, 1) := by decide +kernel
theorem d_M_become_101 : decode mi_M_become.2.1 101 = .ok (.aload_n 0, 1) := by decide +kernel
theorem d_M_become_102 : decode mi_M_become.2.1 102 = .ok (.getfield 63, 3) := by decide +kernel
theorem d_M_become_105 : decode mi_M_become.2.1 105 = .ok (.iload_n 3, 1) := by decide +kernel
theorem d_M_become_106 : decode mi_M_become.2.1 106 = .ok (.iaload, 1) := by decide +kernel
theorem d_M_become_107 : decode mi_M_become.2.1 107 = .ok (.iastore, 1) := by decide +kernel
theorem d_M_become_108 : decode mi_M_become.2.1 108 = .ok (.iinc 3 1, 3) := by decide +kernel
theorem d_M_become_111 : decode mi_M_become.2.1 111 = .ok (.goto (-28), 3) := by decide +kernel
theorem d_M_become_114 : decode mi_M_become.2.1 114 = .ok (.iconst 0, 1) := by decide +kernel
theorem d_M_become_115 : decode mi_M_become.2.1 115 = .ok (.istore_n 3, 1) := by decide +kernel
theorem d_M_become_116 : decode mi_M_become.2.1 116 = .ok (.iload_n 3, 1) := by decide +kernel
theorem d_M_become_117 : decode mi_M_become.2.1 117 = .ok (.aload_n 0, 1) := by decide +kernel
theorem d_M_become_118 : decode mi_M_become.2.1 118 = .ok (.getfield 82, 3) := by decide +kernel
theorem d_M_become_121 : decode mi_M_become.2.1 121 = .ok (.if_icmp .ge 25, 3) := by decide +kernel
theorem d_M_become_124 : decode mi_M_become.2.1 124 = .ok (.aload_n 0, 1) := by decide +kernel
theorem d_M_become_125 : decode mi_M_become.2.1 125 = .ok (.getfield 30, 3) := by decide +kernel
theorem d_M_become_128 : decode mi_M_become.2.1 128 = .ok (.iload_n 3, 1) := by decide +kernel
theorem d_M_become_129 : decode mi_M_become.2.1 129 = .ok (.iaload, 1) := by decide +kernel
theorem d_M_become_130 : decode mi_M_become.2.1 130 = .ok (.iload_n 1, 1) := by decide +kernel
theorem d_M_become_131 : decode mi_M_become.2.1 131 = .ok (.if_icmp .ne 9, 3) := by decide +kernel
theorem d_M_become_134 : decode mi_M_become.2.1 134 = .ok (.aload_n 0, 1) := by decide +kernel
theorem d_M_become_135 : decode mi_M_become.2.1 135 = .ok (.iload_n 3, 1) := by decide +kernel
theorem d_M_become_136 : decode mi_M_become.2.1 136 = .ok (.iload_n 1, 1) := by decide +kernel
theorem d_M_become_137 : decode mi_M_become.2.1 137 = .ok (.invokevirtual 128, 3) := by decide +kernel
theorem d_M_become_140 : decode mi_M_become.2.1 140 = .ok (.iinc 3 1, 3) := by decide +kernel
theorem d_M_become_143 : decode mi_M_become.2.1 143 = .ok (.goto (-27), 3) := by decide +kernel
theorem d_M_become_146 : decode mi_M_become.2.1 146 = .ok (.iconst 1, 1) := by decide +kernel
theorem d_M_become_147 : decode mi_M_become.2.1 147 = .ok (.ireturn, 1) := by decide +kernel
theorem d_M_tell_0 : decode mi_M_tell.2.1 0 = .ok (.aload_n 0, 1) := by decide +kernel
theorem d_M_tell_1 : decode mi_M_tell.2.1 1 = .ok (.getfield 39, 3) := by decide +kernel
theorem d_M_tell_4 : decode mi_M_tell.2.1 4 = .ok (.iload_n 1, 1) := by decide +kernel
theorem d_M_tell_5 : decode mi_M_tell.2.1 5 = .ok (.iaload, 1) := by decide +kernel
theorem d_M_tell_6 : decode mi_M_tell.2.1 6 = .ok (.aload_n 0, 1) := by decide +kernel
theorem d_M_tell_7 : decode mi_M_tell.2.1 7 = .ok (.getfield 33, 3) := by decide +kernel
theorem d_M_tell_10 : decode mi_M_tell.2.1 10 = .ok (.iload_n 1, 1) := by decide +kernel
theorem d_M_tell_11 : decode mi_M_tell.2.1 11 = .ok (.iaload, 1) := by decide +kernel
theorem d_M_tell_12 : decode mi_M_tell.2.1 12 = .ok (.if_icmp .ne 7, 3) := by decide +kernel
theorem d_M_tell_15 : decode mi_M_tell.2.1 15 = .ok (.iconst 1, 1) := by decide +kernel
theorem d_M_tell_16 : decode mi_M_tell.2.1 16 = .ok (.goto 4, 3) := by decide +kernel
theorem d_M_tell_19 : decode mi_M_tell.2.1 19 = .ok (.iconst 0, 1) := by decide +kernel
theorem d_M_tell_20 : decode mi_M_tell.2.1 20 = .ok (.istore_n 3, 1) := by decide +kernel
theorem d_M_tell_21 : decode mi_M_tell.2.1 21 = .ok (.iload_n 3, 1) := by decide +kernel
theorem d_M_tell_22 : decode mi_M_tell.2.1 22 = .ok (.ifCond .eq 17, 3) := by decide +kernel
theorem d_M_tell_25 : decode mi_M_tell.2.1 25 = .ok (.aload_n 0, 1) := by decide +kernel
theorem d_M_tell_26 : decode mi_M_tell.2.1 26 = .ok (.getfield 33, 3) := by decide +kernel
theorem d_M_tell_29 : decode mi_M_tell.2.1 29 = .ok (.iload_n 1, 1) := by decide +kernel
theorem d_M_tell_30 : decode mi_M_tell.2.1 30 = .ok (.iaload, 1) := by decide +kernel
theorem d_M_tell_31 : decode mi_M_tell.2.1 31 = .ok (.iconst 1, 1) := by decide +kernel
theorem d_M_tell_32 : decode mi_M_tell.2.1 32 = .ok (.if_icmp .le 7, 3) := by decide +kernel
theorem d_M_tell_35 : decode mi_M_tell.2.1 35 = .ok (.iconst 1, 1) := by decide +kernel
theorem d_M_tell_36 : decode mi_M_tell.2.1 36 = .ok (.goto 4, 3) := by decide +kernel
theorem d_M_tell_39 : decode mi_M_tell.2.1 39 = .ok (.iconst 0, 1) := by decide +kernel
theorem d_M_tell_40 : decode mi_M_tell.2.1 40 = .ok (.istore 4, 2) := by decide +kernel
theorem d_M_tell_42 : decode mi_M_tell.2.1 42 = .ok (.iload_n 3, 1) := by decide +kernel
theorem d_M_tell_43 : decode mi_M_tell.2.1 43 = .ok (.ifCond .eq 41, 3) := by decide +kernel
theorem d_M_tell_46 : decode mi_M_tell.2.1 46 = .ok (.aload_n 0, 1) := by decide +kernel
theorem d_M_tell_47 : decode mi_M_tell.2.1 47 = .ok (.getfield 36, 3) := by decide +kernel
theorem d_M_tell_50 : decode mi_M_tell.2.1 50 = .ok (.iload_n 1, 1) := by decide +kernel
theorem d_M_tell_51 : decode mi_M_tell.2.1 51 = .ok (.baload, 1) := by decide +kernel
theorem d_M_tell_52 : decode mi_M_tell.2.1 52 = .ok (.ifCond .eq 32, 3) := by decide +kernel
theorem d_M_tell_55 : decode mi_M_tell.2.1 55 = .ok (.aload_n 0, 1) := by decide +kernel
theorem d_M_tell_56 : decode mi_M_tell.2.1 56 = .ok (.iload_n 1, 1) := by decide +kernel
theorem d_M_tell_57 : decode mi_M_tell.2.1 57 = .ok (.invokevirtual 117, 3) := by decide +kernel
theorem d_M_tell_60 : decode mi_M_tell.2.1 60 = .ok (.iload 4, 2) := by decide +kernel
theorem d_M_tell_62 : decode mi_M_tell.2.1 62 = .ok (.ifCond .eq 12, 3) := by decide +kernel
theorem d_M_tell_65 : decode mi_M_tell.2.1 65 = .ok (.aload_n 0, 1) := by decide +kernel
theorem d_M_tell_66 : decode mi_M_tell.2.1 66 = .ok (.getfield 45, 3) := by decide +kernel
theorem d_M_tell_69 : decode mi_M_tell.2.1 69 = .ok (.iconst 4, 1) := by decide +kernel
theorem d_M_tell_70 : decode mi_M_tell.2.1 70 = .ok (.iload_n 1, 1) := by decide +kernel
theorem d_M_tell_71 : decode mi_M_tell.2.1 71 = .ok (.imul, 1) := by decide +kernel
theorem d_M_tell_72 : decode mi_M_tell.2.1 72 = .ok (.iconst 1, 1) := by decide +kernel
theorem d_M_tell_73 : decode mi_M_tell.2.1 73 = .ok (.iastore, 1) := by decide +kernel
theorem d_M_tell_74 : decode mi_M_tell.2.1 74 = .ok (.aload_n 0, 1) := by decide +kernel
theorem d_M_tell_75 : decode mi_M_tell.2.1 75 = .ok (.iload_n 1, 1) := by decide +kernel
theorem d_M_tell_76 : decode mi_M_tell.2.1 76 = .ok (.iload_n 2, 1) := by decide +kernel
theorem d_M_tell_77 : decode mi_M_tell.2.1 77 = .ok (.iconst 0, 1) := by decide +kernel
theorem d_M_tell_78 : decode mi_M_tell.2.1 78 = .ok (.invokevirtual 121, 3) := by decide +kernel
theorem d_M_tell_81 : decode mi_M_tell.2.1 81 = .ok (.goto 46, 3) := by decide +kernel
theorem d_M_tell_84 : decode mi_M_tell.2.1 84 = .ok (.aload_n 0, 1) := by decide +kernel
theorem d_M_tell_85 : decode mi_M_tell.2.1 85 = .ok (.getfield 39, 3) := by decide +kernel
theorem d_M_tell_88 : decode mi_M_tell.2.1 88 = .ok (.iload_n 1, 1) := by decide +kernel
theorem d_M_tell_89 : decode mi_M_tell.2.1 89 = .ok (.iload_n 3, 1) := by decide +kernel
theorem d_M_tell_90 : decode mi_M_tell.2.1 90 = .ok (.ifCond .eq 14, 3) := by decide +kernel
theorem d_M_tell_93 : decode mi_M_tell.2.1 93 = .ok (.aload_n 0, 1) := by decide +kernel
theorem d_M_tell_94 : decode mi_M_tell.2.1 94 = .ok (.getfield 39, 3) := by decide +kernel
theorem d_M_tell_97 : decode mi_M_tell.2.1 97 = .ok (.iload_n 1, 1) := by decide +kernel
theorem d_M_tell_98 : decode mi_M_tell.2.1 98 = .ok (.iaload, 1) := by decide +kernel
theorem d_M_tell_99 : decode mi_M_tell.2.1 99 = .ok (.iconst 1, 1) := by decide +kernel
theorem d_M_tell_100 : decode mi_M_tell.2.1 100 = .ok (.isub, 1) := by decide +kernel
theorem d_M_tell_101 : decode mi_M_tell.2.1 101 = .ok (.goto 9, 3) := by decide +kernel
theorem d_M_tell_104 : decode mi_M_tell.2.1 104 = .ok (.aload_n 0, 1) := by decide +kernel
theorem d_M_tell_105 : decode mi_M_tell.2.1 105 = .ok (.getfield 39, 3) := by decide +kernel
theorem d_M_tell_108 : decode mi_M_tell.2.1 108 = .ok (.iload_n 1, 1) := by decide +kernel
theorem d_M_tell_109 : decode mi_M_tell.2.1 109 = .ok (.iaload, 1) := by decide +kernel
theorem d_M_tell_110 : decode mi_M_tell.2.1 110 = .ok (.iastore, 1) := by decide +kernel
theorem d_M_tell_111 : decode mi_M_tell.2.1 111 = .ok (.aload_n 0, 1) := by decide +kernel
theorem d_M_tell_112 : decode mi_M_tell.2.1 112 = .ok (.iload_n 1, 1) := by decide +kernel
theorem d_M_tell_113 : decode mi_M_tell.2.1 113 = .ok (.iload_n 2, 1) := by decide +kernel
theorem d_M_tell_114 : decode mi_M_tell.2.1 114 = .ok (.iload 4, 2) := by decide +kernel
theorem d_M_tell_116 : decode mi_M_tell.2.1 116 = .ok (.ifCond .eq 7, 3) := by decide +kernel
theorem d_M_tell_119 : decode mi_M_tell.2.1 119 = .ok (.iconst 1, 1) := by decide +kernel
theorem d_M_tell_120 : decode mi_M_tell.2.1 120 = .ok (.goto 4, 3) := by decide +kernel
theorem d_M_tell_123 : decode mi_M_tell.2.1 123 = .ok (.iconst 0, 1) := by decide +kernel
theorem d_M_tell_124 : decode mi_M_tell.2.1 124 = .ok (.invokevirtual 121, 3) := by decide +kernel
theorem d_M_tell_127 : decode mi_M_tell.2.1 127 = .ok (.return_, 1) := by decide +kernel
theorem d_M_dropFirst_0 : decode mi_M_dropFirst.2.1 0 = .ok (.iconst 1, 1) := by decide +kernel
theorem d_M_dropFirst_1 : decode mi_M_dropFirst.2.1 1 = .ok (.istore_n 2, 1) := by decide +kernel
theorem d_M_dropFirst_2 : decode mi_M_dropFirst.2.1 2 = .ok (.iload_n 2, 1) := by decide +kernel
theorem d_M_dropFirst_3 : decode mi_M_dropFirst.2.1 3 = .ok (.aload_n 0, 1) := by decide +kernel
theorem d_M_dropFirst_4 : decode mi_M_dropFirst.2.1 4 = .ok (.getfield 39, 3) := by decide +kernel
theorem d_M_dropFirst_7 : decode mi_M_dropFirst.2.1 7 = .ok (.iload_n 1, 1) := by decide +kernel
theorem d_M_dropFirst_8 : decode mi_M_dropFirst.2.1 8 = .ok (.iaload, 1) := by decide +kernel
theorem d_M_dropFirst_9 : decode mi_M_dropFirst.2.1 9 = .ok (.if_icmp .ge 25, 3) := by decide +kernel
theorem d_M_dropFirst_12 : decode mi_M_dropFirst.2.1 12 = .ok (.aload_n 0, 1) := by decide +kernel
theorem d_M_dropFirst_13 : decode mi_M_dropFirst.2.1 13 = .ok (.iconst 4, 1) := by decide +kernel
theorem d_M_dropFirst_14 : decode mi_M_dropFirst.2.1 14 = .ok (.iload_n 1, 1) := by decide +kernel
theorem d_M_dropFirst_15 : decode mi_M_dropFirst.2.1 15 = .ok (.imul, 1) := by decide +kernel
theorem d_M_dropFirst_16 : decode mi_M_dropFirst.2.1 16 = .ok (.iload_n 2, 1) := by decide +kernel
theorem d_M_dropFirst_17 : decode mi_M_dropFirst.2.1 17 = .ok (.iadd, 1) := by decide +kernel
theorem d_M_dropFirst_18 : decode mi_M_dropFirst.2.1 18 = .ok (.iconst 4, 1) := by decide +kernel
theorem d_M_dropFirst_19 : decode mi_M_dropFirst.2.1 19 = .ok (.iload_n 1, 1) := by decide +kernel
theorem d_M_dropFirst_20 : decode mi_M_dropFirst.2.1 20 = .ok (.imul, 1) := by decide +kernel
theorem d_M_dropFirst_21 : decode mi_M_dropFirst.2.1 21 = .ok (.iload_n 2, 1) := by decide +kernel
theorem d_M_dropFirst_22 : decode mi_M_dropFirst.2.1 22 = .ok (.iadd, 1) := by decide +kernel
theorem d_M_dropFirst_23 : decode mi_M_dropFirst.2.1 23 = .ok (.iconst 1, 1) := by decide +kernel
theorem d_M_dropFirst_24 : decode mi_M_dropFirst.2.1 24 = .ok (.isub, 1) := by decide +kernel
theorem d_M_dropFirst_25 : decode mi_M_dropFirst.2.1 25 = .ok (.invokevirtual 113, 3) := by decide +kernel
theorem d_M_dropFirst_28 : decode mi_M_dropFirst.2.1 28 = .ok (.iinc 2 1, 3) := by decide +kernel
theorem d_M_dropFirst_31 : decode mi_M_dropFirst.2.1 31 = .ok (.goto (-29), 3) := by decide +kernel
theorem d_M_dropFirst_34 : decode mi_M_dropFirst.2.1 34 = .ok (.aload_n 0, 1) := by decide +kernel
theorem d_M_dropFirst_35 : decode mi_M_dropFirst.2.1 35 = .ok (.getfield 39, 3) := by decide +kernel
theorem d_M_dropFirst_38 : decode mi_M_dropFirst.2.1 38 = .ok (.iload_n 1, 1) := by decide +kernel
theorem d_M_dropFirst_39 : decode mi_M_dropFirst.2.1 39 = .ok (.dup2, 1) := by decide +kernel
theorem d_M_dropFirst_40 : decode mi_M_dropFirst.2.1 40 = .ok (.iaload, 1) := by decide +kernel
theorem d_M_dropFirst_41 : decode mi_M_dropFirst.2.1 41 = .ok (.iconst 1, 1) := by decide +kernel
theorem d_M_dropFirst_42 : decode mi_M_dropFirst.2.1 42 = .ok (.isub, 1) := by decide +kernel
theorem d_M_dropFirst_43 : decode mi_M_dropFirst.2.1 43 = .ok (.iastore, 1) := by decide +kernel
theorem d_M_dropFirst_44 : decode mi_M_dropFirst.2.1 44 = .ok (.return_, 1) := by decide +kernel
theorem d_M_copyNotice_0 : decode mi_M_copyNotice.2.1 0 = .ok (.aload_n 0, 1) := by decide +kernel
theorem d_M_copyNotice_1 : decode mi_M_copyNotice.2.1 1 = .ok (.getfield 42, 3) := by decide +kernel
theorem d_M_copyNotice_4 : decode mi_M_copyNotice.2.1 4 = .ok (.iload_n 2, 1) := by decide +kernel
theorem d_M_copyNotice_5 : decode mi_M_copyNotice.2.1 5 = .ok (.aload_n 0, 1) := by decide +kernel
theorem d_M_copyNotice_6 : decode mi_M_copyNotice.2.1 6 = .ok (.getfield 42, 3) := by decide +kernel
theorem d_M_copyNotice_9 : decode mi_M_copyNotice.2.1 9 = .ok (.iload_n 1, 1) := by decide +kernel
theorem d_M_copyNotice_10 : decode mi_M_copyNotice.2.1 10 = .ok (.iaload, 1) := by decide +kernel
theorem d_M_copyNotice_11 : decode mi_M_copyNotice.2.1 11 = .ok (.iastore, 1) := by decide +kernel
theorem d_M_copyNotice_12 : decode mi_M_copyNotice.2.1 12 = .ok (.aload_n 0, 1) := by decide +kernel
theorem d_M_copyNotice_13 : decode mi_M_copyNotice.2.1 13 = .ok (.getfield 45, 3) := by decide +kernel
theorem d_M_copyNotice_16 : decode mi_M_copyNotice.2.1 16 = .ok (.iload_n 2, 1) := by decide +kernel
theorem d_M_copyNotice_17 : decode mi_M_copyNotice.2.1 17 = .ok (.aload_n 0, 1) := by decide +kernel
theorem d_M_copyNotice_18 : decode mi_M_copyNotice.2.1 18 = .ok (.getfield 45, 3) := by decide +kernel
theorem d_M_copyNotice_21 : decode mi_M_copyNotice.2.1 21 = .ok (.iload_n 1, 1) := by decide +kernel
theorem d_M_copyNotice_22 : decode mi_M_copyNotice.2.1 22 = .ok (.iaload, 1) := by decide +kernel
theorem d_M_copyNotice_23 : decode mi_M_copyNotice.2.1 23 = .ok (.iastore, 1) := by decide +kernel
theorem d_M_copyNotice_24 : decode mi_M_copyNotice.2.1 24 = .ok (.iconst 0, 1) := by decide +kernel
theorem d_M_copyNotice_25 : decode mi_M_copyNotice.2.1 25 = .ok (.istore_n 3, 1) := by decide +kernel
theorem d_M_copyNotice_26 : decode mi_M_copyNotice.2.1 26 = .ok (.iload_n 3, 1) := by decide +kernel
theorem d_M_copyNotice_27 : decode mi_M_copyNotice.2.1 27 = .ok (.bipush 64, 2) := by decide +kernel
theorem d_M_copyNotice_29 : decode mi_M_copyNotice.2.1 29 = .ok (.if_icmp .ge 31, 3) := by decide +kernel
theorem d_M_copyNotice_32 : decode mi_M_copyNotice.2.1 32 = .ok (.aload_n 0, 1) := by decide +kernel
theorem d_M_copyNotice_33 : decode mi_M_copyNotice.2.1 33 = .ok (.getfield 48, 3) := by decide +kernel
theorem d_M_copyNotice_36 : decode mi_M_copyNotice.2.1 36 = .ok (.bipush 64, 2) := by decide +kernel
theorem d_M_copyNotice_38 : decode mi_M_copyNotice.2.1 38 = .ok (.iload_n 2, 1) := by decide +kernel
theorem d_M_copyNotice_39 : decode mi_M_copyNotice.2.1 39 = .ok (.imul, 1) := by decide +kernel
theorem d_M_copyNotice_40 : decode mi_M_copyNotice.2.1 40 = .ok (.iload_n 3, 1) := by decide +kernel
theorem d_M_copyNotice_41 : decode mi_M_copyNotice.2.1 41 = .ok (.iadd, 1) := by decide +kernel
theorem d_M_copyNotice_42 : decode mi_M_copyNotice.2.1 42 = .ok (.aload_n 0, 1) := by decide +kernel
theorem d_M_copyNotice_43 : decode mi_M_copyNotice.2.1 43 = .ok (.getfield 48, 3) := by decide +kernel
theorem d_M_copyNotice_46 : decode mi_M_copyNotice.2.1 46 = .ok (.bipush 64, 2) := by decide +kernel
theorem d_M_copyNotice_48 : decode mi_M_copyNotice.2.1 48 = .ok (.iload_n 1, 1) := by decide +kernel
theorem d_M_copyNotice_49 : decode mi_M_copyNotice.2.1 49 = .ok (.imul, 1) := by decide +kernel
theorem d_M_copyNotice_50 : decode mi_M_copyNotice.2.1 50 = .ok (.iload_n 3, 1) := by decide +kernel
theorem d_M_copyNotice_51 : decode mi_M_copyNotice.2.1 51 = .ok (.iadd, 1) := by decide +kernel
theorem d_M_copyNotice_52 : decode mi_M_copyNotice.2.1 52 = .ok (.iaload, 1) := by decide +kernel
theorem d_M_copyNotice_53 : decode mi_M_copyNotice.2.1 53 = .ok (.iastore, 1) := by decide +kernel
theorem d_M_copyNotice_54 : decode mi_M_copyNotice.2.1 54 = .ok (.iinc 3 1, 3) := by decide +kernel
theorem d_M_copyNotice_57 : decode mi_M_copyNotice.2.1 57 = .ok (.goto (-31), 3) := by decide +kernel
theorem d_M_copyNotice_60 : decode mi_M_copyNotice.2.1 60 = .ok (.return_, 1) := by decide +kernel
theorem d_M_append_0 : decode mi_M_append.2.1 0 = .ok (.iconst 4, 1) := by decide +kernel
theorem d_M_append_1 : decode mi_M_append.2.1 1 = .ok (.iload_n 1, 1) := by decide +kernel
theorem d_M_append_2 : decode mi_M_append.2.1 2 = .ok (.imul, 1) := by decide +kernel
theorem d_M_append_3 : decode mi_M_append.2.1 3 = .ok (.aload_n 0, 1) := by decide +kernel
theorem d_M_append_4 : decode mi_M_append.2.1 4 = .ok (.getfield 39, 3) := by decide +kernel
theorem d_M_append_7 : decode mi_M_append.2.1 7 = .ok (.iload_n 1, 1) := by decide +kernel
theorem d_M_append_8 : decode mi_M_append.2.1 8 = .ok (.iaload, 1) := by decide +kernel
theorem d_M_append_9 : decode mi_M_append.2.1 9 = .ok (.iadd, 1) := by decide +kernel
theorem d_M_append_10 : decode mi_M_append.2.1 10 = .ok (.istore 4, 2) := by decide +kernel
theorem d_M_append_12 : decode mi_M_append.2.1 12 = .ok (.aload_n 0, 1) := by decide +kernel
theorem d_M_append_13 : decode mi_M_append.2.1 13 = .ok (.getfield 42, 3) := by decide +kernel
theorem d_M_append_16 : decode mi_M_append.2.1 16 = .ok (.iload 4, 2) := by decide +kernel
theorem d_M_append_18 : decode mi_M_append.2.1 18 = .ok (.aload_n 0, 1) := by decide +kernel
theorem d_M_append_19 : decode mi_M_append.2.1 19 = .ok (.getfield 24, 3) := by decide +kernel
theorem d_M_append_22 : decode mi_M_append.2.1 22 = .ok (.iload_n 2, 1) := by decide +kernel
theorem d_M_append_23 : decode mi_M_append.2.1 23 = .ok (.iaload, 1) := by decide +kernel
theorem d_M_append_24 : decode mi_M_append.2.1 24 = .ok (.iastore, 1) := by decide +kernel
theorem d_M_append_25 : decode mi_M_append.2.1 25 = .ok (.aload_n 0, 1) := by decide +kernel
theorem d_M_append_26 : decode mi_M_append.2.1 26 = .ok (.getfield 45, 3) := by decide +kernel
theorem d_M_append_29 : decode mi_M_append.2.1 29 = .ok (.iload 4, 2) := by decide +kernel
theorem d_M_append_31 : decode mi_M_append.2.1 31 = .ok (.iload_n 3, 1) := by decide +kernel
theorem d_M_append_32 : decode mi_M_append.2.1 32 = .ok (.iastore, 1) := by decide +kernel
theorem d_M_append_33 : decode mi_M_append.2.1 33 = .ok (.iconst 0, 1) := by decide +kernel
theorem d_M_append_34 : decode mi_M_append.2.1 34 = .ok (.istore 5, 2) := by decide +kernel
theorem d_M_append_36 : decode mi_M_append.2.1 36 = .ok (.iload 5, 2) := by decide +kernel
theorem d_M_append_38 : decode mi_M_append.2.1 38 = .ok (.bipush 64, 2) := by decide +kernel
theorem d_M_append_40 : decode mi_M_append.2.1 40 = .ok (.if_icmp .ge 34, 3) := by decide +kernel
theorem d_M_append_43 : decode mi_M_append.2.1 43 = .ok (.aload_n 0, 1) := by decide +kernel
theorem d_M_append_44 : decode mi_M_append.2.1 44 = .ok (.getfield 48, 3) := by decide +kernel
theorem d_M_append_47 : decode mi_M_append.2.1 47 = .ok (.bipush 64, 2) := by decide +kernel
theorem d_M_append_49 : decode mi_M_append.2.1 49 = .ok (.iload 4, 2) := by decide +kernel
theorem d_M_append_51 : decode mi_M_append.2.1 51 = .ok (.imul, 1) := by decide +kernel
theorem d_M_append_52 : decode mi_M_append.2.1 52 = .ok (.iload 5, 2) := by decide +kernel
theorem d_M_append_54 : decode mi_M_append.2.1 54 = .ok (.iadd, 1) := by decide +kernel
theorem d_M_append_55 : decode mi_M_append.2.1 55 = .ok (.aload_n 0, 1) := by decide +kernel
theorem d_M_append_56 : decode mi_M_append.2.1 56 = .ok (.getfield 27, 3) := by decide +kernel
theorem d_M_append_59 : decode mi_M_append.2.1 59 = .ok (.bipush 64, 2) := by decide +kernel
theorem d_M_append_61 : decode mi_M_append.2.1 61 = .ok (.iload_n 2, 1) := by decide +kernel
theorem d_M_append_62 : decode mi_M_append.2.1 62 = .ok (.imul, 1) := by decide +kernel
theorem d_M_append_63 : decode mi_M_append.2.1 63 = .ok (.iload 5, 2) := by decide +kernel
theorem d_M_append_65 : decode mi_M_append.2.1 65 = .ok (.iadd, 1) := by decide +kernel
theorem d_M_append_66 : decode mi_M_append.2.1 66 = .ok (.iaload, 1) := by decide +kernel
theorem d_M_append_67 : decode mi_M_append.2.1 67 = .ok (.iastore, 1) := by decide +kernel
theorem d_M_append_68 : decode mi_M_append.2.1 68 = .ok (.iinc 5 1, 3) := by decide +kernel
theorem d_M_append_71 : decode mi_M_append.2.1 71 = .ok (.goto (-35), 3) := by decide +kernel
theorem d_M_append_74 : decode mi_M_append.2.1 74 = .ok (.aload_n 0, 1) := by decide +kernel
theorem d_M_append_75 : decode mi_M_append.2.1 75 = .ok (.getfield 39, 3) := by decide +kernel
theorem d_M_append_78 : decode mi_M_append.2.1 78 = .ok (.iload_n 1, 1) := by decide +kernel
theorem d_M_append_79 : decode mi_M_append.2.1 79 = .ok (.dup2, 1) := by decide +kernel
theorem d_M_append_80 : decode mi_M_append.2.1 80 = .ok (.iaload, 1) := by decide +kernel
theorem d_M_append_81 : decode mi_M_append.2.1 81 = .ok (.iconst 1, 1) := by decide +kernel
theorem d_M_append_82 : decode mi_M_append.2.1 82 = .ok (.iadd, 1) := by decide +kernel
theorem d_M_append_83 : decode mi_M_append.2.1 83 = .ok (.iastore, 1) := by decide +kernel
theorem d_M_append_84 : decode mi_M_append.2.1 84 = .ok (.return_, 1) := by decide +kernel
theorem d_M_chunk_0 : decode mi_M_chunk.2.1 0 = .ok (.aload_n 0, 1) := by decide +kernel
theorem d_M_chunk_1 : decode mi_M_chunk.2.1 1 = .ok (.getfield 72, 3) := by decide +kernel
theorem d_M_chunk_4 : decode mi_M_chunk.2.1 4 = .ok (.ifCond .ne 32, 3) := by decide +kernel
theorem d_M_chunk_7 : decode mi_M_chunk.2.1 7 = .ok (.iload_n 1, 1) := by decide +kernel
theorem d_M_chunk_8 : decode mi_M_chunk.2.1 8 = .ok (.ifCond .lt 28, 3) := by decide +kernel
theorem d_M_chunk_11 : decode mi_M_chunk.2.1 11 = .ok (.iload_n 1, 1) := by decide +kernel
theorem d_M_chunk_12 : decode mi_M_chunk.2.1 12 = .ok (.iconst 2, 1) := by decide +kernel
theorem d_M_chunk_13 : decode mi_M_chunk.2.1 13 = .ok (.if_icmp .gt 23, 3) := by decide +kernel
theorem d_M_chunk_16 : decode mi_M_chunk.2.1 16 = .ok (.iload_n 2, 1) := by decide +kernel
theorem d_M_chunk_17 : decode mi_M_chunk.2.1 17 = .ok (.ifCond .lt 19, 3) := by decide +kernel
theorem d_M_chunk_20 : decode mi_M_chunk.2.1 20 = .ok (.iload_n 3, 1) := by decide +kernel
theorem d_M_chunk_21 : decode mi_M_chunk.2.1 21 = .ok (.ifCond .lt 15, 3) := by decide +kernel
theorem d_M_chunk_24 : decode mi_M_chunk.2.1 24 = .ok (.iload 6, 2) := by decide +kernel
theorem d_M_chunk_26 : decode mi_M_chunk.2.1 26 = .ok (.ifCond .lt 10, 3) := by decide +kernel
theorem d_M_chunk_29 : decode mi_M_chunk.2.1 29 = .ok (.iload 6, 2) := by decide +kernel
theorem d_M_chunk_31 : decode mi_M_chunk.2.1 31 = .ok (.bipush 8, 2) := by decide +kernel
theorem d_M_chunk_33 : decode mi_M_chunk.2.1 33 = .ok (.if_icmp .le 5, 3) := by decide +kernel
theorem d_M_chunk_36 : decode mi_M_chunk.2.1 36 = .ok (.iconst (-1), 1) := by decide +kernel
theorem d_M_chunk_37 : decode mi_M_chunk.2.1 37 = .ok (.ireturn, 1) := by decide +kernel
theorem d_M_chunk_38 : decode mi_M_chunk.2.1 38 = .ok (.aload_n 0, 1) := by decide +kernel
theorem d_M_chunk_39 : decode mi_M_chunk.2.1 39 = .ok (.getfield 79, 3) := by decide +kernel
theorem d_M_chunk_42 : decode mi_M_chunk.2.1 42 = .ok (.ifCond .eq 10, 3) := by decide +kernel
theorem d_M_chunk_45 : decode mi_M_chunk.2.1 45 = .ok (.aload_n 0, 1) := by decide +kernel
theorem d_M_chunk_46 : decode mi_M_chunk.2.1 46 = .ok (.getfield 140, 3) := by decide +kernel
theorem d_M_chunk_49 : decode mi_M_chunk.2.1 49 = .ok (.goto 4, 3) := by decide +kernel
theorem d_M_chunk_52 : decode mi_M_chunk.2.1 52 = .ok (.iconst 0, 1) := by decide +kernel
theorem d_M_chunk_53 : decode mi_M_chunk.2.1 53 = .ok (.istore 7, 2) := by decide +kernel
theorem d_M_chunk_55 : decode mi_M_chunk.2.1 55 = .ok (.aload_n 0, 1) := by decide +kernel
theorem d_M_chunk_56 : decode mi_M_chunk.2.1 56 = .ok (.getfield 79, 3) := by decide +kernel
theorem d_M_chunk_59 : decode mi_M_chunk.2.1 59 = .ok (.ifCond .eq 10, 3) := by decide +kernel
theorem d_M_chunk_62 : decode mi_M_chunk.2.1 62 = .ok (.aload_n 0, 1) := by decide +kernel
theorem d_M_chunk_63 : decode mi_M_chunk.2.1 63 = .ok (.getfield 143, 3) := by decide +kernel
theorem d_M_chunk_66 : decode mi_M_chunk.2.1 66 = .ok (.goto 4, 3) := by decide +kernel
theorem d_M_chunk_69 : decode mi_M_chunk.2.1 69 = .ok (.iconst 0, 1) := by decide +kernel
theorem d_M_chunk_70 : decode mi_M_chunk.2.1 70 = .ok (.istore 8, 2) := by decide +kernel
theorem d_M_chunk_72 : decode mi_M_chunk.2.1 72 = .ok (.aload_n 0, 1) := by decide +kernel
theorem d_M_chunk_73 : decode mi_M_chunk.2.1 73 = .ok (.iload_n 2, 1) := by decide +kernel
theorem d_M_chunk_74 : decode mi_M_chunk.2.1 74 = .ok (.invokevirtual 146, 3) := by decide +kernel
theorem d_M_chunk_77 : decode mi_M_chunk.2.1 77 = .ok (.ifCond .eq 42, 3) := by decide +kernel
theorem d_M_chunk_80 : decode mi_M_chunk.2.1 80 = .ok (.aload_n 0, 1) := by decide +kernel
theorem d_M_chunk_81 : decode mi_M_chunk.2.1 81 = .ok (.getfield 79, 3) := by decide +kernel
theorem d_M_chunk_84 : decode mi_M_chunk.2.1 84 = .ok (.ifCond .eq 11, 3) := by decide +kernel
theorem d_M_chunk_87 : decode mi_M_chunk.2.1 87 = .ok (.iload_n 3, 1) := by decide +kernel
theorem d_M_chunk_88 : decode mi_M_chunk.2.1 88 = .ok (.aload_n 0, 1) := by decide +kernel
theorem d_M_chunk_89 : decode mi_M_chunk.2.1 89 = .ok (.getfield 149, 3) := by decide +kernel
theorem d_M_chunk_92 : decode mi_M_chunk.2.1 92 = .ok (.if_icmp .ne 27, 3) := by decide +kernel
theorem d_M_chunk_95 : decode mi_M_chunk.2.1 95 = .ok (.iload_n 1, 1) := by decide +kernel
theorem d_M_chunk_96 : decode mi_M_chunk.2.1 96 = .ok (.iconst 2, 1) := by decide +kernel
theorem d_M_chunk_97 : decode mi_M_chunk.2.1 97 = .ok (.if_icmp .eq 34, 3) := by decide +kernel
theorem d_M_chunk_100 : decode mi_M_chunk.2.1 100 = .ok (.iload 7, 2) := by decide +kernel
theorem d_M_chunk_102 : decode mi_M_chunk.2.1 102 = .ok (.iload 6, 2) := by decide +kernel
theorem d_M_chunk_104 : decode mi_M_chunk.2.1 104 = .ok (.iadd, 1) := by decide +kernel
theorem d_M_chunk_105 : decode mi_M_chunk.2.1 105 = .ok (.bipush 64, 2) := by decide +kernel
theorem d_M_chunk_107 : decode mi_M_chunk.2.1 107 = .ok (.if_icmp .gt 12, 3) := by decide +kernel
theorem d_M_chunk_110 : decode mi_M_chunk.2.1 110 = .ok (.iload 8, 2) := by decide +kernel
theorem d_M_chunk_112 : decode mi_M_chunk.2.1 112 = .ok (.iconst 1, 1) := by decide +kernel
theorem d_M_chunk_113 : decode mi_M_chunk.2.1 113 = .ok (.iadd, 1) := by decide +kernel
theorem d_M_chunk_114 : decode mi_M_chunk.2.1 114 = .ok (.bipush 12, 2) := by decide +kernel
theorem d_M_chunk_116 : decode mi_M_chunk.2.1 116 = .ok (.if_icmp .le 15, 3) := by decide +kernel
theorem d_M_chunk_119 : decode mi_M_chunk.2.1 119 = .ok (.aload_n 0, 1) := by decide +kernel
theorem d_M_chunk_120 : decode mi_M_chunk.2.1 120 = .ok (.iconst 1, 1) := by decide +kernel
theorem d_M_chunk_121 : decode mi_M_chunk.2.1 121 = .ok (.putfield 72, 3) := by decide +kernel
theorem d_M_chunk_124 : decode mi_M_chunk.2.1 124 = .ok (.aload_n 0, 1) := by decide +kernel
theorem d_M_chunk_125 : decode mi_M_chunk.2.1 125 = .ok (.iconst 0, 1) := by decide +kernel
theorem d_M_chunk_126 : decode mi_M_chunk.2.1 126 = .ok (.putfield 79, 3) := by decide +kernel
theorem d_M_chunk_129 : decode mi_M_chunk.2.1 129 = .ok (.iconst 2, 1) := by decide +kernel
theorem d_M_chunk_130 : decode mi_M_chunk.2.1 130 = .ok (.ireturn, 1) := by decide +kernel
theorem d_M_chunk_131 : decode mi_M_chunk.2.1 131 = .ok (.aload_n 0, 1) := by decide +kernel
theorem d_M_chunk_132 : decode mi_M_chunk.2.1 132 = .ok (.iconst 1, 1) := by decide +kernel
theorem d_M_chunk_133 : decode mi_M_chunk.2.1 133 = .ok (.putfield 76, 3) := by decide +kernel
theorem d_M_chunk_136 : decode mi_M_chunk.2.1 136 = .ok (.aload_n 0, 1) := by decide +kernel
theorem d_M_chunk_137 : decode mi_M_chunk.2.1 137 = .ok (.iload_n 2, 1) := by decide +kernel
theorem d_M_chunk_138 : decode mi_M_chunk.2.1 138 = .ok (.putfield 137, 3) := by decide +kernel
theorem d_M_chunk_141 : decode mi_M_chunk.2.1 141 = .ok (.iload_n 1, 1) := by decide +kernel
theorem d_M_chunk_142 : decode mi_M_chunk.2.1 142 = .ok (.iconst 2, 1) := by decide +kernel
theorem d_M_chunk_143 : decode mi_M_chunk.2.1 143 = .ok (.if_icmp .ne 10, 3) := by decide +kernel
theorem d_M_chunk_146 : decode mi_M_chunk.2.1 146 = .ok (.aload_n 0, 1) := by decide +kernel
theorem d_M_chunk_147 : decode mi_M_chunk.2.1 147 = .ok (.iconst 0, 1) := by decide +kernel
theorem d_M_chunk_148 : decode mi_M_chunk.2.1 148 = .ok (.putfield 79, 3) := by decide +kernel
theorem d_M_chunk_151 : decode mi_M_chunk.2.1 151 = .ok (.iconst 0, 1) := by decide +kernel
theorem d_M_chunk_152 : decode mi_M_chunk.2.1 152 = .ok (.ireturn, 1) := by decide +kernel
theorem d_M_chunk_153 : decode mi_M_chunk.2.1 153 = .ok (.aload_n 0, 1) := by decide +kernel
theorem d_M_chunk_154 : decode mi_M_chunk.2.1 154 = .ok (.iconst 1, 1) := by decide +kernel
theorem d_M_chunk_155 : decode mi_M_chunk.2.1 155 = .ok (.putfield 79, 3) := by decide +kernel
theorem d_M_chunk_158 : decode mi_M_chunk.2.1 158 = .ok (.aload_n 0, 1) := by decide +kernel
theorem d_M_chunk_159 : decode mi_M_chunk.2.1 159 = .ok (.iload_n 3, 1) := by decide +kernel
theorem d_M_chunk_160 : decode mi_M_chunk.2.1 160 = .ok (.putfield 149, 3) := by decide +kernel
theorem d_M_chunk_163 : decode mi_M_chunk.2.1 163 = .ok (.aload_n 0, 1) := by decide +kernel
theorem d_M_chunk_164 : decode mi_M_chunk.2.1 164 = .ok (.iload 8, 2) := by decide +kernel
theorem d_M_chunk_166 : decode mi_M_chunk.2.1 166 = .ok (.iconst 1, 1) := by decide +kernel
theorem d_M_chunk_167 : decode mi_M_chunk.2.1 167 = .ok (.iadd, 1) := by decide +kernel
theorem d_M_chunk_168 : decode mi_M_chunk.2.1 168 = .ok (.putfield 143, 3) := by decide +kernel
theorem d_M_chunk_171 : decode mi_M_chunk.2.1 171 = .ok (.aload_n 0, 1) := by decide +kernel
theorem d_M_chunk_172 : decode mi_M_chunk.2.1 172 = .ok (.iload 7, 2) := by decide +kernel
theorem d_M_chunk_174 : decode mi_M_chunk.2.1 174 = .ok (.iload 6, 2) := by decide +kernel
theorem d_M_chunk_176 : decode mi_M_chunk.2.1 176 = .ok (.iadd, 1) := by decide +kernel
theorem d_M_chunk_177 : decode mi_M_chunk.2.1 177 = .ok (.putfield 140, 3) := by decide +kernel
theorem d_M_chunk_180 : decode mi_M_chunk.2.1 180 = .ok (.iconst 0, 1) := by decide +kernel
theorem d_M_chunk_181 : decode mi_M_chunk.2.1 181 = .ok (.istore 9, 2) := by decide +kernel
theorem d_M_chunk_183 : decode mi_M_chunk.2.1 183 = .ok (.iload 9, 2) := by decide +kernel
theorem d_M_chunk_185 : decode mi_M_chunk.2.1 185 = .ok (.iload 6, 2) := by decide +kernel
theorem d_M_chunk_187 : decode mi_M_chunk.2.1 187 = .ok (.if_icmp .ge 32, 3) := by decide +kernel
theorem d_M_chunk_190 : decode mi_M_chunk.2.1 190 = .ok (.aload_n 0, 1) := by decide +kernel
theorem d_M_chunk_191 : decode mi_M_chunk.2.1 191 = .ok (.getfield 60, 3) := by decide +kernel
theorem d_M_chunk_194 : decode mi_M_chunk.2.1 194 = .ok (.iload 7, 2) := by decide +kernel
theorem d_M_chunk_196 : decode mi_M_chunk.2.1 196 = .ok (.iload 9, 2) := by decide +kernel
theorem d_M_chunk_198 : decode mi_M_chunk.2.1 198 = .ok (.iadd, 1) := by decide +kernel
theorem d_M_chunk_199 : decode mi_M_chunk.2.1 199 = .ok (.lload 4, 2) := by decide +kernel
theorem d_M_chunk_201 : decode mi_M_chunk.2.1 201 = .ok (.bipush 8, 2) := by decide +kernel
theorem d_M_chunk_203 : decode mi_M_chunk.2.1 203 = .ok (.iload 9, 2) := by decide +kernel
theorem d_M_chunk_205 : decode mi_M_chunk.2.1 205 = .ok (.imul, 1) := by decide +kernel
theorem d_M_chunk_206 : decode mi_M_chunk.2.1 206 = .ok (.lshr, 1) := by decide +kernel
theorem d_M_chunk_207 : decode mi_M_chunk.2.1 207 = .ok (.ldc2_w 105, 3) := by decide +kernel
theorem d_M_chunk_210 : decode mi_M_chunk.2.1 210 = .ok (.land, 1) := by decide +kernel
theorem d_M_chunk_211 : decode mi_M_chunk.2.1 211 = .ok (.l2i, 1) := by decide +kernel
theorem d_M_chunk_212 : decode mi_M_chunk.2.1 212 = .ok (.iastore, 1) := by decide +kernel
theorem d_M_chunk_213 : decode mi_M_chunk.2.1 213 = .ok (.iinc 9 1, 3) := by decide +kernel
theorem d_M_chunk_216 : decode mi_M_chunk.2.1 216 = .ok (.goto (-33), 3) := by decide +kernel
theorem d_M_chunk_219 : decode mi_M_chunk.2.1 219 = .ok (.iload_n 1, 1) := by decide +kernel
theorem d_M_chunk_220 : decode mi_M_chunk.2.1 220 = .ok (.ifCond .ne 5, 3) := by decide +kernel
theorem d_M_chunk_223 : decode mi_M_chunk.2.1 223 = .ok (.iconst 0, 1) := by decide +kernel
theorem d_M_chunk_224 : decode mi_M_chunk.2.1 224 = .ok (.ireturn, 1) := by decide +kernel
theorem d_M_chunk_225 : decode mi_M_chunk.2.1 225 = .ok (.aload_n 0, 1) := by decide +kernel
theorem d_M_chunk_226 : decode mi_M_chunk.2.1 226 = .ok (.iconst 0, 1) := by decide +kernel
theorem d_M_chunk_227 : decode mi_M_chunk.2.1 227 = .ok (.putfield 79, 3) := by decide +kernel
theorem d_M_chunk_230 : decode mi_M_chunk.2.1 230 = .ok (.aload_n 0, 1) := by decide +kernel
theorem d_M_chunk_231 : decode mi_M_chunk.2.1 231 = .ok (.iconst 1, 1) := by decide +kernel
theorem d_M_chunk_232 : decode mi_M_chunk.2.1 232 = .ok (.putfield 91, 3) := by decide +kernel
theorem d_M_chunk_235 : decode mi_M_chunk.2.1 235 = .ok (.aload_n 0, 1) := by decide +kernel
theorem d_M_chunk_236 : decode mi_M_chunk.2.1 236 = .ok (.iload_n 3, 1) := by decide +kernel
theorem d_M_chunk_237 : decode mi_M_chunk.2.1 237 = .ok (.putfield 152, 3) := by decide +kernel
theorem d_M_chunk_240 : decode mi_M_chunk.2.1 240 = .ok (.aload_n 0, 1) := by decide +kernel
theorem d_M_chunk_241 : decode mi_M_chunk.2.1 241 = .ok (.invokevirtual 155, 3) := by decide +kernel
theorem d_M_chunk_244 : decode mi_M_chunk.2.1 244 = .ok (.iconst 1, 1) := by decide +kernel
theorem d_M_chunk_245 : decode mi_M_chunk.2.1 245 = .ok (.ireturn, 1) := by decide +kernel
theorem d_M_follows_0 : decode mi_M_follows.2.1 0 = .ok (.aload_n 0, 1) := by decide +kernel
theorem d_M_follows_1 : decode mi_M_follows.2.1 1 = .ok (.getfield 76, 3) := by decide +kernel
theorem d_M_follows_4 : decode mi_M_follows.2.1 4 = .ok (.ifCond .eq 32, 3) := by decide +kernel
theorem d_M_follows_7 : decode mi_M_follows.2.1 7 = .ok (.iload_n 1, 1) := by decide +kernel
theorem d_M_follows_8 : decode mi_M_follows.2.1 8 = .ok (.i2l, 1) := by decide +kernel
theorem d_M_follows_9 : decode mi_M_follows.2.1 9 = .ok (.aload_n 0, 1) := by decide +kernel
theorem d_M_follows_10 : decode mi_M_follows.2.1 10 = .ok (.getfield 137, 3) := by decide +kernel
theorem d_M_follows_13 : decode mi_M_follows.2.1 13 = .ok (.i2l, 1) := by decide +kernel
theorem d_M_follows_14 : decode mi_M_follows.2.1 14 = .ok (.lconst 1, 1) := by decide +kernel
theorem d_M_follows_15 : decode mi_M_follows.2.1 15 = .ok (.ladd, 1) := by decide +kernel
theorem d_M_follows_16 : decode mi_M_follows.2.1 16 = .ok (.lcmp, 1) := by decide +kernel
theorem d_M_follows_17 : decode mi_M_follows.2.1 17 = .ok (.ifCond .eq 19, 3) := by decide +kernel
theorem d_M_follows_20 : decode mi_M_follows.2.1 20 = .ok (.aload_n 0, 1) := by decide +kernel
theorem d_M_follows_21 : decode mi_M_follows.2.1 21 = .ok (.getfield 137, 3) := by decide +kernel
theorem d_M_follows_24 : decode mi_M_follows.2.1 24 = .ok (.sipush 1000, 3) := by decide +kernel
theorem d_M_follows_27 : decode mi_M_follows.2.1 27 = .ok (.if_icmp .lt 13, 3) := by decide +kernel
theorem d_M_follows_30 : decode mi_M_follows.2.1 30 = .ok (.iload_n 1, 1) := by decide +kernel
theorem d_M_follows_31 : decode mi_M_follows.2.1 31 = .ok (.bipush 9, 2) := by decide +kernel
theorem d_M_follows_33 : decode mi_M_follows.2.1 33 = .ok (.if_icmp .gt 7, 3) := by decide +kernel
theorem d_M_follows_36 : decode mi_M_follows.2.1 36 = .ok (.iconst 1, 1) := by decide +kernel
theorem d_M_follows_37 : decode mi_M_follows.2.1 37 = .ok (.goto 4, 3) := by decide +kernel
theorem d_M_follows_40 : decode mi_M_follows.2.1 40 = .ok (.iconst 0, 1) := by decide +kernel
theorem d_M_follows_41 : decode mi_M_follows.2.1 41 = .ok (.ireturn, 1) := by decide +kernel
theorem d_M_reply_0 : decode mi_M_reply.2.1 0 = .ok (.aload_n 0, 1) := by decide +kernel
theorem d_M_reply_1 : decode mi_M_reply.2.1 1 = .ok (.iconst 0, 1) := by decide +kernel
theorem d_M_reply_2 : decode mi_M_reply.2.1 2 = .ok (.putfield 158, 3) := by decide +kernel
theorem d_M_reply_5 : decode mi_M_reply.2.1 5 = .ok (.aload_n 0, 1) := by decide +kernel
theorem d_M_reply_6 : decode mi_M_reply.2.1 6 = .ok (.iconst 1, 1) := by decide +kernel
theorem d_M_reply_7 : decode mi_M_reply.2.1 7 = .ok (.putfield 161, 3) := by decide +kernel
theorem d_M_reply_10 : decode mi_M_reply.2.1 10 = .ok (.aload_n 0, 1) := by decide +kernel
theorem d_M_reply_11 : decode mi_M_reply.2.1 11 = .ok (.iconst 1, 1) := by decide +kernel
theorem d_M_reply_12 : decode mi_M_reply.2.1 12 = .ok (.invokevirtual 187, 3) := by decide +kernel
theorem d_M_reply_15 : decode mi_M_reply.2.1 15 = .ok (.aload_n 0, 1) := by decide +kernel
theorem d_M_reply_16 : decode mi_M_reply.2.1 16 = .ok (.getfield 140, 3) := by decide +kernel
theorem d_M_reply_19 : decode mi_M_reply.2.1 19 = .ok (.ifCond .ne 4, 3) := by decide +kernel
theorem d_M_reply_22 : decode mi_M_reply.2.1 22 = .ok (.return_, 1) := by decide +kernel
theorem d_M_reply_23 : decode mi_M_reply.2.1 23 = .ok (.aload_n 0, 1) := by decide +kernel
theorem d_M_reply_24 : decode mi_M_reply.2.1 24 = .ok (.invokevirtual 164, 3) := by decide +kernel
theorem d_M_reply_27 : decode mi_M_reply.2.1 27 = .ok (.istore_n 1, 1) := by decide +kernel
theorem d_M_reply_28 : decode mi_M_reply.2.1 28 = .ok (.iload_n 1, 1) := by decide +kernel
theorem d_M_reply_29 : decode mi_M_reply.2.1 29 = .ok (.tableswitch 81 1 6 #[39, 46, 53, 60, 67, 74], 39) := by decide +kernel
theorem d_M_reply_68 : decode mi_M_reply.2.1 68 = .ok (.aload_n 0, 1) := by decide +kernel
theorem d_M_reply_69 : decode mi_M_reply.2.1 69 = .ok (.invokevirtual 190, 3) := by decide +kernel
theorem d_M_reply_72 : decode mi_M_reply.2.1 72 = .ok (.goto 43, 3) := by decide +kernel
theorem d_M_reply_75 : decode mi_M_reply.2.1 75 = .ok (.aload_n 0, 1) := by decide +kernel
theorem d_M_reply_76 : decode mi_M_reply.2.1 76 = .ok (.invokevirtual 193, 3) := by decide +kernel
theorem d_M_reply_79 : decode mi_M_reply.2.1 79 = .ok (.goto 36, 3) := by decide +kernel
theorem d_M_reply_82 : decode mi_M_reply.2.1 82 = .ok (.aload_n 0, 1) := by decide +kernel
theorem d_M_reply_83 : decode mi_M_reply.2.1 83 = .ok (.invokevirtual 196, 3) := by decide +kernel
theorem d_M_reply_86 : decode mi_M_reply.2.1 86 = .ok (.goto 29, 3) := by decide +kernel
theorem d_M_reply_89 : decode mi_M_reply.2.1 89 = .ok (.aload_n 0, 1) := by decide +kernel
theorem d_M_reply_90 : decode mi_M_reply.2.1 90 = .ok (.invokevirtual 199, 3) := by decide +kernel
theorem d_M_reply_93 : decode mi_M_reply.2.1 93 = .ok (.goto 22, 3) := by decide +kernel
theorem d_M_reply_96 : decode mi_M_reply.2.1 96 = .ok (.aload_n 0, 1) := by decide +kernel
theorem d_M_reply_97 : decode mi_M_reply.2.1 97 = .ok (.invokevirtual 202, 3) := by decide +kernel
theorem d_M_reply_100 : decode mi_M_reply.2.1 100 = .ok (.goto 15, 3) := by decide +kernel
theorem d_M_reply_103 : decode mi_M_reply.2.1 103 = .ok (.aload_n 0, 1) := by decide +kernel
theorem d_M_reply_104 : decode mi_M_reply.2.1 104 = .ok (.invokevirtual 205, 3) := by decide +kernel
theorem d_M_reply_107 : decode mi_M_reply.2.1 107 = .ok (.goto 8, 3) := by decide +kernel
theorem d_M_reply_110 : decode mi_M_reply.2.1 110 = .ok (.aload_n 0, 1) := by decide +kernel
theorem d_M_reply_111 : decode mi_M_reply.2.1 111 = .ok (.iconst 2, 1) := by decide +kernel
theorem d_M_reply_112 : decode mi_M_reply.2.1 112 = .ok (.invokevirtual 187, 3) := by decide +kernel
theorem d_M_reply_115 : decode mi_M_reply.2.1 115 = .ok (.return_, 1) := by decide +kernel
theorem d_M_code_0 : decode mi_M_code.2.1 0 = .ok (.aload_n 0, 1) := by decide +kernel
theorem d_M_code_1 : decode mi_M_code.2.1 1 = .ok (.iconst 0, 1) := by decide +kernel
theorem d_M_code_2 : decode mi_M_code.2.1 2 = .ok (.putfield 94, 3) := by decide +kernel
theorem d_M_code_5 : decode mi_M_code.2.1 5 = .ok (.aload_n 0, 1) := by decide +kernel
theorem d_M_code_6 : decode mi_M_code.2.1 6 = .ok (.iload_n 1, 1) := by decide +kernel
theorem d_M_code_7 : decode mi_M_code.2.1 7 = .ok (.invokevirtual 184, 3) := by decide +kernel
theorem d_M_code_10 : decode mi_M_code.2.1 10 = .ok (.return_, 1) := by decide +kernel
theorem d_M_say_0 : decode mi_M_say.2.1 0 = .ok (.aload_n 0, 1) := by decide +kernel
theorem d_M_say_1 : decode mi_M_say.2.1 1 = .ok (.getfield 69, 3) := by decide +kernel
theorem d_M_say_4 : decode mi_M_say.2.1 4 = .ok (.aload_n 0, 1) := by decide +kernel
theorem d_M_say_5 : decode mi_M_say.2.1 5 = .ok (.getfield 94, 3) := by decide +kernel
theorem d_M_say_8 : decode mi_M_say.2.1 8 = .ok (.iload_n 1, 1) := by decide +kernel
theorem d_M_say_9 : decode mi_M_say.2.1 9 = .ok (.iastore, 1) := by decide +kernel
theorem d_M_say_10 : decode mi_M_say.2.1 10 = .ok (.aload_n 0, 1) := by decide +kernel
theorem d_M_say_11 : decode mi_M_say.2.1 11 = .ok (.dup, 1) := by decide +kernel
theorem d_M_say_12 : decode mi_M_say.2.1 12 = .ok (.getfield 94, 3) := by decide +kernel
theorem d_M_say_15 : decode mi_M_say.2.1 15 = .ok (.iconst 1, 1) := by decide +kernel
theorem d_M_say_16 : decode mi_M_say.2.1 16 = .ok (.iadd, 1) := by decide +kernel
theorem d_M_say_17 : decode mi_M_say.2.1 17 = .ok (.putfield 94, 3) := by decide +kernel
theorem d_M_say_20 : decode mi_M_say.2.1 20 = .ok (.return_, 1) := by decide +kernel
theorem d_M_next_0 : decode mi_M_next.2.1 0 = .ok (.aload_n 0, 1) := by decide +kernel
theorem d_M_next_1 : decode mi_M_next.2.1 1 = .ok (.getfield 158, 3) := by decide +kernel
theorem d_M_next_4 : decode mi_M_next.2.1 4 = .ok (.aload_n 0, 1) := by decide +kernel
theorem d_M_next_5 : decode mi_M_next.2.1 5 = .ok (.getfield 140, 3) := by decide +kernel
theorem d_M_next_8 : decode mi_M_next.2.1 8 = .ok (.if_icmp .lt 10, 3) := by decide +kernel
theorem d_M_next_11 : decode mi_M_next.2.1 11 = .ok (.aload_n 0, 1) := by decide +kernel
theorem d_M_next_12 : decode mi_M_next.2.1 12 = .ok (.iconst 0, 1) := by decide +kernel
theorem d_M_next_13 : decode mi_M_next.2.1 13 = .ok (.putfield 161, 3) := by decide +kernel
theorem d_M_next_16 : decode mi_M_next.2.1 16 = .ok (.iconst 0, 1) := by decide +kernel
theorem d_M_next_17 : decode mi_M_next.2.1 17 = .ok (.ireturn, 1) := by decide +kernel
theorem d_M_next_18 : decode mi_M_next.2.1 18 = .ok (.aload_n 0, 1) := by decide +kernel
theorem d_M_next_19 : decode mi_M_next.2.1 19 = .ok (.dup, 1) := by decide +kernel
theorem d_M_next_20 : decode mi_M_next.2.1 20 = .ok (.getfield 158, 3) := by decide +kernel
theorem d_M_next_23 : decode mi_M_next.2.1 23 = .ok (.iconst 1, 1) := by decide +kernel
theorem d_M_next_24 : decode mi_M_next.2.1 24 = .ok (.iadd, 1) := by decide +kernel
theorem d_M_next_25 : decode mi_M_next.2.1 25 = .ok (.putfield 158, 3) := by decide +kernel
theorem d_M_next_28 : decode mi_M_next.2.1 28 = .ok (.aload_n 0, 1) := by decide +kernel
theorem d_M_next_29 : decode mi_M_next.2.1 29 = .ok (.getfield 60, 3) := by decide +kernel
theorem d_M_next_32 : decode mi_M_next.2.1 32 = .ok (.aload_n 0, 1) := by decide +kernel
theorem d_M_next_33 : decode mi_M_next.2.1 33 = .ok (.getfield 158, 3) := by decide +kernel
theorem d_M_next_36 : decode mi_M_next.2.1 36 = .ok (.iconst 1, 1) := by decide +kernel
theorem d_M_next_37 : decode mi_M_next.2.1 37 = .ok (.isub, 1) := by decide +kernel
theorem d_M_next_38 : decode mi_M_next.2.1 38 = .ok (.iaload, 1) := by decide +kernel
theorem d_M_next_39 : decode mi_M_next.2.1 39 = .ok (.ireturn, 1) := by decide +kernel
theorem d_M_read_0 : decode mi_M_read.2.1 0 = .ok (.aload_n 0, 1) := by decide +kernel
theorem d_M_read_1 : decode mi_M_read.2.1 1 = .ok (.invokevirtual 208, 3) := by decide +kernel
theorem d_M_read_4 : decode mi_M_read.2.1 4 = .ok (.aload_n 0, 1) := by decide +kernel
theorem d_M_read_5 : decode mi_M_read.2.1 5 = .ok (.invokevirtual 211, 3) := by decide +kernel
theorem d_M_read_8 : decode mi_M_read.2.1 8 = .ok (.ifCond .ne 4, 3) := by decide +kernel
theorem d_M_read_11 : decode mi_M_read.2.1 11 = .ok (.return_, 1) := by decide +kernel
theorem d_M_read_12 : decode mi_M_read.2.1 12 = .ok (.aload_n 0, 1) := by decide +kernel
theorem d_M_read_13 : decode mi_M_read.2.1 13 = .ok (.getfield 168, 3) := by decide +kernel
theorem d_M_read_16 : decode mi_M_read.2.1 16 = .ok (.ifCond .lt 15, 3) := by decide +kernel
theorem d_M_read_19 : decode mi_M_read.2.1 19 = .ok (.aload_n 0, 1) := by decide +kernel
theorem d_M_read_20 : decode mi_M_read.2.1 20 = .ok (.getfield 17, 3) := by decide +kernel
theorem d_M_read_23 : decode mi_M_read.2.1 23 = .ok (.aload_n 0, 1) := by decide +kernel
theorem d_M_read_24 : decode mi_M_read.2.1 24 = .ok (.getfield 168, 3) := by decide +kernel
theorem d_M_read_27 : decode mi_M_read.2.1 27 = .ok (.baload, 1) := by decide +kernel
theorem d_M_read_28 : decode mi_M_read.2.1 28 = .ok (.ifCond .ne 20, 3) := by decide +kernel
theorem d_M_read_31 : decode mi_M_read.2.1 31 = .ok (.aload_n 0, 1) := by decide +kernel
theorem d_M_read_32 : decode mi_M_read.2.1 32 = .ok (.aload_n 0, 1) := by decide +kernel
theorem d_M_read_33 : decode mi_M_read.2.1 33 = .ok (.getfield 168, 3) := by decide +kernel
theorem d_M_read_36 : decode mi_M_read.2.1 36 = .ok (.ifCond .ge 7, 3) := by decide +kernel
theorem d_M_read_39 : decode mi_M_read.2.1 39 = .ok (.iconst 3, 1) := by decide +kernel
theorem d_M_read_40 : decode mi_M_read.2.1 40 = .ok (.goto 4, 3) := by decide +kernel
theorem d_M_read_43 : decode mi_M_read.2.1 43 = .ok (.iconst 4, 1) := by decide +kernel
theorem d_M_read_44 : decode mi_M_read.2.1 44 = .ok (.invokevirtual 187, 3) := by decide +kernel
theorem d_M_read_47 : decode mi_M_read.2.1 47 = .ok (.return_, 1) := by decide +kernel
theorem d_M_read_48 : decode mi_M_read.2.1 48 = .ok (.aload_n 0, 1) := by decide +kernel
theorem d_M_read_49 : decode mi_M_read.2.1 49 = .ok (.iconst 0, 1) := by decide +kernel
theorem d_M_read_50 : decode mi_M_read.2.1 50 = .ok (.invokevirtual 187, 3) := by decide +kernel
theorem d_M_read_53 : decode mi_M_read.2.1 53 = .ok (.iconst 0, 1) := by decide +kernel
theorem d_M_read_54 : decode mi_M_read.2.1 54 = .ok (.istore_n 1, 1) := by decide +kernel
theorem d_M_read_55 : decode mi_M_read.2.1 55 = .ok (.iload_n 1, 1) := by decide +kernel
theorem d_M_read_56 : decode mi_M_read.2.1 56 = .ok (.aload_n 0, 1) := by decide +kernel
theorem d_M_read_57 : decode mi_M_read.2.1 57 = .ok (.getfield 24, 3) := by decide +kernel
theorem d_M_read_60 : decode mi_M_read.2.1 60 = .ok (.aload_n 0, 1) := by decide +kernel
theorem d_M_read_61 : decode mi_M_read.2.1 61 = .ok (.getfield 168, 3) := by decide +kernel
theorem d_M_read_64 : decode mi_M_read.2.1 64 = .ok (.iaload, 1) := by decide +kernel
theorem d_M_read_65 : decode mi_M_read.2.1 65 = .ok (.if_icmp .ge 27, 3) := by decide +kernel
theorem d_M_read_68 : decode mi_M_read.2.1 68 = .ok (.aload_n 0, 1) := by decide +kernel
theorem d_M_read_69 : decode mi_M_read.2.1 69 = .ok (.aload_n 0, 1) := by decide +kernel
theorem d_M_read_70 : decode mi_M_read.2.1 70 = .ok (.getfield 27, 3) := by decide +kernel
theorem d_M_read_73 : decode mi_M_read.2.1 73 = .ok (.bipush 64, 2) := by decide +kernel
theorem d_M_read_75 : decode mi_M_read.2.1 75 = .ok (.aload_n 0, 1) := by decide +kernel
theorem d_M_read_76 : decode mi_M_read.2.1 76 = .ok (.getfield 168, 3) := by decide +kernel
theorem d_M_read_79 : decode mi_M_read.2.1 79 = .ok (.imul, 1) := by decide +kernel
theorem d_M_read_80 : decode mi_M_read.2.1 80 = .ok (.iload_n 1, 1) := by decide +kernel
theorem d_M_read_81 : decode mi_M_read.2.1 81 = .ok (.iadd, 1) := by decide +kernel
theorem d_M_read_82 : decode mi_M_read.2.1 82 = .ok (.iaload, 1) := by decide +kernel
theorem d_M_read_83 : decode mi_M_read.2.1 83 = .ok (.invokevirtual 184, 3) := by decide +kernel
theorem d_M_read_86 : decode mi_M_read.2.1 86 = .ok (.iinc 1 1, 3) := by decide +kernel
theorem d_M_read_89 : decode mi_M_read.2.1 89 = .ok (.goto (-34), 3) := by decide +kernel
theorem d_M_read_92 : decode mi_M_read.2.1 92 = .ok (.return_, 1) := by decide +kernel
theorem d_M_readName_0 : decode mi_M_readName.2.1 0 = .ok (.aload_n 0, 1) := by decide +kernel
theorem d_M_readName_1 : decode mi_M_readName.2.1 1 = .ok (.invokevirtual 164, 3) := by decide +kernel
theorem d_M_readName_4 : decode mi_M_readName.2.1 4 = .ok (.istore_n 1, 1) := by decide +kernel
theorem d_M_readName_5 : decode mi_M_readName.2.1 5 = .ok (.aload_n 0, 1) := by decide +kernel
theorem d_M_readName_6 : decode mi_M_readName.2.1 6 = .ok (.iconst (-1), 1) := by decide +kernel
theorem d_M_readName_7 : decode mi_M_readName.2.1 7 = .ok (.putfield 168, 3) := by decide +kernel
theorem d_M_readName_10 : decode mi_M_readName.2.1 10 = .ok (.iload_n 1, 1) := by decide +kernel
theorem d_M_readName_11 : decode mi_M_readName.2.1 11 = .ok (.ifCond .ne 28, 3) := by decide +kernel
theorem d_M_readName_14 : decode mi_M_readName.2.1 14 = .ok (.aload_n 0, 1) := by decide +kernel
theorem d_M_readName_15 : decode mi_M_readName.2.1 15 = .ok (.invokevirtual 164, 3) := by decide +kernel
theorem d_M_readName_18 : decode mi_M_readName.2.1 18 = .ok (.istore_n 2, 1) := by decide +kernel
theorem d_M_readName_19 : decode mi_M_readName.2.1 19 = .ok (.aload_n 0, 1) := by decide +kernel
theorem d_M_readName_20 : decode mi_M_readName.2.1 20 = .ok (.aload_n 0, 1) := by decide +kernel
theorem d_M_readName_21 : decode mi_M_readName.2.1 21 = .ok (.iload_n 2, 1) := by decide +kernel
theorem d_M_readName_22 : decode mi_M_readName.2.1 22 = .ok (.invokevirtual 97, 3) := by decide +kernel
theorem d_M_readName_25 : decode mi_M_readName.2.1 25 = .ok (.ifCond .eq 7, 3) := by decide +kernel
theorem d_M_readName_28 : decode mi_M_readName.2.1 28 = .ok (.iload_n 2, 1) := by decide +kernel
theorem d_M_readName_29 : decode mi_M_readName.2.1 29 = .ok (.goto 4, 3) := by decide +kernel
theorem d_M_readName_32 : decode mi_M_readName.2.1 32 = .ok (.iconst (-1), 1) := by decide +kernel
theorem d_M_readName_33 : decode mi_M_readName.2.1 33 = .ok (.putfield 168, 3) := by decide +kernel
theorem d_M_readName_36 : decode mi_M_readName.2.1 36 = .ok (.goto 48, 3) := by decide +kernel
theorem d_M_readName_39 : decode mi_M_readName.2.1 39 = .ok (.iload_n 1, 1) := by decide +kernel
theorem d_M_readName_40 : decode mi_M_readName.2.1 40 = .ok (.iconst 1, 1) := by decide +kernel
theorem d_M_readName_41 : decode mi_M_readName.2.1 41 = .ok (.if_icmp .ne 38, 3) := by decide +kernel
theorem d_M_readName_44 : decode mi_M_readName.2.1 44 = .ok (.aload_n 0, 1) := by decide +kernel
theorem d_M_readName_45 : decode mi_M_readName.2.1 45 = .ok (.invokevirtual 164, 3) := by decide +kernel
theorem d_M_readName_48 : decode mi_M_readName.2.1 48 = .ok (.istore_n 2, 1) := by decide +kernel
theorem d_M_readName_49 : decode mi_M_readName.2.1 49 = .ok (.aload_n 0, 1) := by decide +kernel
theorem d_M_readName_50 : decode mi_M_readName.2.1 50 = .ok (.iconst 2, 1) := by decide +kernel
theorem d_M_readName_51 : decode mi_M_readName.2.1 51 = .ok (.invokevirtual 171, 3) := by decide +kernel
theorem d_M_readName_54 : decode mi_M_readName.2.1 54 = .ok (.istore_n 3, 1) := by decide +kernel
theorem d_M_readName_55 : decode mi_M_readName.2.1 55 = .ok (.aload_n 0, 1) := by decide +kernel
theorem d_M_readName_56 : decode mi_M_readName.2.1 56 = .ok (.iload_n 2, 1) := by decide +kernel
theorem d_M_readName_57 : decode mi_M_readName.2.1 57 = .ok (.ifCond .ne 15, 3) := by decide +kernel
theorem d_M_readName_60 : decode mi_M_readName.2.1 60 = .ok (.aload_n 0, 1) := by decide +kernel
theorem d_M_readName_61 : decode mi_M_readName.2.1 61 = .ok (.iload_n 3, 1) := by decide +kernel
theorem d_M_readName_62 : decode mi_M_readName.2.1 62 = .ok (.invokevirtual 97, 3) := by decide +kernel
theorem d_M_readName_65 : decode mi_M_readName.2.1 65 = .ok (.ifCond .eq 7, 3) := by decide +kernel
theorem d_M_readName_68 : decode mi_M_readName.2.1 68 = .ok (.iload_n 3, 1) := by decide +kernel
theorem d_M_readName_69 : decode mi_M_readName.2.1 69 = .ok (.goto 4, 3) := by decide +kernel
theorem d_M_readName_72 : decode mi_M_readName.2.1 72 = .ok (.iconst (-1), 1) := by decide +kernel
theorem d_M_readName_73 : decode mi_M_readName.2.1 73 = .ok (.putfield 168, 3) := by decide +kernel
theorem d_M_readName_76 : decode mi_M_readName.2.1 76 = .ok (.goto 8, 3) := by decide +kernel
theorem d_M_readName_79 : decode mi_M_readName.2.1 79 = .ok (.aload_n 0, 1) := by decide +kernel
theorem d_M_readName_80 : decode mi_M_readName.2.1 80 = .ok (.iconst 0, 1) := by decide +kernel
theorem d_M_readName_81 : decode mi_M_readName.2.1 81 = .ok (.putfield 161, 3) := by decide +kernel
theorem d_M_readName_84 : decode mi_M_readName.2.1 84 = .ok (.return_, 1) := by decide +kernel
theorem d_M_number_0 : decode mi_M_number.2.1 0 = .ok (.iconst 0, 1) := by decide +kernel
theorem d_M_number_1 : decode mi_M_number.2.1 1 = .ok (.istore_n 2, 1) := by decide +kernel
theorem d_M_number_2 : decode mi_M_number.2.1 2 = .ok (.iconst 0, 1) := by decide +kernel
theorem d_M_number_3 : decode mi_M_number.2.1 3 = .ok (.istore_n 3, 1) := by decide +kernel
theorem d_M_number_4 : decode mi_M_number.2.1 4 = .ok (.iload_n 3, 1) := by decide +kernel
theorem d_M_number_5 : decode mi_M_number.2.1 5 = .ok (.iload_n 1, 1) := by decide +kernel
theorem d_M_number_6 : decode mi_M_number.2.1 6 = .ok (.if_icmp .ge 21, 3) := by decide +kernel
theorem d_M_number_9 : decode mi_M_number.2.1 9 = .ok (.iload_n 2, 1) := by decide +kernel
theorem d_M_number_10 : decode mi_M_number.2.1 10 = .ok (.aload_n 0, 1) := by decide +kernel
theorem d_M_number_11 : decode mi_M_number.2.1 11 = .ok (.invokevirtual 164, 3) := by decide +kernel
theorem d_M_number_14 : decode mi_M_number.2.1 14 = .ok (.bipush 8, 2) := by decide +kernel
theorem d_M_number_16 : decode mi_M_number.2.1 16 = .ok (.iload_n 3, 1) := by decide +kernel
theorem d_M_number_17 : decode mi_M_number.2.1 17 = .ok (.imul, 1) := by decide +kernel
theorem d_M_number_18 : decode mi_M_number.2.1 18 = .ok (.ishl, 1) := by decide +kernel
theorem d_M_number_19 : decode mi_M_number.2.1 19 = .ok (.ior, 1) := by decide +kernel
theorem d_M_number_20 : decode mi_M_number.2.1 20 = .ok (.istore_n 2, 1) := by decide +kernel
theorem d_M_number_21 : decode mi_M_number.2.1 21 = .ok (.iinc 3 1, 3) := by decide +kernel
theorem d_M_number_24 : decode mi_M_number.2.1 24 = .ok (.goto (-20), 3) := by decide +kernel
theorem d_M_number_27 : decode mi_M_number.2.1 27 = .ok (.iload_n 2, 1) := by decide +kernel
theorem d_M_number_28 : decode mi_M_number.2.1 28 = .ok (.ireturn, 1) := by decide +kernel
theorem d_M_whole_0 : decode mi_M_whole.2.1 0 = .ok (.aload_n 0, 1) := by decide +kernel
theorem d_M_whole_1 : decode mi_M_whole.2.1 1 = .ok (.getfield 161, 3) := by decide +kernel
theorem d_M_whole_4 : decode mi_M_whole.2.1 4 = .ok (.ifCond .eq 18, 3) := by decide +kernel
theorem d_M_whole_7 : decode mi_M_whole.2.1 7 = .ok (.aload_n 0, 1) := by decide +kernel
theorem d_M_whole_8 : decode mi_M_whole.2.1 8 = .ok (.getfield 158, 3) := by decide +kernel
theorem d_M_whole_11 : decode mi_M_whole.2.1 11 = .ok (.aload_n 0, 1) := by decide +kernel
theorem d_M_whole_12 : decode mi_M_whole.2.1 12 = .ok (.getfield 140, 3) := by decide +kernel
theorem d_M_whole_15 : decode mi_M_whole.2.1 15 = .ok (.if_icmp .ne 7, 3) := by decide +kernel
theorem d_M_whole_18 : decode mi_M_whole.2.1 18 = .ok (.iconst 1, 1) := by decide +kernel
theorem d_M_whole_19 : decode mi_M_whole.2.1 19 = .ok (.goto 4, 3) := by decide +kernel
theorem d_M_whole_22 : decode mi_M_whole.2.1 22 = .ok (.iconst 0, 1) := by decide +kernel
theorem d_M_whole_23 : decode mi_M_whole.2.1 23 = .ok (.ireturn, 1) := by decide +kernel
theorem d_M_write_0 : decode mi_M_write.2.1 0 = .ok (.aload_n 0, 1) := by decide +kernel
theorem d_M_write_1 : decode mi_M_write.2.1 1 = .ok (.invokevirtual 208, 3) := by decide +kernel
theorem d_M_write_4 : decode mi_M_write.2.1 4 = .ok (.aload_n 0, 1) := by decide +kernel
theorem d_M_write_5 : decode mi_M_write.2.1 5 = .ok (.getfield 168, 3) := by decide +kernel
theorem d_M_write_8 : decode mi_M_write.2.1 8 = .ok (.istore_n 1, 1) := by decide +kernel
theorem d_M_write_9 : decode mi_M_write.2.1 9 = .ok (.aload_n 0, 1) := by decide +kernel
theorem d_M_write_10 : decode mi_M_write.2.1 10 = .ok (.getfield 161, 3) := by decide +kernel
theorem d_M_write_13 : decode mi_M_write.2.1 13 = .ok (.ifCond .eq 7, 3) := by decide +kernel
theorem d_M_write_16 : decode mi_M_write.2.1 16 = .ok (.aload_n 0, 1) := by decide +kernel
theorem d_M_write_17 : decode mi_M_write.2.1 17 = .ok (.invokevirtual 215, 3) := by decide +kernel
theorem d_M_write_20 : decode mi_M_write.2.1 20 = .ok (.aload_n 0, 1) := by decide +kernel
theorem d_M_write_21 : decode mi_M_write.2.1 21 = .ok (.invokevirtual 211, 3) := by decide +kernel
theorem d_M_write_24 : decode mi_M_write.2.1 24 = .ok (.ifCond .ne 4, 3) := by decide +kernel
theorem d_M_write_27 : decode mi_M_write.2.1 27 = .ok (.return_, 1) := by decide +kernel
theorem d_M_write_28 : decode mi_M_write.2.1 28 = .ok (.iload_n 1, 1) := by decide +kernel
theorem d_M_write_29 : decode mi_M_write.2.1 29 = .ok (.ifCond .lt 12, 3) := by decide +kernel
theorem d_M_write_32 : decode mi_M_write.2.1 32 = .ok (.aload_n 0, 1) := by decide +kernel
theorem d_M_write_33 : decode mi_M_write.2.1 33 = .ok (.getfield 17, 3) := by decide +kernel
theorem d_M_write_36 : decode mi_M_write.2.1 36 = .ok (.iload_n 1, 1) := by decide +kernel
theorem d_M_write_37 : decode mi_M_write.2.1 37 = .ok (.baload, 1) := by decide +kernel
theorem d_M_write_38 : decode mi_M_write.2.1 38 = .ok (.ifCond .ne 19, 3) := by decide +kernel
theorem d_M_write_41 : decode mi_M_write.2.1 41 = .ok (.aload_n 0, 1) := by decide +kernel
theorem d_M_write_42 : decode mi_M_write.2.1 42 = .ok (.iload_n 1, 1) := by decide +kernel
theorem d_M_write_43 : decode mi_M_write.2.1 43 = .ok (.ifCond .ge 7, 3) := by decide +kernel
theorem d_M_write_46 : decode mi_M_write.2.1 46 = .ok (.iconst 3, 1) := by decide +kernel
theorem d_M_write_47 : decode mi_M_write.2.1 47 = .ok (.goto 4, 3) := by decide +kernel
theorem d_M_write_50 : decode mi_M_write.2.1 50 = .ok (.iconst 4, 1) := by decide +kernel
theorem d_M_write_51 : decode mi_M_write.2.1 51 = .ok (.invokevirtual 187, 3) := by decide +kernel
theorem d_M_write_54 : decode mi_M_write.2.1 54 = .ok (.goto 46, 3) := by decide +kernel
theorem d_M_write_57 : decode mi_M_write.2.1 57 = .ok (.aload_n 0, 1) := by decide +kernel
theorem d_M_write_58 : decode mi_M_write.2.1 58 = .ok (.getfield 21, 3) := by decide +kernel
theorem d_M_write_61 : decode mi_M_write.2.1 61 = .ok (.iload_n 1, 1) := by decide +kernel
theorem d_M_write_62 : decode mi_M_write.2.1 62 = .ok (.iaload, 1) := by decide +kernel
theorem d_M_write_63 : decode mi_M_write.2.1 63 = .ok (.ifCond .eq 26, 3) := by decide +kernel
theorem d_M_write_66 : decode mi_M_write.2.1 66 = .ok (.aload_n 0, 1) := by decide +kernel
theorem d_M_write_67 : decode mi_M_write.2.1 67 = .ok (.getfield 21, 3) := by decide +kernel
theorem d_M_write_70 : decode mi_M_write.2.1 70 = .ok (.iload_n 1, 1) := by decide +kernel
theorem d_M_write_71 : decode mi_M_write.2.1 71 = .ok (.iaload, 1) := by decide +kernel
theorem d_M_write_72 : decode mi_M_write.2.1 72 = .ok (.aload_n 0, 1) := by decide +kernel
theorem d_M_write_73 : decode mi_M_write.2.1 73 = .ok (.getfield 63, 3) := by decide +kernel
theorem d_M_write_76 : decode mi_M_write.2.1 76 = .ok (.iconst 0, 1) := by decide +kernel
theorem d_M_write_77 : decode mi_M_write.2.1 77 = .ok (.iaload, 1) := by decide +kernel
theorem d_M_write_78 : decode mi_M_write.2.1 78 = .ok (.if_icmp .eq 11, 3) := by decide +kernel
theorem d_M_write_81 : decode mi_M_write.2.1 81 = .ok (.aload_n 0, 1) := by decide +kernel
theorem d_M_write_82 : decode mi_M_write.2.1 82 = .ok (.iconst 5, 1) := by decide +kernel
theorem d_M_write_83 : decode mi_M_write.2.1 83 = .ok (.invokevirtual 187, 3) := by decide +kernel
theorem d_M_write_86 : decode mi_M_write.2.1 86 = .ok (.goto 14, 3) := by decide +kernel
theorem d_M_write_89 : decode mi_M_write.2.1 89 = .ok (.aload_n 0, 1) := by decide +kernel
theorem d_M_write_90 : decode mi_M_write.2.1 90 = .ok (.iload_n 1, 1) := by decide +kernel
theorem d_M_write_91 : decode mi_M_write.2.1 91 = .ok (.invokevirtual 134, 3) := by decide +kernel
theorem d_M_write_94 : decode mi_M_write.2.1 94 = .ok (.pop, 1) := by decide +kernel
theorem d_M_write_95 : decode mi_M_write.2.1 95 = .ok (.aload_n 0, 1) := by decide +kernel
theorem d_M_write_96 : decode mi_M_write.2.1 96 = .ok (.iconst 0, 1) := by decide +kernel
theorem d_M_write_97 : decode mi_M_write.2.1 97 = .ok (.invokevirtual 187, 3) := by decide +kernel
theorem d_M_write_100 : decode mi_M_write.2.1 100 = .ok (.return_, 1) := by decide +kernel
theorem d_M_readValue_0 : decode mi_M_readValue.2.1 0 = .ok (.aload_n 0, 1) := by decide +kernel
theorem d_M_readValue_1 : decode mi_M_readValue.2.1 1 = .ok (.iconst 0, 1) := by decide +kernel
theorem d_M_readValue_2 : decode mi_M_readValue.2.1 2 = .ok (.putfield 125, 3) := by decide +kernel
theorem d_M_readValue_5 : decode mi_M_readValue.2.1 5 = .ok (.iconst 0, 1) := by decide +kernel
theorem d_M_readValue_6 : decode mi_M_readValue.2.1 6 = .ok (.istore_n 1, 1) := by decide +kernel
theorem d_M_readValue_7 : decode mi_M_readValue.2.1 7 = .ok (.aload_n 0, 1) := by decide +kernel
theorem d_M_readValue_8 : decode mi_M_readValue.2.1 8 = .ok (.getfield 66, 3) := by decide +kernel
theorem d_M_readValue_11 : decode mi_M_readValue.2.1 11 = .ok (.iconst 0, 1) := by decide +kernel
theorem d_M_readValue_12 : decode mi_M_readValue.2.1 12 = .ok (.iconst 1, 1) := by decide +kernel
theorem d_M_readValue_13 : decode mi_M_readValue.2.1 13 = .ok (.iastore, 1) := by decide +kernel
theorem d_M_readValue_14 : decode mi_M_readValue.2.1 14 = .ok (.iload_n 1, 1) := by decide +kernel
theorem d_M_readValue_15 : decode mi_M_readValue.2.1 15 = .ok (.ifCond .lt 116, 3) := by decide +kernel
theorem d_M_readValue_18 : decode mi_M_readValue.2.1 18 = .ok (.aload_n 0, 1) := by decide +kernel
theorem d_M_readValue_19 : decode mi_M_readValue.2.1 19 = .ok (.getfield 161, 3) := by decide +kernel
theorem d_M_readValue_22 : decode mi_M_readValue.2.1 22 = .ok (.ifCond .eq 109, 3) := by decide +kernel
theorem d_M_readValue_25 : decode mi_M_readValue.2.1 25 = .ok (.aload_n 0, 1) := by decide +kernel
theorem d_M_readValue_26 : decode mi_M_readValue.2.1 26 = .ok (.getfield 66, 3) := by decide +kernel
theorem d_M_readValue_29 : decode mi_M_readValue.2.1 29 = .ok (.iload_n 1, 1) := by decide +kernel
theorem d_M_readValue_30 : decode mi_M_readValue.2.1 30 = .ok (.iaload, 1) := by decide +kernel
theorem d_M_readValue_31 : decode mi_M_readValue.2.1 31 = .ok (.ifCond .ne 9, 3) := by decide +kernel
theorem d_M_readValue_34 : decode mi_M_readValue.2.1 34 = .ok (.iinc 1 (-1), 3) := by decide +kernel
theorem d_M_readValue_37 : decode mi_M_readValue.2.1 37 = .ok (.goto (-23), 3) := by decide +kernel
theorem d_M_readValue_40 : decode mi_M_readValue.2.1 40 = .ok (.aload_n 0, 1) := by decide +kernel
theorem d_M_readValue_41 : decode mi_M_readValue.2.1 41 = .ok (.getfield 66, 3) := by decide +kernel
theorem d_M_readValue_44 : decode mi_M_readValue.2.1 44 = .ok (.iload_n 1, 1) := by decide +kernel
theorem d_M_readValue_45 : decode mi_M_readValue.2.1 45 = .ok (.dup2, 1) := by decide +kernel
theorem d_M_readValue_46 : decode mi_M_readValue.2.1 46 = .ok (.iaload, 1) := by decide +kernel
theorem d_M_readValue_47 : decode mi_M_readValue.2.1 47 = .ok (.iconst 1, 1) := by decide +kernel
theorem d_M_readValue_48 : decode mi_M_readValue.2.1 48 = .ok (.isub, 1) := by decide +kernel
theorem d_M_readValue_49 : decode mi_M_readValue.2.1 49 = .ok (.iastore, 1) := by decide +kernel
theorem d_M_readValue_50 : decode mi_M_readValue.2.1 50 = .ok (.aload_n 0, 1) := by decide +kernel
theorem d_M_readValue_51 : decode mi_M_readValue.2.1 51 = .ok (.invokevirtual 164, 3) := by decide +kernel
theorem d_M_readValue_54 : decode mi_M_readValue.2.1 54 = .ok (.istore_n 2, 1) := by decide +kernel
theorem d_M_readValue_55 : decode mi_M_readValue.2.1 55 = .ok (.aload_n 0, 1) := by decide +kernel
theorem d_M_readValue_56 : decode mi_M_readValue.2.1 56 = .ok (.iload_n 2, 1) := by decide +kernel
theorem d_M_readValue_57 : decode mi_M_readValue.2.1 57 = .ok (.invokevirtual 175, 3) := by decide +kernel
theorem d_M_readValue_60 : decode mi_M_readValue.2.1 60 = .ok (.iload_n 2, 1) := by decide +kernel
theorem d_M_readValue_61 : decode mi_M_readValue.2.1 61 = .ok (.sipush 152, 3) := by decide +kernel
theorem d_M_readValue_64 : decode mi_M_readValue.2.1 64 = .ok (.if_icmp .ne 59, 3) := by decide +kernel
theorem d_M_readValue_67 : decode mi_M_readValue.2.1 67 = .ok (.aload_n 0, 1) := by decide +kernel
theorem d_M_readValue_68 : decode mi_M_readValue.2.1 68 = .ok (.iconst 4, 1) := by decide +kernel
theorem d_M_readValue_69 : decode mi_M_readValue.2.1 69 = .ok (.invokevirtual 178, 3) := by decide +kernel
theorem d_M_readValue_72 : decode mi_M_readValue.2.1 72 = .ok (.istore_n 3, 1) := by decide +kernel
theorem d_M_readValue_73 : decode mi_M_readValue.2.1 73 = .ok (.aload_n 0, 1) := by decide +kernel
theorem d_M_readValue_74 : decode mi_M_readValue.2.1 74 = .ok (.aload_n 0, 1) := by decide +kernel
theorem d_M_readValue_75 : decode mi_M_readValue.2.1 75 = .ok (.getfield 161, 3) := by decide +kernel
theorem d_M_readValue_78 : decode mi_M_readValue.2.1 78 = .ok (.ifCond .eq 16, 3) := by decide +kernel
theorem d_M_readValue_81 : decode mi_M_readValue.2.1 81 = .ok (.iload_n 3, 1) := by decide +kernel
theorem d_M_readValue_82 : decode mi_M_readValue.2.1 82 = .ok (.ifCond .lt 12, 3) := by decide +kernel
theorem d_M_readValue_85 : decode mi_M_readValue.2.1 85 = .ok (.iload_n 1, 1) := by decide +kernel
theorem d_M_readValue_86 : decode mi_M_readValue.2.1 86 = .ok (.iconst 3, 1) := by decide +kernel
theorem d_M_readValue_87 : decode mi_M_readValue.2.1 87 = .ok (.if_icmp .ge 7, 3) := by decide +kernel
theorem d_M_readValue_90 : decode mi_M_readValue.2.1 90 = .ok (.iconst 1, 1) := by decide +kernel
theorem d_M_readValue_91 : decode mi_M_readValue.2.1 91 = .ok (.goto 4, 3) := by decide +kernel
theorem d_M_readValue_94 : decode mi_M_readValue.2.1 94 = .ok (.iconst 0, 1) := by decide +kernel
theorem d_M_readValue_95 : decode mi_M_readValue.2.1 95 = .ok (.putfield 161, 3) := by decide +kernel
theorem d_M_readValue_98 : decode mi_M_readValue.2.1 98 = .ok (.aload_n 0, 1) := by decide +kernel
theorem d_M_readValue_99 : decode mi_M_readValue.2.1 99 = .ok (.getfield 161, 3) := by decide +kernel
theorem d_M_readValue_102 : decode mi_M_readValue.2.1 102 = .ok (.ifCond .eq 9, 3) := by decide +kernel
theorem d_M_readValue_105 : decode mi_M_readValue.2.1 105 = .ok (.iload_n 1, 1) := by decide +kernel
theorem d_M_readValue_106 : decode mi_M_readValue.2.1 106 = .ok (.iconst 1, 1) := by decide +kernel
theorem d_M_readValue_107 : decode mi_M_readValue.2.1 107 = .ok (.iadd, 1) := by decide +kernel
theorem d_M_readValue_108 : decode mi_M_readValue.2.1 108 = .ok (.goto 4, 3) := by decide +kernel
theorem d_M_readValue_111 : decode mi_M_readValue.2.1 111 = .ok (.iload_n 1, 1) := by decide +kernel
theorem d_M_readValue_112 : decode mi_M_readValue.2.1 112 = .ok (.istore_n 1, 1) := by decide +kernel
theorem d_M_readValue_113 : decode mi_M_readValue.2.1 113 = .ok (.aload_n 0, 1) := by decide +kernel
theorem d_M_readValue_114 : decode mi_M_readValue.2.1 114 = .ok (.getfield 66, 3) := by decide +kernel
theorem d_M_readValue_117 : decode mi_M_readValue.2.1 117 = .ok (.iload_n 1, 1) := by decide +kernel
theorem d_M_readValue_118 : decode mi_M_readValue.2.1 118 = .ok (.iload_n 3, 1) := by decide +kernel
theorem d_M_readValue_119 : decode mi_M_readValue.2.1 119 = .ok (.iastore, 1) := by decide +kernel
theorem d_M_readValue_120 : decode mi_M_readValue.2.1 120 = .ok (.goto 8, 3) := by decide +kernel
theorem d_M_readValue_123 : decode mi_M_readValue.2.1 123 = .ok (.aload_n 0, 1) := by decide +kernel
theorem d_M_readValue_124 : decode mi_M_readValue.2.1 124 = .ok (.iload_n 2, 1) := by decide +kernel
theorem d_M_readValue_125 : decode mi_M_readValue.2.1 125 = .ok (.invokevirtual 181, 3) := by decide +kernel
theorem d_M_readValue_128 : decode mi_M_readValue.2.1 128 = .ok (.goto (-114), 3) := by decide +kernel
theorem d_M_readValue_131 : decode mi_M_readValue.2.1 131 = .ok (.return_, 1) := by decide +kernel
theorem d_M_put_0 : decode mi_M_put.2.1 0 = .ok (.aload_n 0, 1) := by decide +kernel
theorem d_M_put_1 : decode mi_M_put.2.1 1 = .ok (.getfield 125, 3) := by decide +kernel
theorem d_M_put_4 : decode mi_M_put.2.1 4 = .ok (.bipush 64, 2) := by decide +kernel
theorem d_M_put_6 : decode mi_M_put.2.1 6 = .ok (.if_icmp .ge 23, 3) := by decide +kernel
theorem d_M_put_9 : decode mi_M_put.2.1 9 = .ok (.aload_n 0, 1) := by decide +kernel
theorem d_M_put_10 : decode mi_M_put.2.1 10 = .ok (.getfield 63, 3) := by decide +kernel
theorem d_M_put_13 : decode mi_M_put.2.1 13 = .ok (.aload_n 0, 1) := by decide +kernel
theorem d_M_put_14 : decode mi_M_put.2.1 14 = .ok (.getfield 125, 3) := by decide +kernel
theorem d_M_put_17 : decode mi_M_put.2.1 17 = .ok (.iload_n 1, 1) := by decide +kernel
theorem d_M_put_18 : decode mi_M_put.2.1 18 = .ok (.iastore, 1) := by decide +kernel
theorem d_M_put_19 : decode mi_M_put.2.1 19 = .ok (.aload_n 0, 1) := by decide +kernel
theorem d_M_put_20 : decode mi_M_put.2.1 20 = .ok (.dup, 1) := by decide +kernel
theorem d_M_put_21 : decode mi_M_put.2.1 21 = .ok (.getfield 125, 3) := by decide +kernel
theorem d_M_put_24 : decode mi_M_put.2.1 24 = .ok (.iconst 1, 1) := by decide +kernel
theorem d_M_put_25 : decode mi_M_put.2.1 25 = .ok (.iadd, 1) := by decide +kernel
theorem d_M_put_26 : decode mi_M_put.2.1 26 = .ok (.putfield 125, 3) := by decide +kernel
theorem d_M_put_29 : decode mi_M_put.2.1 29 = .ok (.return_, 1) := by decide +kernel
theorem d_M_putNumber_0 : decode mi_M_putNumber.2.1 0 = .ok (.iconst 0, 1) := by decide +kernel
theorem d_M_putNumber_1 : decode mi_M_putNumber.2.1 1 = .ok (.istore_n 2, 1) := by decide +kernel
theorem d_M_putNumber_2 : decode mi_M_putNumber.2.1 2 = .ok (.iconst 0, 1) := by decide +kernel
theorem d_M_putNumber_3 : decode mi_M_putNumber.2.1 3 = .ok (.istore_n 3, 1) := by decide +kernel
theorem d_M_putNumber_4 : decode mi_M_putNumber.2.1 4 = .ok (.iload_n 3, 1) := by decide +kernel
theorem d_M_putNumber_5 : decode mi_M_putNumber.2.1 5 = .ok (.iload_n 1, 1) := by decide +kernel
theorem d_M_putNumber_6 : decode mi_M_putNumber.2.1 6 = .ok (.if_icmp .ge 40, 3) := by decide +kernel
theorem d_M_putNumber_9 : decode mi_M_putNumber.2.1 9 = .ok (.aload_n 0, 1) := by decide +kernel
theorem d_M_putNumber_10 : decode mi_M_putNumber.2.1 10 = .ok (.invokevirtual 164, 3) := by decide +kernel
theorem d_M_putNumber_13 : decode mi_M_putNumber.2.1 13 = .ok (.istore 4, 2) := by decide +kernel
theorem d_M_putNumber_15 : decode mi_M_putNumber.2.1 15 = .ok (.aload_n 0, 1) := by decide +kernel
theorem d_M_putNumber_16 : decode mi_M_putNumber.2.1 16 = .ok (.iload 4, 2) := by decide +kernel
theorem d_M_putNumber_18 : decode mi_M_putNumber.2.1 18 = .ok (.invokevirtual 175, 3) := by decide +kernel
theorem d_M_putNumber_21 : decode mi_M_putNumber.2.1 21 = .ok (.iload_n 3, 1) := by decide +kernel
theorem d_M_putNumber_22 : decode mi_M_putNumber.2.1 22 = .ok (.iconst 4, 1) := by decide +kernel
theorem d_M_putNumber_23 : decode mi_M_putNumber.2.1 23 = .ok (.if_icmp .ge 15, 3) := by decide +kernel
theorem d_M_putNumber_26 : decode mi_M_putNumber.2.1 26 = .ok (.iload_n 2, 1) := by decide +kernel
theorem d_M_putNumber_27 : decode mi_M_putNumber.2.1 27 = .ok (.iload 4, 2) := by decide +kernel
theorem d_M_putNumber_29 : decode mi_M_putNumber.2.1 29 = .ok (.bipush 8, 2) := by decide +kernel
theorem d_M_putNumber_31 : decode mi_M_putNumber.2.1 31 = .ok (.iload_n 3, 1) := by decide +kernel
theorem d_M_putNumber_32 : decode mi_M_putNumber.2.1 32 = .ok (.imul, 1) := by decide +kernel
theorem d_M_putNumber_33 : decode mi_M_putNumber.2.1 33 = .ok (.ishl, 1) := by decide +kernel
theorem d_M_putNumber_34 : decode mi_M_putNumber.2.1 34 = .ok (.ior, 1) := by decide +kernel
theorem d_M_putNumber_35 : decode mi_M_putNumber.2.1 35 = .ok (.goto 4, 3) := by decide +kernel
theorem d_M_putNumber_38 : decode mi_M_putNumber.2.1 38 = .ok (.iload_n 2, 1) := by decide +kernel
theorem d_M_putNumber_39 : decode mi_M_putNumber.2.1 39 = .ok (.istore_n 2, 1) := by decide +kernel
theorem d_M_putNumber_40 : decode mi_M_putNumber.2.1 40 = .ok (.iinc 3 1, 3) := by decide +kernel
theorem d_M_putNumber_43 : decode mi_M_putNumber.2.1 43 = .ok (.goto (-39), 3) := by decide +kernel
theorem d_M_putNumber_46 : decode mi_M_putNumber.2.1 46 = .ok (.iload_n 2, 1) := by decide +kernel
theorem d_M_putNumber_47 : decode mi_M_putNumber.2.1 47 = .ok (.ireturn, 1) := by decide +kernel
theorem d_M_readPlain_0 : decode mi_M_readPlain.2.1 0 = .ok (.iload_n 1, 1) := by decide +kernel
theorem d_M_readPlain_1 : decode mi_M_readPlain.2.1 1 = .ok (.iconst 1, 1) := by decide +kernel
theorem d_M_readPlain_2 : decode mi_M_readPlain.2.1 2 = .ok (.if_icmp .ne 25, 3) := by decide +kernel
theorem d_M_readPlain_5 : decode mi_M_readPlain.2.1 5 = .ok (.aload_n 0, 1) := by decide +kernel
theorem d_M_readPlain_6 : decode mi_M_readPlain.2.1 6 = .ok (.invokevirtual 164, 3) := by decide +kernel
theorem d_M_readPlain_9 : decode mi_M_readPlain.2.1 9 = .ok (.istore_n 2, 1) := by decide +kernel
theorem d_M_readPlain_10 : decode mi_M_readPlain.2.1 10 = .ok (.aload_n 0, 1) := by decide +kernel
theorem d_M_readPlain_11 : decode mi_M_readPlain.2.1 11 = .ok (.iload_n 2, 1) := by decide +kernel
theorem d_M_readPlain_12 : decode mi_M_readPlain.2.1 12 = .ok (.iconst 1, 1) := by decide +kernel
theorem d_M_readPlain_13 : decode mi_M_readPlain.2.1 13 = .ok (.if_icmp .le 7, 3) := by decide +kernel
theorem d_M_readPlain_16 : decode mi_M_readPlain.2.1 16 = .ok (.iconst 1, 1) := by decide +kernel
theorem d_M_readPlain_17 : decode mi_M_readPlain.2.1 17 = .ok (.goto 4, 3) := by decide +kernel
theorem d_M_readPlain_20 : decode mi_M_readPlain.2.1 20 = .ok (.iload_n 2, 1) := by decide +kernel
theorem d_M_readPlain_21 : decode mi_M_readPlain.2.1 21 = .ok (.invokevirtual 175, 3) := by decide +kernel
theorem d_M_readPlain_24 : decode mi_M_readPlain.2.1 24 = .ok (.goto 119, 3) := by decide +kernel
theorem d_M_readPlain_27 : decode mi_M_readPlain.2.1 27 = .ok (.iload_n 1, 1) := by decide +kernel
theorem d_M_readPlain_28 : decode mi_M_readPlain.2.1 28 = .ok (.bipush 6, 2) := by decide +kernel
theorem d_M_readPlain_30 : decode mi_M_readPlain.2.1 30 = .ok (.if_icmp .eq 9, 3) := by decide +kernel
theorem d_M_readPlain_33 : decode mi_M_readPlain.2.1 33 = .ok (.iload_n 1, 1) := by decide +kernel
theorem d_M_readPlain_34 : decode mi_M_readPlain.2.1 34 = .ok (.bipush 8, 2) := by decide +kernel
theorem d_M_readPlain_36 : decode mi_M_readPlain.2.1 36 = .ok (.if_icmp .ne 23, 3) := by decide +kernel
theorem d_M_readPlain_39 : decode mi_M_readPlain.2.1 39 = .ok (.aload_n 0, 1) := by decide +kernel
theorem d_M_readPlain_40 : decode mi_M_readPlain.2.1 40 = .ok (.iload_n 1, 1) := by decide +kernel
theorem d_M_readPlain_41 : decode mi_M_readPlain.2.1 41 = .ok (.bipush 6, 2) := by decide +kernel
theorem d_M_readPlain_43 : decode mi_M_readPlain.2.1 43 = .ok (.if_icmp .ne 7, 3) := by decide +kernel
theorem d_M_readPlain_46 : decode mi_M_readPlain.2.1 46 = .ok (.iconst 4, 1) := by decide +kernel
theorem d_M_readPlain_47 : decode mi_M_readPlain.2.1 47 = .ok (.goto 5, 3) := by decide +kernel
theorem d_M_readPlain_50 : decode mi_M_readPlain.2.1 50 = .ok (.bipush 8, 2) := by decide +kernel
theorem d_M_readPlain_52 : decode mi_M_readPlain.2.1 52 = .ok (.invokevirtual 178, 3) := by decide +kernel
theorem d_M_readPlain_55 : decode mi_M_readPlain.2.1 55 = .ok (.pop, 1) := by decide +kernel
theorem d_M_readPlain_56 : decode mi_M_readPlain.2.1 56 = .ok (.goto 87, 3) := by decide +kernel
theorem d_M_readPlain_59 : decode mi_M_readPlain.2.1 59 = .ok (.iload_n 1, 1) := by decide +kernel
theorem d_M_readPlain_60 : decode mi_M_readPlain.2.1 60 = .ok (.bipush 12, 2) := by decide +kernel
theorem d_M_readPlain_62 : decode mi_M_readPlain.2.1 62 = .ok (.if_icmp .ne 61, 3) := by decide +kernel
theorem d_M_readPlain_65 : decode mi_M_readPlain.2.1 65 = .ok (.aload_n 0, 1) := by decide +kernel
theorem d_M_readPlain_66 : decode mi_M_readPlain.2.1 66 = .ok (.iconst 4, 1) := by decide +kernel
theorem d_M_readPlain_67 : decode mi_M_readPlain.2.1 67 = .ok (.invokevirtual 178, 3) := by decide +kernel
theorem d_M_readPlain_70 : decode mi_M_readPlain.2.1 70 = .ok (.istore_n 2, 1) := by decide +kernel
theorem d_M_readPlain_71 : decode mi_M_readPlain.2.1 71 = .ok (.aload_n 0, 1) := by decide +kernel
theorem d_M_readPlain_72 : decode mi_M_readPlain.2.1 72 = .ok (.aload_n 0, 1) := by decide +kernel
theorem d_M_readPlain_73 : decode mi_M_readPlain.2.1 73 = .ok (.getfield 161, 3) := by decide +kernel
theorem d_M_readPlain_76 : decode mi_M_readPlain.2.1 76 = .ok (.ifCond .eq 12, 3) := by decide +kernel
theorem d_M_readPlain_79 : decode mi_M_readPlain.2.1 79 = .ok (.iload_n 2, 1) := by decide +kernel
theorem d_M_readPlain_80 : decode mi_M_readPlain.2.1 80 = .ok (.iconst (-1), 1) := by decide +kernel
theorem d_M_readPlain_81 : decode mi_M_readPlain.2.1 81 = .ok (.if_icmp .lt 7, 3) := by decide +kernel
theorem d_M_readPlain_84 : decode mi_M_readPlain.2.1 84 = .ok (.iconst 1, 1) := by decide +kernel
theorem d_M_readPlain_85 : decode mi_M_readPlain.2.1 85 = .ok (.goto 4, 3) := by decide +kernel
theorem d_M_readPlain_88 : decode mi_M_readPlain.2.1 88 = .ok (.iconst 0, 1) := by decide +kernel
theorem d_M_readPlain_89 : decode mi_M_readPlain.2.1 89 = .ok (.putfield 161, 3) := by decide +kernel
theorem d_M_readPlain_92 : decode mi_M_readPlain.2.1 92 = .ok (.iconst 0, 1) := by decide +kernel
theorem d_M_readPlain_93 : decode mi_M_readPlain.2.1 93 = .ok (.istore_n 3, 1) := by decide +kernel
theorem d_M_readPlain_94 : decode mi_M_readPlain.2.1 94 = .ok (.iload_n 3, 1) := by decide +kernel
theorem d_M_readPlain_95 : decode mi_M_readPlain.2.1 95 = .ok (.iload_n 2, 1) := by decide +kernel
theorem d_M_readPlain_96 : decode mi_M_readPlain.2.1 96 = .ok (.if_icmp .ge 24, 3) := by decide +kernel
theorem d_M_readPlain_99 : decode mi_M_readPlain.2.1 99 = .ok (.aload_n 0, 1) := by decide +kernel
theorem d_M_readPlain_100 : decode mi_M_readPlain.2.1 100 = .ok (.getfield 161, 3) := by decide +kernel
theorem d_M_readPlain_103 : decode mi_M_readPlain.2.1 103 = .ok (.ifCond .eq 17, 3) := by decide +kernel
theorem d_M_readPlain_106 : decode mi_M_readPlain.2.1 106 = .ok (.aload_n 0, 1) := by decide +kernel
theorem d_M_readPlain_107 : decode mi_M_readPlain.2.1 107 = .ok (.aload_n 0, 1) := by decide +kernel
theorem d_M_readPlain_108 : decode mi_M_readPlain.2.1 108 = .ok (.invokevirtual 164, 3) := by decide +kernel
theorem d_M_readPlain_111 : decode mi_M_readPlain.2.1 111 = .ok (.invokevirtual 175, 3) := by decide +kernel
theorem d_M_readPlain_114 : decode mi_M_readPlain.2.1 114 = .ok (.iinc 3 1, 3) := by decide +kernel
theorem d_M_readPlain_117 : decode mi_M_readPlain.2.1 117 = .ok (.goto (-23), 3) := by decide +kernel
theorem d_M_readPlain_120 : decode mi_M_readPlain.2.1 120 = .ok (.goto 23, 3) := by decide +kernel
theorem d_M_readPlain_123 : decode mi_M_readPlain.2.1 123 = .ok (.aload_n 0, 1) := by decide +kernel
theorem d_M_readPlain_124 : decode mi_M_readPlain.2.1 124 = .ok (.aload_n 0, 1) := by decide +kernel
theorem d_M_readPlain_125 : decode mi_M_readPlain.2.1 125 = .ok (.getfield 161, 3) := by decide +kernel
theorem d_M_readPlain_128 : decode mi_M_readPlain.2.1 128 = .ok (.ifCond .eq 11, 3) := by decide +kernel
theorem d_M_readPlain_131 : decode mi_M_readPlain.2.1 131 = .ok (.iload_n 1, 1) := by decide +kernel
theorem d_M_readPlain_132 : decode mi_M_readPlain.2.1 132 = .ok (.ifCond .ne 7, 3) := by decide +kernel
theorem d_M_readPlain_135 : decode mi_M_readPlain.2.1 135 = .ok (.iconst 1, 1) := by decide +kernel
theorem d_M_readPlain_136 : decode mi_M_readPlain.2.1 136 = .ok (.goto 4, 3) := by decide +kernel
theorem d_M_readPlain_139 : decode mi_M_readPlain.2.1 139 = .ok (.iconst 0, 1) := by decide +kernel
theorem d_M_readPlain_140 : decode mi_M_readPlain.2.1 140 = .ok (.putfield 161, 3) := by decide +kernel
theorem d_M_readPlain_143 : decode mi_M_readPlain.2.1 143 = .ok (.return_, 1) := by decide +kernel
theorem d_M_browse_0 : decode mi_M_browse.2.1 0 = .ok (.aload_n 0, 1) := by decide +kernel
theorem d_M_browse_1 : decode mi_M_browse.2.1 1 = .ok (.invokevirtual 208, 3) := by decide +kernel
theorem d_M_browse_4 : decode mi_M_browse.2.1 4 = .ok (.aload_n 0, 1) := by decide +kernel
theorem d_M_browse_5 : decode mi_M_browse.2.1 5 = .ok (.invokevirtual 164, 3) := by decide +kernel
theorem d_M_browse_8 : decode mi_M_browse.2.1 8 = .ok (.istore_n 1, 1) := by decide +kernel
theorem d_M_browse_9 : decode mi_M_browse.2.1 9 = .ok (.aload_n 0, 1) := by decide +kernel
theorem d_M_browse_10 : decode mi_M_browse.2.1 10 = .ok (.invokevirtual 211, 3) := by decide +kernel
theorem d_M_browse_13 : decode mi_M_browse.2.1 13 = .ok (.ifCond .eq 8, 3) := by decide +kernel
theorem d_M_browse_16 : decode mi_M_browse.2.1 16 = .ok (.iload_n 1, 1) := by decide +kernel
theorem d_M_browse_17 : decode mi_M_browse.2.1 17 = .ok (.iconst 1, 1) := by decide +kernel
theorem d_M_browse_18 : decode mi_M_browse.2.1 18 = .ok (.if_icmp .le 4, 3) := by decide +kernel
theorem d_M_browse_21 : decode mi_M_browse.2.1 21 = .ok (.return_, 1) := by decide +kernel
theorem d_M_browse_22 : decode mi_M_browse.2.1 22 = .ok (.aload_n 0, 1) := by decide +kernel
theorem d_M_browse_23 : decode mi_M_browse.2.1 23 = .ok (.getfield 168, 3) := by decide +kernel
theorem d_M_browse_26 : decode mi_M_browse.2.1 26 = .ok (.ifCond .ge 9, 3) := by decide +kernel
theorem d_M_browse_29 : decode mi_M_browse.2.1 29 = .ok (.aload_n 0, 1) := by decide +kernel
theorem d_M_browse_30 : decode mi_M_browse.2.1 30 = .ok (.iconst 3, 1) := by decide +kernel
theorem d_M_browse_31 : decode mi_M_browse.2.1 31 = .ok (.invokevirtual 187, 3) := by decide +kernel
theorem d_M_browse_34 : decode mi_M_browse.2.1 34 = .ok (.return_, 1) := by decide +kernel
theorem d_M_browse_35 : decode mi_M_browse.2.1 35 = .ok (.aload_n 0, 1) := by decide +kernel
theorem d_M_browse_36 : decode mi_M_browse.2.1 36 = .ok (.iconst 0, 1) := by decide +kernel
theorem d_M_browse_37 : decode mi_M_browse.2.1 37 = .ok (.invokevirtual 187, 3) := by decide +kernel
theorem d_M_browse_40 : decode mi_M_browse.2.1 40 = .ok (.aload_n 0, 1) := by decide +kernel
theorem d_M_browse_41 : decode mi_M_browse.2.1 41 = .ok (.iconst 0, 1) := by decide +kernel
theorem d_M_browse_42 : decode mi_M_browse.2.1 42 = .ok (.invokevirtual 184, 3) := by decide +kernel
theorem d_M_browse_45 : decode mi_M_browse.2.1 45 = .ok (.iconst 0, 1) := by decide +kernel
theorem d_M_browse_46 : decode mi_M_browse.2.1 46 = .ok (.istore_n 2, 1) := by decide +kernel
theorem d_M_browse_47 : decode mi_M_browse.2.1 47 = .ok (.iload_n 2, 1) := by decide +kernel
theorem d_M_browse_48 : decode mi_M_browse.2.1 48 = .ok (.aload_n 0, 1) := by decide +kernel
theorem d_M_browse_49 : decode mi_M_browse.2.1 49 = .ok (.getfield 7, 3) := by decide +kernel
theorem d_M_browse_52 : decode mi_M_browse.2.1 52 = .ok (.if_icmp .ge 66, 3) := by decide +kernel
theorem d_M_browse_55 : decode mi_M_browse.2.1 55 = .ok (.iload_n 1, 1) := by decide +kernel
theorem d_M_browse_56 : decode mi_M_browse.2.1 56 = .ok (.ifCond .ne 23, 3) := by decide +kernel
theorem d_M_browse_59 : decode mi_M_browse.2.1 59 = .ok (.iload_n 2, 1) := by decide +kernel
theorem d_M_browse_60 : decode mi_M_browse.2.1 60 = .ok (.ifCond .le 52, 3) := by decide +kernel
theorem d_M_browse_63 : decode mi_M_browse.2.1 63 = .ok (.aload_n 0, 1) := by decide +kernel
theorem d_M_browse_64 : decode mi_M_browse.2.1 64 = .ok (.getfield 13, 3) := by decide +kernel
theorem d_M_browse_67 : decode mi_M_browse.2.1 67 = .ok (.iload_n 2, 1) := by decide +kernel
theorem d_M_browse_68 : decode mi_M_browse.2.1 68 = .ok (.iaload, 1) := by decide +kernel
theorem d_M_browse_69 : decode mi_M_browse.2.1 69 = .ok (.aload_n 0, 1) := by decide +kernel
theorem d_M_browse_70 : decode mi_M_browse.2.1 70 = .ok (.getfield 168, 3) := by decide +kernel
theorem d_M_browse_73 : decode mi_M_browse.2.1 73 = .ok (.if_icmp .ne 39, 3) := by decide +kernel
theorem d_M_browse_76 : decode mi_M_browse.2.1 76 = .ok (.goto 16, 3) := by decide +kernel
theorem d_M_browse_79 : decode mi_M_browse.2.1 79 = .ok (.aload_n 0, 1) := by decide +kernel
theorem d_M_browse_80 : decode mi_M_browse.2.1 80 = .ok (.getfield 13, 3) := by decide +kernel
theorem d_M_browse_83 : decode mi_M_browse.2.1 83 = .ok (.aload_n 0, 1) := by decide +kernel
theorem d_M_browse_84 : decode mi_M_browse.2.1 84 = .ok (.getfield 168, 3) := by decide +kernel
theorem d_M_browse_87 : decode mi_M_browse.2.1 87 = .ok (.iaload, 1) := by decide +kernel
theorem d_M_browse_88 : decode mi_M_browse.2.1 88 = .ok (.iload_n 2, 1) := by decide +kernel
theorem d_M_browse_89 : decode mi_M_browse.2.1 89 = .ok (.if_icmp .ne 23, 3) := by decide +kernel
theorem d_M_browse_92 : decode mi_M_browse.2.1 92 = .ok (.aload_n 0, 1) := by decide +kernel
theorem d_M_browse_93 : decode mi_M_browse.2.1 93 = .ok (.getfield 69, 3) := by decide +kernel
theorem d_M_browse_96 : decode mi_M_browse.2.1 96 = .ok (.iconst 1, 1) := by decide +kernel
theorem d_M_browse_97 : decode mi_M_browse.2.1 97 = .ok (.dup2, 1) := by decide +kernel
theorem d_M_browse_98 : decode mi_M_browse.2.1 98 = .ok (.iaload, 1) := by decide +kernel
theorem d_M_browse_99 : decode mi_M_browse.2.1 99 = .ok (.iconst 1, 1) := by decide +kernel
theorem d_M_browse_100 : decode mi_M_browse.2.1 100 = .ok (.iadd, 1) := by decide +kernel
theorem d_M_browse_101 : decode mi_M_browse.2.1 101 = .ok (.iastore, 1) := by decide +kernel
theorem d_M_browse_102 : decode mi_M_browse.2.1 102 = .ok (.aload_n 0, 1) := by decide +kernel
theorem d_M_browse_103 : decode mi_M_browse.2.1 103 = .ok (.iconst 0, 1) := by decide +kernel
theorem d_M_browse_104 : decode mi_M_browse.2.1 104 = .ok (.invokevirtual 184, 3) := by decide +kernel
theorem d_M_browse_107 : decode mi_M_browse.2.1 107 = .ok (.aload_n 0, 1) := by decide +kernel
theorem d_M_browse_108 : decode mi_M_browse.2.1 108 = .ok (.iload_n 2, 1) := by decide +kernel
theorem d_M_browse_109 : decode mi_M_browse.2.1 109 = .ok (.invokevirtual 184, 3) := by decide +kernel
theorem d_M_browse_112 : decode mi_M_browse.2.1 112 = .ok (.iinc 2 1, 3) := by decide +kernel
theorem d_M_browse_115 : decode mi_M_browse.2.1 115 = .ok (.goto (-68), 3) := by decide +kernel
theorem d_M_browse_118 : decode mi_M_browse.2.1 118 = .ok (.return_, 1) := by decide +kernel
theorem d_M_watch_0 : decode mi_M_watch.2.1 0 = .ok (.aload_n 0, 1) := by decide +kernel
theorem d_M_watch_1 : decode mi_M_watch.2.1 1 = .ok (.invokevirtual 208, 3) := by decide +kernel
theorem d_M_watch_4 : decode mi_M_watch.2.1 4 = .ok (.aload_n 0, 1) := by decide +kernel
theorem d_M_watch_5 : decode mi_M_watch.2.1 5 = .ok (.invokevirtual 164, 3) := by decide +kernel
theorem d_M_watch_8 : decode mi_M_watch.2.1 8 = .ok (.istore_n 1, 1) := by decide +kernel
theorem d_M_watch_9 : decode mi_M_watch.2.1 9 = .ok (.aload_n 0, 1) := by decide +kernel
theorem d_M_watch_10 : decode mi_M_watch.2.1 10 = .ok (.invokevirtual 164, 3) := by decide +kernel
theorem d_M_watch_13 : decode mi_M_watch.2.1 13 = .ok (.istore_n 2, 1) := by decide +kernel
theorem d_M_watch_14 : decode mi_M_watch.2.1 14 = .ok (.aload_n 0, 1) := by decide +kernel
theorem d_M_watch_15 : decode mi_M_watch.2.1 15 = .ok (.invokevirtual 211, 3) := by decide +kernel
theorem d_M_watch_18 : decode mi_M_watch.2.1 18 = .ok (.ifCond .ne 4, 3) := by decide +kernel
theorem d_M_watch_21 : decode mi_M_watch.2.1 21 = .ok (.return_, 1) := by decide +kernel
theorem d_M_watch_22 : decode mi_M_watch.2.1 22 = .ok (.aload_n 0, 1) := by decide +kernel
theorem d_M_watch_23 : decode mi_M_watch.2.1 23 = .ok (.getfield 168, 3) := by decide +kernel
theorem d_M_watch_26 : decode mi_M_watch.2.1 26 = .ok (.ifCond .lt 15, 3) := by decide +kernel
theorem d_M_watch_29 : decode mi_M_watch.2.1 29 = .ok (.aload_n 0, 1) := by decide +kernel
theorem d_M_watch_30 : decode mi_M_watch.2.1 30 = .ok (.getfield 17, 3) := by decide +kernel
theorem d_M_watch_33 : decode mi_M_watch.2.1 33 = .ok (.aload_n 0, 1) := by decide +kernel
theorem d_M_watch_34 : decode mi_M_watch.2.1 34 = .ok (.getfield 168, 3) := by decide +kernel
theorem d_M_watch_37 : decode mi_M_watch.2.1 37 = .ok (.baload, 1) := by decide +kernel
theorem d_M_watch_38 : decode mi_M_watch.2.1 38 = .ok (.ifCond .ne 20, 3) := by decide +kernel
theorem d_M_watch_41 : decode mi_M_watch.2.1 41 = .ok (.aload_n 0, 1) := by decide +kernel
theorem d_M_watch_42 : decode mi_M_watch.2.1 42 = .ok (.aload_n 0, 1) := by decide +kernel
theorem d_M_watch_43 : decode mi_M_watch.2.1 43 = .ok (.getfield 168, 3) := by decide +kernel
theorem d_M_watch_46 : decode mi_M_watch.2.1 46 = .ok (.ifCond .ge 7, 3) := by decide +kernel
theorem d_M_watch_49 : decode mi_M_watch.2.1 49 = .ok (.iconst 3, 1) := by decide +kernel
theorem d_M_watch_50 : decode mi_M_watch.2.1 50 = .ok (.goto 4, 3) := by decide +kernel
theorem d_M_watch_53 : decode mi_M_watch.2.1 53 = .ok (.iconst 4, 1) := by decide +kernel
theorem d_M_watch_54 : decode mi_M_watch.2.1 54 = .ok (.invokevirtual 187, 3) := by decide +kernel
theorem d_M_watch_57 : decode mi_M_watch.2.1 57 = .ok (.return_, 1) := by decide +kernel
theorem d_M_watch_58 : decode mi_M_watch.2.1 58 = .ok (.aload_n 0, 1) := by decide +kernel
theorem d_M_watch_59 : decode mi_M_watch.2.1 59 = .ok (.getfield 82, 3) := by decide +kernel
theorem d_M_watch_62 : decode mi_M_watch.2.1 62 = .ok (.bipush 6, 2) := by decide +kernel
theorem d_M_watch_64 : decode mi_M_watch.2.1 64 = .ok (.if_icmp .ne 10, 3) := by decide +kernel
theorem d_M_watch_67 : decode mi_M_watch.2.1 67 = .ok (.aload_n 0, 1) := by decide +kernel
theorem d_M_watch_68 : decode mi_M_watch.2.1 68 = .ok (.bipush 6, 2) := by decide +kernel
theorem d_M_watch_70 : decode mi_M_watch.2.1 70 = .ok (.invokevirtual 187, 3) := by decide +kernel
theorem d_M_watch_73 : decode mi_M_watch.2.1 73 = .ok (.return_, 1) := by decide +kernel
theorem d_M_watch_74 : decode mi_M_watch.2.1 74 = .ok (.aload_n 0, 1) := by decide +kernel
theorem d_M_watch_75 : decode mi_M_watch.2.1 75 = .ok (.getfield 30, 3) := by decide +kernel
theorem d_M_watch_78 : decode mi_M_watch.2.1 78 = .ok (.aload_n 0, 1) := by decide +kernel
theorem d_M_watch_79 : decode mi_M_watch.2.1 79 = .ok (.getfield 82, 3) := by decide +kernel
theorem d_M_watch_82 : decode mi_M_watch.2.1 82 = .ok (.aload_n 0, 1) := by decide +kernel
theorem d_M_watch_83 : decode mi_M_watch.2.1 83 = .ok (.getfield 168, 3) := by decide +kernel
theorem d_M_watch_86 : decode mi_M_watch.2.1 86 = .ok (.iastore, 1) := by decide +kernel
theorem d_M_watch_87 : decode mi_M_watch.2.1 87 = .ok (.aload_n 0, 1) := by decide +kernel
theorem d_M_watch_88 : decode mi_M_watch.2.1 88 = .ok (.getfield 33, 3) := by decide +kernel
theorem d_M_watch_91 : decode mi_M_watch.2.1 91 = .ok (.aload_n 0, 1) := by decide +kernel
theorem d_M_watch_92 : decode mi_M_watch.2.1 92 = .ok (.getfield 82, 3) := by decide +kernel
theorem d_M_watch_95 : decode mi_M_watch.2.1 95 = .ok (.iload_n 1, 1) := by decide +kernel
theorem d_M_watch_96 : decode mi_M_watch.2.1 96 = .ok (.ifCond .ne 7, 3) := by decide +kernel
theorem d_M_watch_99 : decode mi_M_watch.2.1 99 = .ok (.iconst 1, 1) := by decide +kernel
theorem d_M_watch_100 : decode mi_M_watch.2.1 100 = .ok (.goto 13, 3) := by decide +kernel
theorem d_M_watch_103 : decode mi_M_watch.2.1 103 = .ok (.iload_n 1, 1) := by decide +kernel
theorem d_M_watch_104 : decode mi_M_watch.2.1 104 = .ok (.iconst 4, 1) := by decide +kernel
theorem d_M_watch_105 : decode mi_M_watch.2.1 105 = .ok (.if_icmp .le 7, 3) := by decide +kernel
theorem d_M_watch_108 : decode mi_M_watch.2.1 108 = .ok (.iconst 4, 1) := by decide +kernel
theorem d_M_watch_109 : decode mi_M_watch.2.1 109 = .ok (.goto 4, 3) := by decide +kernel
theorem d_M_watch_112 : decode mi_M_watch.2.1 112 = .ok (.iload_n 1, 1) := by decide +kernel
theorem d_M_watch_113 : decode mi_M_watch.2.1 113 = .ok (.iastore, 1) := by decide +kernel
theorem d_M_watch_114 : decode mi_M_watch.2.1 114 = .ok (.aload_n 0, 1) := by decide +kernel
theorem d_M_watch_115 : decode mi_M_watch.2.1 115 = .ok (.getfield 36, 3) := by decide +kernel
theorem d_M_watch_118 : decode mi_M_watch.2.1 118 = .ok (.aload_n 0, 1) := by decide +kernel
theorem d_M_watch_119 : decode mi_M_watch.2.1 119 = .ok (.getfield 82, 3) := by decide +kernel
theorem d_M_watch_122 : decode mi_M_watch.2.1 122 = .ok (.iload_n 2, 1) := by decide +kernel
theorem d_M_watch_123 : decode mi_M_watch.2.1 123 = .ok (.ifCond .eq 7, 3) := by decide +kernel
theorem d_M_watch_126 : decode mi_M_watch.2.1 126 = .ok (.iconst 1, 1) := by decide +kernel
theorem d_M_watch_127 : decode mi_M_watch.2.1 127 = .ok (.goto 4, 3) := by decide +kernel
theorem d_M_watch_130 : decode mi_M_watch.2.1 130 = .ok (.iconst 0, 1) := by decide +kernel
theorem d_M_watch_131 : decode mi_M_watch.2.1 131 = .ok (.bastore, 1) := by decide +kernel
theorem d_M_watch_132 : decode mi_M_watch.2.1 132 = .ok (.aload_n 0, 1) := by decide +kernel
theorem d_M_watch_133 : decode mi_M_watch.2.1 133 = .ok (.getfield 39, 3) := by decide +kernel
theorem d_M_watch_136 : decode mi_M_watch.2.1 136 = .ok (.aload_n 0, 1) := by decide +kernel
theorem d_M_watch_137 : decode mi_M_watch.2.1 137 = .ok (.getfield 82, 3) := by decide +kernel
theorem d_M_watch_140 : decode mi_M_watch.2.1 140 = .ok (.iconst 0, 1) := by decide +kernel
theorem d_M_watch_141 : decode mi_M_watch.2.1 141 = .ok (.iastore, 1) := by decide +kernel
theorem d_M_watch_142 : decode mi_M_watch.2.1 142 = .ok (.aload_n 0, 1) := by decide +kernel
theorem d_M_watch_143 : decode mi_M_watch.2.1 143 = .ok (.aload_n 0, 1) := by decide +kernel
theorem d_M_watch_144 : decode mi_M_watch.2.1 144 = .ok (.getfield 82, 3) := by decide +kernel
theorem d_M_watch_147 : decode mi_M_watch.2.1 147 = .ok (.aload_n 0, 1) := by decide +kernel
theorem d_M_watch_148 : decode mi_M_watch.2.1 148 = .ok (.getfield 168, 3) := by decide +kernel
theorem d_M_watch_151 : decode mi_M_watch.2.1 151 = .ok (.iconst 0, 1) := by decide +kernel
theorem d_M_watch_152 : decode mi_M_watch.2.1 152 = .ok (.invokevirtual 121, 3) := by decide +kernel
theorem d_M_watch_155 : decode mi_M_watch.2.1 155 = .ok (.aload_n 0, 1) := by decide +kernel
theorem d_M_watch_156 : decode mi_M_watch.2.1 156 = .ok (.dup, 1) := by decide +kernel
theorem d_M_watch_157 : decode mi_M_watch.2.1 157 = .ok (.getfield 82, 3) := by decide +kernel
theorem d_M_watch_160 : decode mi_M_watch.2.1 160 = .ok (.iconst 1, 1) := by decide +kernel
theorem d_M_watch_161 : decode mi_M_watch.2.1 161 = .ok (.iadd, 1) := by decide +kernel
theorem d_M_watch_162 : decode mi_M_watch.2.1 162 = .ok (.putfield 82, 3) := by decide +kernel
theorem d_M_watch_165 : decode mi_M_watch.2.1 165 = .ok (.aload_n 0, 1) := by decide +kernel
theorem d_M_watch_166 : decode mi_M_watch.2.1 166 = .ok (.iconst 0, 1) := by decide +kernel
theorem d_M_watch_167 : decode mi_M_watch.2.1 167 = .ok (.invokevirtual 187, 3) := by decide +kernel
theorem d_M_watch_170 : decode mi_M_watch.2.1 170 = .ok (.aload_n 0, 1) := by decide +kernel
theorem d_M_watch_171 : decode mi_M_watch.2.1 171 = .ok (.aload_n 0, 1) := by decide +kernel
theorem d_M_watch_172 : decode mi_M_watch.2.1 172 = .ok (.getfield 82, 3) := by decide +kernel
theorem d_M_watch_175 : decode mi_M_watch.2.1 175 = .ok (.iconst 1, 1) := by decide +kernel
theorem d_M_watch_176 : decode mi_M_watch.2.1 176 = .ok (.isub, 1) := by decide +kernel
theorem d_M_watch_177 : decode mi_M_watch.2.1 177 = .ok (.invokevirtual 184, 3) := by decide +kernel
theorem d_M_watch_180 : decode mi_M_watch.2.1 180 = .ok (.return_, 1) := by decide +kernel
theorem d_M_publish_0 : decode mi_M_publish.2.1 0 = .ok (.aload_n 0, 1) := by decide +kernel
theorem d_M_publish_1 : decode mi_M_publish.2.1 1 = .ok (.invokevirtual 164, 3) := by decide +kernel
theorem d_M_publish_4 : decode mi_M_publish.2.1 4 = .ok (.istore_n 1, 1) := by decide +kernel
theorem d_M_publish_5 : decode mi_M_publish.2.1 5 = .ok (.aload_n 0, 1) := by decide +kernel
theorem d_M_publish_6 : decode mi_M_publish.2.1 6 = .ok (.getfield 158, 3) := by decide +kernel
theorem d_M_publish_9 : decode mi_M_publish.2.1 9 = .ok (.istore_n 2, 1) := by decide +kernel
theorem d_M_publish_10 : decode mi_M_publish.2.1 10 = .ok (.iconst 0, 1) := by decide +kernel
theorem d_M_publish_11 : decode mi_M_publish.2.1 11 = .ok (.istore_n 3, 1) := by decide +kernel
theorem d_M_publish_12 : decode mi_M_publish.2.1 12 = .ok (.iload_n 3, 1) := by decide +kernel
theorem d_M_publish_13 : decode mi_M_publish.2.1 13 = .ok (.iload_n 1, 1) := by decide +kernel
theorem d_M_publish_14 : decode mi_M_publish.2.1 14 = .ok (.if_icmp .ge 20, 3) := by decide +kernel
theorem d_M_publish_17 : decode mi_M_publish.2.1 17 = .ok (.iload_n 1, 1) := by decide +kernel
theorem d_M_publish_18 : decode mi_M_publish.2.1 18 = .ok (.iconst 4, 1) := by decide +kernel
theorem d_M_publish_19 : decode mi_M_publish.2.1 19 = .ok (.if_icmp .gt 15, 3) := by decide +kernel
theorem d_M_publish_22 : decode mi_M_publish.2.1 22 = .ok (.aload_n 0, 1) := by decide +kernel
theorem d_M_publish_23 : decode mi_M_publish.2.1 23 = .ok (.iconst 4, 1) := by decide +kernel
theorem d_M_publish_24 : decode mi_M_publish.2.1 24 = .ok (.invokevirtual 171, 3) := by decide +kernel
theorem d_M_publish_27 : decode mi_M_publish.2.1 27 = .ok (.pop, 1) := by decide +kernel
theorem d_M_publish_28 : decode mi_M_publish.2.1 28 = .ok (.iinc 3 1, 3) := by decide +kernel
theorem d_M_publish_31 : decode mi_M_publish.2.1 31 = .ok (.goto (-19), 3) := by decide +kernel
theorem d_M_publish_34 : decode mi_M_publish.2.1 34 = .ok (.aload_n 0, 1) := by decide +kernel
theorem d_M_publish_35 : decode mi_M_publish.2.1 35 = .ok (.invokevirtual 211, 3) := by decide +kernel
theorem d_M_publish_38 : decode mi_M_publish.2.1 38 = .ok (.ifCond .eq 8, 3) := by decide +kernel
theorem d_M_publish_41 : decode mi_M_publish.2.1 41 = .ok (.iload_n 1, 1) := by decide +kernel
theorem d_M_publish_42 : decode mi_M_publish.2.1 42 = .ok (.iconst 4, 1) := by decide +kernel
theorem d_M_publish_43 : decode mi_M_publish.2.1 43 = .ok (.if_icmp .le 4, 3) := by decide +kernel
theorem d_M_publish_46 : decode mi_M_publish.2.1 46 = .ok (.return_, 1) := by decide +kernel
theorem d_M_publish_47 : decode mi_M_publish.2.1 47 = .ok (.aload_n 0, 1) := by decide +kernel
theorem d_M_publish_48 : decode mi_M_publish.2.1 48 = .ok (.iload_n 2, 1) := by decide +kernel
theorem d_M_publish_49 : decode mi_M_publish.2.1 49 = .ok (.putfield 158, 3) := by decide +kernel
theorem d_M_publish_52 : decode mi_M_publish.2.1 52 = .ok (.iconst 0, 1) := by decide +kernel
theorem d_M_publish_53 : decode mi_M_publish.2.1 53 = .ok (.istore_n 3, 1) := by decide +kernel
theorem d_M_publish_54 : decode mi_M_publish.2.1 54 = .ok (.iload_n 3, 1) := by decide +kernel
theorem d_M_publish_55 : decode mi_M_publish.2.1 55 = .ok (.iload_n 1, 1) := by decide +kernel
theorem d_M_publish_56 : decode mi_M_publish.2.1 56 = .ok (.if_icmp .ge 35, 3) := by decide +kernel
theorem d_M_publish_59 : decode mi_M_publish.2.1 59 = .ok (.aload_n 0, 1) := by decide +kernel
theorem d_M_publish_60 : decode mi_M_publish.2.1 60 = .ok (.iconst 4, 1) := by decide +kernel
theorem d_M_publish_61 : decode mi_M_publish.2.1 61 = .ok (.invokevirtual 171, 3) := by decide +kernel
theorem d_M_publish_64 : decode mi_M_publish.2.1 64 = .ok (.istore 4, 2) := by decide +kernel
theorem d_M_publish_66 : decode mi_M_publish.2.1 66 = .ok (.aload_n 0, 1) := by decide +kernel
theorem d_M_publish_67 : decode mi_M_publish.2.1 67 = .ok (.iload 4, 2) := by decide +kernel
theorem d_M_publish_69 : decode mi_M_publish.2.1 69 = .ok (.invokevirtual 218, 3) := by decide +kernel
theorem d_M_publish_72 : decode mi_M_publish.2.1 72 = .ok (.istore 5, 2) := by decide +kernel
theorem d_M_publish_74 : decode mi_M_publish.2.1 74 = .ok (.iload 5, 2) := by decide +kernel
theorem d_M_publish_76 : decode mi_M_publish.2.1 76 = .ok (.ifCond .lt 9, 3) := by decide +kernel
theorem d_M_publish_79 : decode mi_M_publish.2.1 79 = .ok (.aload_n 0, 1) := by decide +kernel
theorem d_M_publish_80 : decode mi_M_publish.2.1 80 = .ok (.iload 5, 2) := by decide +kernel
theorem d_M_publish_82 : decode mi_M_publish.2.1 82 = .ok (.invokevirtual 221, 3) := by decide +kernel
theorem d_M_publish_85 : decode mi_M_publish.2.1 85 = .ok (.iinc 3 1, 3) := by decide +kernel
theorem d_M_publish_88 : decode mi_M_publish.2.1 88 = .ok (.goto (-34), 3) := by decide +kernel
theorem d_M_publish_91 : decode mi_M_publish.2.1 91 = .ok (.aload_n 0, 1) := by decide +kernel
theorem d_M_publish_92 : decode mi_M_publish.2.1 92 = .ok (.invokevirtual 224, 3) := by decide +kernel
theorem d_M_publish_95 : decode mi_M_publish.2.1 95 = .ok (.ifCond .ge 10, 3) := by decide +kernel
theorem d_M_publish_98 : decode mi_M_publish.2.1 98 = .ok (.aload_n 0, 1) := by decide +kernel
theorem d_M_publish_99 : decode mi_M_publish.2.1 99 = .ok (.bipush 7, 2) := by decide +kernel
theorem d_M_publish_101 : decode mi_M_publish.2.1 101 = .ok (.invokevirtual 187, 3) := by decide +kernel
theorem d_M_publish_104 : decode mi_M_publish.2.1 104 = .ok (.return_, 1) := by decide +kernel
theorem d_M_publish_105 : decode mi_M_publish.2.1 105 = .ok (.aload_n 0, 1) := by decide +kernel
theorem d_M_publish_106 : decode mi_M_publish.2.1 106 = .ok (.dup, 1) := by decide +kernel
theorem d_M_publish_107 : decode mi_M_publish.2.1 107 = .ok (.getfield 88, 3) := by decide +kernel
theorem d_M_publish_110 : decode mi_M_publish.2.1 110 = .ok (.iconst 1, 1) := by decide +kernel
theorem d_M_publish_111 : decode mi_M_publish.2.1 111 = .ok (.iadd, 1) := by decide +kernel
theorem d_M_publish_112 : decode mi_M_publish.2.1 112 = .ok (.putfield 88, 3) := by decide +kernel
theorem d_M_publish_115 : decode mi_M_publish.2.1 115 = .ok (.aload_n 0, 1) := by decide +kernel
theorem d_M_publish_116 : decode mi_M_publish.2.1 116 = .ok (.iconst 0, 1) := by decide +kernel
theorem d_M_publish_117 : decode mi_M_publish.2.1 117 = .ok (.invokevirtual 187, 3) := by decide +kernel
theorem d_M_publish_120 : decode mi_M_publish.2.1 120 = .ok (.aload_n 0, 1) := by decide +kernel
theorem d_M_publish_121 : decode mi_M_publish.2.1 121 = .ok (.aload_n 0, 1) := by decide +kernel
theorem d_M_publish_122 : decode mi_M_publish.2.1 122 = .ok (.getfield 88, 3) := by decide +kernel
theorem d_M_publish_125 : decode mi_M_publish.2.1 125 = .ok (.invokevirtual 227, 3) := by decide +kernel
theorem d_M_publish_128 : decode mi_M_publish.2.1 128 = .ok (.aload_n 0, 1) := by decide +kernel
theorem d_M_publish_129 : decode mi_M_publish.2.1 129 = .ok (.iconst 0, 1) := by decide +kernel
theorem d_M_publish_130 : decode mi_M_publish.2.1 130 = .ok (.invokevirtual 184, 3) := by decide +kernel
theorem d_M_publish_133 : decode mi_M_publish.2.1 133 = .ok (.iconst 0, 1) := by decide +kernel
theorem d_M_publish_134 : decode mi_M_publish.2.1 134 = .ok (.istore_n 3, 1) := by decide +kernel
theorem d_M_publish_135 : decode mi_M_publish.2.1 135 = .ok (.iload_n 3, 1) := by decide +kernel
theorem d_M_publish_136 : decode mi_M_publish.2.1 136 = .ok (.iconst 3, 1) := by decide +kernel
theorem d_M_publish_137 : decode mi_M_publish.2.1 137 = .ok (.if_icmp .ge 44, 3) := by decide +kernel
theorem d_M_publish_140 : decode mi_M_publish.2.1 140 = .ok (.aload_n 0, 1) := by decide +kernel
theorem d_M_publish_141 : decode mi_M_publish.2.1 141 = .ok (.invokevirtual 224, 3) := by decide +kernel
theorem d_M_publish_144 : decode mi_M_publish.2.1 144 = .ok (.ifCond .lt 37, 3) := by decide +kernel
theorem d_M_publish_147 : decode mi_M_publish.2.1 147 = .ok (.aload_n 0, 1) := by decide +kernel
theorem d_M_publish_148 : decode mi_M_publish.2.1 148 = .ok (.invokevirtual 224, 3) := by decide +kernel
theorem d_M_publish_151 : decode mi_M_publish.2.1 151 = .ok (.istore 4, 2) := by decide +kernel
theorem d_M_publish_153 : decode mi_M_publish.2.1 153 = .ok (.aload_n 0, 1) := by decide +kernel
theorem d_M_publish_154 : decode mi_M_publish.2.1 154 = .ok (.getfield 69, 3) := by decide +kernel
theorem d_M_publish_157 : decode mi_M_publish.2.1 157 = .ok (.iconst 5, 1) := by decide +kernel
theorem d_M_publish_158 : decode mi_M_publish.2.1 158 = .ok (.dup2, 1) := by decide +kernel
theorem d_M_publish_159 : decode mi_M_publish.2.1 159 = .ok (.iaload, 1) := by decide +kernel
theorem d_M_publish_160 : decode mi_M_publish.2.1 160 = .ok (.iconst 1, 1) := by decide +kernel
theorem d_M_publish_161 : decode mi_M_publish.2.1 161 = .ok (.iadd, 1) := by decide +kernel
theorem d_M_publish_162 : decode mi_M_publish.2.1 162 = .ok (.iastore, 1) := by decide +kernel
theorem d_M_publish_163 : decode mi_M_publish.2.1 163 = .ok (.aload_n 0, 1) := by decide +kernel
theorem d_M_publish_164 : decode mi_M_publish.2.1 164 = .ok (.iload 4, 2) := by decide +kernel
theorem d_M_publish_166 : decode mi_M_publish.2.1 166 = .ok (.invokevirtual 230, 3) := by decide +kernel
theorem d_M_publish_169 : decode mi_M_publish.2.1 169 = .ok (.aload_n 0, 1) := by decide +kernel
theorem d_M_publish_170 : decode mi_M_publish.2.1 170 = .ok (.iload 4, 2) := by decide +kernel
theorem d_M_publish_172 : decode mi_M_publish.2.1 172 = .ok (.invokevirtual 117, 3) := by decide +kernel
theorem d_M_publish_175 : decode mi_M_publish.2.1 175 = .ok (.iinc 3 1, 3) := by decide +kernel
theorem d_M_publish_178 : decode mi_M_publish.2.1 178 = .ok (.goto (-43), 3) := by decide +kernel
theorem d_M_publish_181 : decode mi_M_publish.2.1 181 = .ok (.aload_n 0, 1) := by decide +kernel
theorem d_M_publish_182 : decode mi_M_publish.2.1 182 = .ok (.invokevirtual 233, 3) := by decide +kernel
theorem d_M_publish_185 : decode mi_M_publish.2.1 185 = .ok (.return_, 1) := by decide +kernel
theorem d_M_find_0 : decode mi_M_find.2.1 0 = .ok (.iconst (-1), 1) := by decide +kernel
theorem d_M_find_1 : decode mi_M_find.2.1 1 = .ok (.istore_n 2, 1) := by decide +kernel
theorem d_M_find_2 : decode mi_M_find.2.1 2 = .ok (.iconst 0, 1) := by decide +kernel
theorem d_M_find_3 : decode mi_M_find.2.1 3 = .ok (.istore_n 3, 1) := by decide +kernel
theorem d_M_find_4 : decode mi_M_find.2.1 4 = .ok (.iload_n 3, 1) := by decide +kernel
theorem d_M_find_5 : decode mi_M_find.2.1 5 = .ok (.aload_n 0, 1) := by decide +kernel
theorem d_M_find_6 : decode mi_M_find.2.1 6 = .ok (.getfield 85, 3) := by decide +kernel
theorem d_M_find_9 : decode mi_M_find.2.1 9 = .ok (.if_icmp .ge 25, 3) := by decide +kernel
theorem d_M_find_12 : decode mi_M_find.2.1 12 = .ok (.aload_n 0, 1) := by decide +kernel
theorem d_M_find_13 : decode mi_M_find.2.1 13 = .ok (.getfield 51, 3) := by decide +kernel
theorem d_M_find_16 : decode mi_M_find.2.1 16 = .ok (.iload_n 3, 1) := by decide +kernel
theorem d_M_find_17 : decode mi_M_find.2.1 17 = .ok (.iaload, 1) := by decide +kernel
theorem d_M_find_18 : decode mi_M_find.2.1 18 = .ok (.iload_n 1, 1) := by decide +kernel
theorem d_M_find_19 : decode mi_M_find.2.1 19 = .ok (.if_icmp .ne 7, 3) := by decide +kernel
theorem d_M_find_22 : decode mi_M_find.2.1 22 = .ok (.iload_n 3, 1) := by decide +kernel
theorem d_M_find_23 : decode mi_M_find.2.1 23 = .ok (.goto 4, 3) := by decide +kernel
theorem d_M_find_26 : decode mi_M_find.2.1 26 = .ok (.iload_n 2, 1) := by decide +kernel
theorem d_M_find_27 : decode mi_M_find.2.1 27 = .ok (.istore_n 2, 1) := by decide +kernel
theorem d_M_find_28 : decode mi_M_find.2.1 28 = .ok (.iinc 3 1, 3) := by decide +kernel
theorem d_M_find_31 : decode mi_M_find.2.1 31 = .ok (.goto (-27), 3) := by decide +kernel
theorem d_M_find_34 : decode mi_M_find.2.1 34 = .ok (.iload_n 2, 1) := by decide +kernel
theorem d_M_find_35 : decode mi_M_find.2.1 35 = .ok (.ireturn, 1) := by decide +kernel
theorem d_M_dropParcel_0 : decode mi_M_dropParcel.2.1 0 = .ok (.aload_n 0, 1) := by decide +kernel
theorem d_M_dropParcel_1 : decode mi_M_dropParcel.2.1 1 = .ok (.dup, 1) := by decide +kernel
theorem d_M_dropParcel_2 : decode mi_M_dropParcel.2.1 2 = .ok (.getfield 85, 3) := by decide +kernel
theorem d_M_dropParcel_5 : decode mi_M_dropParcel.2.1 5 = .ok (.iconst 1, 1) := by decide +kernel
theorem d_M_dropParcel_6 : decode mi_M_dropParcel.2.1 6 = .ok (.isub, 1) := by decide +kernel
theorem d_M_dropParcel_7 : decode mi_M_dropParcel.2.1 7 = .ok (.putfield 85, 3) := by decide +kernel
theorem d_M_dropParcel_10 : decode mi_M_dropParcel.2.1 10 = .ok (.iload_n 1, 1) := by decide +kernel
theorem d_M_dropParcel_11 : decode mi_M_dropParcel.2.1 11 = .ok (.istore_n 2, 1) := by decide +kernel
theorem d_M_dropParcel_12 : decode mi_M_dropParcel.2.1 12 = .ok (.iload_n 2, 1) := by decide +kernel
theorem d_M_dropParcel_13 : decode mi_M_dropParcel.2.1 13 = .ok (.aload_n 0, 1) := by decide +kernel
theorem d_M_dropParcel_14 : decode mi_M_dropParcel.2.1 14 = .ok (.getfield 85, 3) := by decide +kernel
theorem d_M_dropParcel_17 : decode mi_M_dropParcel.2.1 17 = .ok (.if_icmp .ge 80, 3) := by decide +kernel
theorem d_M_dropParcel_20 : decode mi_M_dropParcel.2.1 20 = .ok (.aload_n 0, 1) := by decide +kernel
theorem d_M_dropParcel_21 : decode mi_M_dropParcel.2.1 21 = .ok (.getfield 51, 3) := by decide +kernel
theorem d_M_dropParcel_24 : decode mi_M_dropParcel.2.1 24 = .ok (.iload_n 2, 1) := by decide +kernel
theorem d_M_dropParcel_25 : decode mi_M_dropParcel.2.1 25 = .ok (.aload_n 0, 1) := by decide +kernel
theorem d_M_dropParcel_26 : decode mi_M_dropParcel.2.1 26 = .ok (.getfield 51, 3) := by decide +kernel
theorem d_M_dropParcel_29 : decode mi_M_dropParcel.2.1 29 = .ok (.iload_n 2, 1) := by decide +kernel
theorem d_M_dropParcel_30 : decode mi_M_dropParcel.2.1 30 = .ok (.iconst 1, 1) := by decide +kernel
theorem d_M_dropParcel_31 : decode mi_M_dropParcel.2.1 31 = .ok (.iadd, 1) := by decide +kernel
theorem d_M_dropParcel_32 : decode mi_M_dropParcel.2.1 32 = .ok (.iaload, 1) := by decide +kernel
theorem d_M_dropParcel_33 : decode mi_M_dropParcel.2.1 33 = .ok (.iastore, 1) := by decide +kernel
theorem d_M_dropParcel_34 : decode mi_M_dropParcel.2.1 34 = .ok (.aload_n 0, 1) := by decide +kernel
theorem d_M_dropParcel_35 : decode mi_M_dropParcel.2.1 35 = .ok (.getfield 54, 3) := by decide +kernel
theorem d_M_dropParcel_38 : decode mi_M_dropParcel.2.1 38 = .ok (.iload_n 2, 1) := by decide +kernel
theorem d_M_dropParcel_39 : decode mi_M_dropParcel.2.1 39 = .ok (.aload_n 0, 1) := by decide +kernel
theorem d_M_dropParcel_40 : decode mi_M_dropParcel.2.1 40 = .ok (.getfield 54, 3) := by decide +kernel
theorem d_M_dropParcel_43 : decode mi_M_dropParcel.2.1 43 = .ok (.iload_n 2, 1) := by decide +kernel
theorem d_M_dropParcel_44 : decode mi_M_dropParcel.2.1 44 = .ok (.iconst 1, 1) := by decide +kernel
theorem d_M_dropParcel_45 : decode mi_M_dropParcel.2.1 45 = .ok (.iadd, 1) := by decide +kernel
theorem d_M_dropParcel_46 : decode mi_M_dropParcel.2.1 46 = .ok (.iaload, 1) := by decide +kernel
theorem d_M_dropParcel_47 : decode mi_M_dropParcel.2.1 47 = .ok (.iastore, 1) := by decide +kernel
theorem d_M_dropParcel_48 : decode mi_M_dropParcel.2.1 48 = .ok (.iconst 0, 1) := by decide +kernel
theorem d_M_dropParcel_49 : decode mi_M_dropParcel.2.1 49 = .ok (.istore_n 3, 1) := by decide +kernel
theorem d_M_dropParcel_50 : decode mi_M_dropParcel.2.1 50 = .ok (.iload_n 3, 1) := by decide +kernel
theorem d_M_dropParcel_51 : decode mi_M_dropParcel.2.1 51 = .ok (.sipush 200, 3) := by decide +kernel
theorem d_M_dropParcel_54 : decode mi_M_dropParcel.2.1 54 = .ok (.if_icmp .ge 37, 3) := by decide +kernel
theorem d_M_dropParcel_57 : decode mi_M_dropParcel.2.1 57 = .ok (.aload_n 0, 1) := by decide +kernel
theorem d_M_dropParcel_58 : decode mi_M_dropParcel.2.1 58 = .ok (.getfield 57, 3) := by decide +kernel
theorem d_M_dropParcel_61 : decode mi_M_dropParcel.2.1 61 = .ok (.sipush 200, 3) := by decide +kernel
theorem d_M_dropParcel_64 : decode mi_M_dropParcel.2.1 64 = .ok (.iload_n 2, 1) := by decide +kernel
theorem d_M_dropParcel_65 : decode mi_M_dropParcel.2.1 65 = .ok (.imul, 1) := by decide +kernel
theorem d_M_dropParcel_66 : decode mi_M_dropParcel.2.1 66 = .ok (.iload_n 3, 1) := by decide +kernel
theorem d_M_dropParcel_67 : decode mi_M_dropParcel.2.1 67 = .ok (.iadd, 1) := by decide +kernel
theorem d_M_dropParcel_68 : decode mi_M_dropParcel.2.1 68 = .ok (.aload_n 0, 1) := by decide +kernel
theorem d_M_dropParcel_69 : decode mi_M_dropParcel.2.1 69 = .ok (.getfield 57, 3) := by decide +kernel
theorem d_M_dropParcel_72 : decode mi_M_dropParcel.2.1 72 = .ok (.sipush 200, 3) := by decide +kernel
theorem d_M_dropParcel_75 : decode mi_M_dropParcel.2.1 75 = .ok (.iload_n 2, 1) := by decide +kernel
theorem d_M_dropParcel_76 : decode mi_M_dropParcel.2.1 76 = .ok (.imul, 1) := by decide +kernel
theorem d_M_dropParcel_77 : decode mi_M_dropParcel.2.1 77 = .ok (.sipush 200, 3) := by decide +kernel
theorem d_M_dropParcel_80 : decode mi_M_dropParcel.2.1 80 = .ok (.iadd, 1) := by decide +kernel
theorem d_M_dropParcel_81 : decode mi_M_dropParcel.2.1 81 = .ok (.iload_n 3, 1) := by decide +kernel
theorem d_M_dropParcel_82 : decode mi_M_dropParcel.2.1 82 = .ok (.iadd, 1) := by decide +kernel
theorem d_M_dropParcel_83 : decode mi_M_dropParcel.2.1 83 = .ok (.iaload, 1) := by decide +kernel
theorem d_M_dropParcel_84 : decode mi_M_dropParcel.2.1 84 = .ok (.iastore, 1) := by decide +kernel
theorem d_M_dropParcel_85 : decode mi_M_dropParcel.2.1 85 = .ok (.iinc 3 1, 3) := by decide +kernel
theorem d_M_dropParcel_88 : decode mi_M_dropParcel.2.1 88 = .ok (.goto (-38), 3) := by decide +kernel
theorem d_M_dropParcel_91 : decode mi_M_dropParcel.2.1 91 = .ok (.iinc 2 1, 3) := by decide +kernel
theorem d_M_dropParcel_94 : decode mi_M_dropParcel.2.1 94 = .ok (.goto (-82), 3) := by decide +kernel
theorem d_M_dropParcel_97 : decode mi_M_dropParcel.2.1 97 = .ok (.return_, 1) := by decide +kernel
theorem d_M_busy_0 : decode mi_M_busy.2.1 0 = .ok (.iconst (-1), 1) := by decide +kernel
theorem d_M_busy_1 : decode mi_M_busy.2.1 1 = .ok (.istore_n 1, 1) := by decide +kernel
theorem d_M_busy_2 : decode mi_M_busy.2.1 2 = .ok (.aload_n 0, 1) := by decide +kernel
theorem d_M_busy_3 : decode mi_M_busy.2.1 3 = .ok (.getfield 82, 3) := by decide +kernel
theorem d_M_busy_6 : decode mi_M_busy.2.1 6 = .ok (.iconst 1, 1) := by decide +kernel
theorem d_M_busy_7 : decode mi_M_busy.2.1 7 = .ok (.isub, 1) := by decide +kernel
theorem d_M_busy_8 : decode mi_M_busy.2.1 8 = .ok (.istore_n 2, 1) := by decide +kernel
theorem d_M_busy_9 : decode mi_M_busy.2.1 9 = .ok (.iload_n 2, 1) := by decide +kernel
theorem d_M_busy_10 : decode mi_M_busy.2.1 10 = .ok (.ifCond .lt 24, 3) := by decide +kernel
theorem d_M_busy_13 : decode mi_M_busy.2.1 13 = .ok (.aload_n 0, 1) := by decide +kernel
theorem d_M_busy_14 : decode mi_M_busy.2.1 14 = .ok (.getfield 39, 3) := by decide +kernel
theorem d_M_busy_17 : decode mi_M_busy.2.1 17 = .ok (.iload_n 2, 1) := by decide +kernel
theorem d_M_busy_18 : decode mi_M_busy.2.1 18 = .ok (.iaload, 1) := by decide +kernel
theorem d_M_busy_19 : decode mi_M_busy.2.1 19 = .ok (.ifCond .le 7, 3) := by decide +kernel
theorem d_M_busy_22 : decode mi_M_busy.2.1 22 = .ok (.iload_n 2, 1) := by decide +kernel
theorem d_M_busy_23 : decode mi_M_busy.2.1 23 = .ok (.goto 4, 3) := by decide +kernel
theorem d_M_busy_26 : decode mi_M_busy.2.1 26 = .ok (.iload_n 1, 1) := by decide +kernel
theorem d_M_busy_27 : decode mi_M_busy.2.1 27 = .ok (.istore_n 1, 1) := by decide +kernel
theorem d_M_busy_28 : decode mi_M_busy.2.1 28 = .ok (.iinc 2 (-1), 3) := by decide +kernel
theorem d_M_busy_31 : decode mi_M_busy.2.1 31 = .ok (.goto (-22), 3) := by decide +kernel
theorem d_M_busy_34 : decode mi_M_busy.2.1 34 = .ok (.iload_n 1, 1) := by decide +kernel
theorem d_M_busy_35 : decode mi_M_busy.2.1 35 = .ok (.ireturn, 1) := by decide +kernel
theorem d_M_sayNumber_0 : decode mi_M_sayNumber.2.1 0 = .ok (.iconst 0, 1) := by decide +kernel
theorem d_M_sayNumber_1 : decode mi_M_sayNumber.2.1 1 = .ok (.istore_n 2, 1) := by decide +kernel
theorem d_M_sayNumber_2 : decode mi_M_sayNumber.2.1 2 = .ok (.iload_n 2, 1) := by decide +kernel
theorem d_M_sayNumber_3 : decode mi_M_sayNumber.2.1 3 = .ok (.iconst 4, 1) := by decide +kernel
theorem d_M_sayNumber_4 : decode mi_M_sayNumber.2.1 4 = .ok (.if_icmp .ge 23, 3) := by decide +kernel
theorem d_M_sayNumber_7 : decode mi_M_sayNumber.2.1 7 = .ok (.aload_n 0, 1) := by decide +kernel
theorem d_M_sayNumber_8 : decode mi_M_sayNumber.2.1 8 = .ok (.iload_n 1, 1) := by decide +kernel
theorem d_M_sayNumber_9 : decode mi_M_sayNumber.2.1 9 = .ok (.bipush 8, 2) := by decide +kernel
theorem d_M_sayNumber_11 : decode mi_M_sayNumber.2.1 11 = .ok (.iload_n 2, 1) := by decide +kernel
theorem d_M_sayNumber_12 : decode mi_M_sayNumber.2.1 12 = .ok (.imul, 1) := by decide +kernel
theorem d_M_sayNumber_13 : decode mi_M_sayNumber.2.1 13 = .ok (.ishr, 1) := by decide +kernel
theorem d_M_sayNumber_14 : decode mi_M_sayNumber.2.1 14 = .ok (.sipush 255, 3) := by decide +kernel
theorem d_M_sayNumber_17 : decode mi_M_sayNumber.2.1 17 = .ok (.iand, 1) := by decide +kernel
theorem d_M_sayNumber_18 : decode mi_M_sayNumber.2.1 18 = .ok (.invokevirtual 184, 3) := by decide +kernel
theorem d_M_sayNumber_21 : decode mi_M_sayNumber.2.1 21 = .ok (.iinc 2 1, 3) := by decide +kernel
theorem d_M_sayNumber_24 : decode mi_M_sayNumber.2.1 24 = .ok (.goto (-22), 3) := by decide +kernel
theorem d_M_sayNumber_27 : decode mi_M_sayNumber.2.1 27 = .ok (.return_, 1) := by decide +kernel
theorem d_M_sayNotice_0 : decode mi_M_sayNotice.2.1 0 = .ok (.aload_n 0, 1) := by decide +kernel
theorem d_M_sayNotice_1 : decode mi_M_sayNotice.2.1 1 = .ok (.iload_n 1, 1) := by decide +kernel
theorem d_M_sayNotice_2 : decode mi_M_sayNotice.2.1 2 = .ok (.invokevirtual 184, 3) := by decide +kernel
theorem d_M_sayNotice_5 : decode mi_M_sayNotice.2.1 5 = .ok (.iconst 0, 1) := by decide +kernel
theorem d_M_sayNotice_6 : decode mi_M_sayNotice.2.1 6 = .ok (.istore_n 2, 1) := by decide +kernel
theorem d_M_sayNotice_7 : decode mi_M_sayNotice.2.1 7 = .ok (.iload_n 2, 1) := by decide +kernel
theorem d_M_sayNotice_8 : decode mi_M_sayNotice.2.1 8 = .ok (.aload_n 0, 1) := by decide +kernel
theorem d_M_sayNotice_9 : decode mi_M_sayNotice.2.1 9 = .ok (.getfield 42, 3) := by decide +kernel
theorem d_M_sayNotice_12 : decode mi_M_sayNotice.2.1 12 = .ok (.iconst 4, 1) := by decide +kernel
theorem d_M_sayNotice_13 : decode mi_M_sayNotice.2.1 13 = .ok (.iload_n 1, 1) := by decide +kernel
theorem d_M_sayNotice_14 : decode mi_M_sayNotice.2.1 14 = .ok (.imul, 1) := by decide +kernel
theorem d_M_sayNotice_15 : decode mi_M_sayNotice.2.1 15 = .ok (.iaload, 1) := by decide +kernel
theorem d_M_sayNotice_16 : decode mi_M_sayNotice.2.1 16 = .ok (.if_icmp .ge 25, 3) := by decide +kernel
theorem d_M_sayNotice_19 : decode mi_M_sayNotice.2.1 19 = .ok (.aload_n 0, 1) := by decide +kernel
theorem d_M_sayNotice_20 : decode mi_M_sayNotice.2.1 20 = .ok (.aload_n 0, 1) := by decide +kernel
theorem d_M_sayNotice_21 : decode mi_M_sayNotice.2.1 21 = .ok (.getfield 48, 3) := by decide +kernel
theorem d_M_sayNotice_24 : decode mi_M_sayNotice.2.1 24 = .ok (.sipush 256, 3) := by decide +kernel
theorem d_M_sayNotice_27 : decode mi_M_sayNotice.2.1 27 = .ok (.iload_n 1, 1) := by decide +kernel
theorem d_M_sayNotice_28 : decode mi_M_sayNotice.2.1 28 = .ok (.imul, 1) := by decide +kernel
theorem d_M_sayNotice_29 : decode mi_M_sayNotice.2.1 29 = .ok (.iload_n 2, 1) := by decide +kernel
theorem d_M_sayNotice_30 : decode mi_M_sayNotice.2.1 30 = .ok (.iadd, 1) := by decide +kernel
theorem d_M_sayNotice_31 : decode mi_M_sayNotice.2.1 31 = .ok (.iaload, 1) := by decide +kernel
theorem d_M_sayNotice_32 : decode mi_M_sayNotice.2.1 32 = .ok (.invokevirtual 184, 3) := by decide +kernel
theorem d_M_sayNotice_35 : decode mi_M_sayNotice.2.1 35 = .ok (.iinc 2 1, 3) := by decide +kernel
theorem d_M_sayNotice_38 : decode mi_M_sayNotice.2.1 38 = .ok (.goto (-31), 3) := by decide +kernel
theorem d_M_sayNotice_41 : decode mi_M_sayNotice.2.1 41 = .ok (.aload_n 0, 1) := by decide +kernel
theorem d_M_sayNotice_42 : decode mi_M_sayNotice.2.1 42 = .ok (.aload_n 0, 1) := by decide +kernel
theorem d_M_sayNotice_43 : decode mi_M_sayNotice.2.1 43 = .ok (.getfield 45, 3) := by decide +kernel
theorem d_M_sayNotice_46 : decode mi_M_sayNotice.2.1 46 = .ok (.iconst 4, 1) := by decide +kernel
theorem d_M_sayNotice_47 : decode mi_M_sayNotice.2.1 47 = .ok (.iload_n 1, 1) := by decide +kernel
theorem d_M_sayNotice_48 : decode mi_M_sayNotice.2.1 48 = .ok (.imul, 1) := by decide +kernel
theorem d_M_sayNotice_49 : decode mi_M_sayNotice.2.1 49 = .ok (.iaload, 1) := by decide +kernel
theorem d_M_sayNotice_50 : decode mi_M_sayNotice.2.1 50 = .ok (.invokevirtual 184, 3) := by decide +kernel
theorem d_M_sayNotice_53 : decode mi_M_sayNotice.2.1 53 = .ok (.return_, 1) := by decide +kernel
theorem d_M_keep_0 : decode mi_M_keep.2.1 0 = .ok (.aload_n 0, 1) := by decide +kernel
theorem d_M_keep_1 : decode mi_M_keep.2.1 1 = .ok (.getfield 85, 3) := by decide +kernel
theorem d_M_keep_4 : decode mi_M_keep.2.1 4 = .ok (.iconst 3, 1) := by decide +kernel
theorem d_M_keep_5 : decode mi_M_keep.2.1 5 = .ok (.if_icmp .ne 8, 3) := by decide +kernel
theorem d_M_keep_8 : decode mi_M_keep.2.1 8 = .ok (.aload_n 0, 1) := by decide +kernel
theorem d_M_keep_9 : decode mi_M_keep.2.1 9 = .ok (.iconst 0, 1) := by decide +kernel
theorem d_M_keep_10 : decode mi_M_keep.2.1 10 = .ok (.invokevirtual 221, 3) := by decide +kernel
theorem d_M_keep_13 : decode mi_M_keep.2.1 13 = .ok (.aload_n 0, 1) := by decide +kernel
theorem d_M_keep_14 : decode mi_M_keep.2.1 14 = .ok (.getfield 51, 3) := by decide +kernel
theorem d_M_keep_17 : decode mi_M_keep.2.1 17 = .ok (.aload_n 0, 1) := by decide +kernel
theorem d_M_keep_18 : decode mi_M_keep.2.1 18 = .ok (.getfield 85, 3) := by decide +kernel
theorem d_M_keep_21 : decode mi_M_keep.2.1 21 = .ok (.aload_n 0, 1) := by decide +kernel
theorem d_M_keep_22 : decode mi_M_keep.2.1 22 = .ok (.getfield 88, 3) := by decide +kernel
theorem d_M_keep_25 : decode mi_M_keep.2.1 25 = .ok (.iastore, 1) := by decide +kernel
theorem d_M_keep_26 : decode mi_M_keep.2.1 26 = .ok (.aload_n 0, 1) := by decide +kernel
theorem d_M_keep_27 : decode mi_M_keep.2.1 27 = .ok (.getfield 54, 3) := by decide +kernel
theorem d_M_keep_30 : decode mi_M_keep.2.1 30 = .ok (.aload_n 0, 1) := by decide +kernel
theorem d_M_keep_31 : decode mi_M_keep.2.1 31 = .ok (.getfield 85, 3) := by decide +kernel
theorem d_M_keep_34 : decode mi_M_keep.2.1 34 = .ok (.aload_n 0, 1) := by decide +kernel
theorem d_M_keep_35 : decode mi_M_keep.2.1 35 = .ok (.getfield 94, 3) := by decide +kernel
theorem d_M_keep_38 : decode mi_M_keep.2.1 38 = .ok (.iconst 1, 1) := by decide +kernel
theorem d_M_keep_39 : decode mi_M_keep.2.1 39 = .ok (.isub, 1) := by decide +kernel
theorem d_M_keep_40 : decode mi_M_keep.2.1 40 = .ok (.iastore, 1) := by decide +kernel
theorem d_M_keep_41 : decode mi_M_keep.2.1 41 = .ok (.iconst 1, 1) := by decide +kernel
theorem d_M_keep_42 : decode mi_M_keep.2.1 42 = .ok (.istore_n 1, 1) := by decide +kernel
theorem d_M_keep_43 : decode mi_M_keep.2.1 43 = .ok (.iload_n 1, 1) := by decide +kernel
theorem d_M_keep_44 : decode mi_M_keep.2.1 44 = .ok (.aload_n 0, 1) := by decide +kernel
theorem d_M_keep_45 : decode mi_M_keep.2.1 45 = .ok (.getfield 94, 3) := by decide +kernel
theorem d_M_keep_48 : decode mi_M_keep.2.1 48 = .ok (.if_icmp .ge 32, 3) := by decide +kernel
theorem d_M_keep_51 : decode mi_M_keep.2.1 51 = .ok (.aload_n 0, 1) := by decide +kernel
theorem d_M_keep_52 : decode mi_M_keep.2.1 52 = .ok (.getfield 57, 3) := by decide +kernel
theorem d_M_keep_55 : decode mi_M_keep.2.1 55 = .ok (.sipush 200, 3) := by decide +kernel
theorem d_M_keep_58 : decode mi_M_keep.2.1 58 = .ok (.aload_n 0, 1) := by decide +kernel
theorem d_M_keep_59 : decode mi_M_keep.2.1 59 = .ok (.getfield 85, 3) := by decide +kernel
theorem d_M_keep_62 : decode mi_M_keep.2.1 62 = .ok (.imul, 1) := by decide +kernel
theorem d_M_keep_63 : decode mi_M_keep.2.1 63 = .ok (.iload_n 1, 1) := by decide +kernel
theorem d_M_keep_64 : decode mi_M_keep.2.1 64 = .ok (.iadd, 1) := by decide +kernel
theorem d_M_keep_65 : decode mi_M_keep.2.1 65 = .ok (.iconst 1, 1) := by decide +kernel
theorem d_M_keep_66 : decode mi_M_keep.2.1 66 = .ok (.isub, 1) := by decide +kernel
theorem d_M_keep_67 : decode mi_M_keep.2.1 67 = .ok (.aload_n 0, 1) := by decide +kernel
theorem d_M_keep_68 : decode mi_M_keep.2.1 68 = .ok (.getfield 69, 3) := by decide +kernel
theorem d_M_keep_71 : decode mi_M_keep.2.1 71 = .ok (.iload_n 1, 1) := by decide +kernel
theorem d_M_keep_72 : decode mi_M_keep.2.1 72 = .ok (.iaload, 1) := by decide +kernel
theorem d_M_keep_73 : decode mi_M_keep.2.1 73 = .ok (.iastore, 1) := by decide +kernel
theorem d_M_keep_74 : decode mi_M_keep.2.1 74 = .ok (.iinc 1 1, 3) := by decide +kernel
theorem d_M_keep_77 : decode mi_M_keep.2.1 77 = .ok (.goto (-34), 3) := by decide +kernel
theorem d_M_keep_80 : decode mi_M_keep.2.1 80 = .ok (.aload_n 0, 1) := by decide +kernel
theorem d_M_keep_81 : decode mi_M_keep.2.1 81 = .ok (.dup, 1) := by decide +kernel
theorem d_M_keep_82 : decode mi_M_keep.2.1 82 = .ok (.getfield 85, 3) := by decide +kernel
theorem d_M_keep_85 : decode mi_M_keep.2.1 85 = .ok (.iconst 1, 1) := by decide +kernel
theorem d_M_keep_86 : decode mi_M_keep.2.1 86 = .ok (.iadd, 1) := by decide +kernel
theorem d_M_keep_87 : decode mi_M_keep.2.1 87 = .ok (.putfield 85, 3) := by decide +kernel
theorem d_M_keep_90 : decode mi_M_keep.2.1 90 = .ok (.return_, 1) := by decide +kernel
theorem d_M_again_0 : decode mi_M_again.2.1 0 = .ok (.aload_n 0, 1) := by decide +kernel
theorem d_M_again_1 : decode mi_M_again.2.1 1 = .ok (.iconst 4, 1) := by decide +kernel
theorem d_M_again_2 : decode mi_M_again.2.1 2 = .ok (.invokevirtual 171, 3) := by decide +kernel
theorem d_M_again_5 : decode mi_M_again.2.1 5 = .ok (.istore_n 1, 1) := by decide +kernel
theorem d_M_again_6 : decode mi_M_again.2.1 6 = .ok (.aload_n 0, 1) := by decide +kernel
theorem d_M_again_7 : decode mi_M_again.2.1 7 = .ok (.invokevirtual 211, 3) := by decide +kernel
theorem d_M_again_10 : decode mi_M_again.2.1 10 = .ok (.ifCond .ne 4, 3) := by decide +kernel
theorem d_M_again_13 : decode mi_M_again.2.1 13 = .ok (.return_, 1) := by decide +kernel
theorem d_M_again_14 : decode mi_M_again.2.1 14 = .ok (.aload_n 0, 1) := by decide +kernel
theorem d_M_again_15 : decode mi_M_again.2.1 15 = .ok (.iload_n 1, 1) := by decide +kernel
theorem d_M_again_16 : decode mi_M_again.2.1 16 = .ok (.invokevirtual 218, 3) := by decide +kernel
theorem d_M_again_19 : decode mi_M_again.2.1 19 = .ok (.istore_n 2, 1) := by decide +kernel
theorem d_M_again_20 : decode mi_M_again.2.1 20 = .ok (.iload_n 2, 1) := by decide +kernel
theorem d_M_again_21 : decode mi_M_again.2.1 21 = .ok (.ifCond .ge 10, 3) := by decide +kernel
theorem d_M_again_24 : decode mi_M_again.2.1 24 = .ok (.aload_n 0, 1) := by decide +kernel
theorem d_M_again_25 : decode mi_M_again.2.1 25 = .ok (.bipush 8, 2) := by decide +kernel
theorem d_M_again_27 : decode mi_M_again.2.1 27 = .ok (.invokevirtual 187, 3) := by decide +kernel
theorem d_M_again_30 : decode mi_M_again.2.1 30 = .ok (.return_, 1) := by decide +kernel
theorem d_M_again_31 : decode mi_M_again.2.1 31 = .ok (.aload_n 0, 1) := by decide +kernel
theorem d_M_again_32 : decode mi_M_again.2.1 32 = .ok (.iconst 0, 1) := by decide +kernel
theorem d_M_again_33 : decode mi_M_again.2.1 33 = .ok (.invokevirtual 187, 3) := by decide +kernel
theorem d_M_again_36 : decode mi_M_again.2.1 36 = .ok (.iconst 0, 1) := by decide +kernel
theorem d_M_again_37 : decode mi_M_again.2.1 37 = .ok (.istore_n 3, 1) := by decide +kernel
theorem d_M_again_38 : decode mi_M_again.2.1 38 = .ok (.iload_n 3, 1) := by decide +kernel
theorem d_M_again_39 : decode mi_M_again.2.1 39 = .ok (.aload_n 0, 1) := by decide +kernel
theorem d_M_again_40 : decode mi_M_again.2.1 40 = .ok (.getfield 54, 3) := by decide +kernel
theorem d_M_again_43 : decode mi_M_again.2.1 43 = .ok (.iload_n 2, 1) := by decide +kernel
theorem d_M_again_44 : decode mi_M_again.2.1 44 = .ok (.iaload, 1) := by decide +kernel
theorem d_M_again_45 : decode mi_M_again.2.1 45 = .ok (.if_icmp .ge 25, 3) := by decide +kernel
theorem d_M_again_48 : decode mi_M_again.2.1 48 = .ok (.aload_n 0, 1) := by decide +kernel
theorem d_M_again_49 : decode mi_M_again.2.1 49 = .ok (.aload_n 0, 1) := by decide +kernel
theorem d_M_again_50 : decode mi_M_again.2.1 50 = .ok (.getfield 57, 3) := by decide +kernel
theorem d_M_again_53 : decode mi_M_again.2.1 53 = .ok (.sipush 200, 3) := by decide +kernel
theorem d_M_again_56 : decode mi_M_again.2.1 56 = .ok (.iload_n 2, 1) := by decide +kernel
theorem d_M_again_57 : decode mi_M_again.2.1 57 = .ok (.imul, 1) := by decide +kernel
theorem d_M_again_58 : decode mi_M_again.2.1 58 = .ok (.iload_n 3, 1) := by decide +kernel
theorem d_M_again_59 : decode mi_M_again.2.1 59 = .ok (.iadd, 1) := by decide +kernel
theorem d_M_again_60 : decode mi_M_again.2.1 60 = .ok (.iaload, 1) := by decide +kernel
theorem d_M_again_61 : decode mi_M_again.2.1 61 = .ok (.invokevirtual 184, 3) := by decide +kernel
theorem d_M_again_64 : decode mi_M_again.2.1 64 = .ok (.iinc 3 1, 3) := by decide +kernel
theorem d_M_again_67 : decode mi_M_again.2.1 67 = .ok (.goto (-29), 3) := by decide +kernel
theorem d_M_again_70 : decode mi_M_again.2.1 70 = .ok (.return_, 1) := by decide +kernel
theorem d_M_part_0 : decode mi_M_part.2.1 0 = .ok (.aload_n 0, 1) := by decide +kernel
theorem d_M_part_1 : decode mi_M_part.2.1 1 = .ok (.getfield 79, 3) := by decide +kernel
theorem d_M_part_4 : decode mi_M_part.2.1 4 = .ok (.ifCond .eq 10, 3) := by decide +kernel
theorem d_M_part_7 : decode mi_M_part.2.1 7 = .ok (.aload_n 0, 1) := by decide +kernel
theorem d_M_part_8 : decode mi_M_part.2.1 8 = .ok (.getfield 140, 3) := by decide +kernel
theorem d_M_part_11 : decode mi_M_part.2.1 11 = .ok (.goto 4, 3) := by decide +kernel
theorem d_M_part_14 : decode mi_M_part.2.1 14 = .ok (.iconst (-1), 1) := by decide +kernel
theorem d_M_part_15 : decode mi_M_part.2.1 15 = .ok (.ireturn, 1) := by decide +kernel
theorem d_M_answerLength_0 : decode mi_M_answerLength.2.1 0 = .ok (.aload_n 0, 1) := by decide +kernel
theorem d_M_answerLength_1 : decode mi_M_answerLength.2.1 1 = .ok (.getfield 91, 3) := by decide +kernel
theorem d_M_answerLength_4 : decode mi_M_answerLength.2.1 4 = .ok (.ifCond .eq 10, 3) := by decide +kernel
theorem d_M_answerLength_7 : decode mi_M_answerLength.2.1 7 = .ok (.aload_n 0, 1) := by decide +kernel
theorem d_M_answerLength_8 : decode mi_M_answerLength.2.1 8 = .ok (.getfield 94, 3) := by decide +kernel
theorem d_M_answerLength_11 : decode mi_M_answerLength.2.1 11 = .ok (.goto 4, 3) := by decide +kernel
theorem d_M_answerLength_14 : decode mi_M_answerLength.2.1 14 = .ok (.iconst 0, 1) := by decide +kernel
theorem d_M_answerLength_15 : decode mi_M_answerLength.2.1 15 = .ok (.ireturn, 1) := by decide +kernel
theorem d_M_answer_0 : decode mi_M_answer.2.1 0 = .ok (.aload_n 0, 1) := by decide +kernel
theorem d_M_answer_1 : decode mi_M_answer.2.1 1 = .ok (.getfield 91, 3) := by decide +kernel
theorem d_M_answer_4 : decode mi_M_answer.2.1 4 = .ok (.ifCond .eq 24, 3) := by decide +kernel
theorem d_M_answer_7 : decode mi_M_answer.2.1 7 = .ok (.iload_n 1, 1) := by decide +kernel
theorem d_M_answer_8 : decode mi_M_answer.2.1 8 = .ok (.ifCond .lt 20, 3) := by decide +kernel
theorem d_M_answer_11 : decode mi_M_answer.2.1 11 = .ok (.iload_n 1, 1) := by decide +kernel
theorem d_M_answer_12 : decode mi_M_answer.2.1 12 = .ok (.aload_n 0, 1) := by decide +kernel
theorem d_M_answer_13 : decode mi_M_answer.2.1 13 = .ok (.getfield 94, 3) := by decide +kernel
theorem d_M_answer_16 : decode mi_M_answer.2.1 16 = .ok (.if_icmp .ge 12, 3) := by decide +kernel
theorem d_M_answer_19 : decode mi_M_answer.2.1 19 = .ok (.aload_n 0, 1) := by decide +kernel
theorem d_M_answer_20 : decode mi_M_answer.2.1 20 = .ok (.getfield 69, 3) := by decide +kernel
theorem d_M_answer_23 : decode mi_M_answer.2.1 23 = .ok (.iload_n 1, 1) := by decide +kernel
theorem d_M_answer_24 : decode mi_M_answer.2.1 24 = .ok (.iaload, 1) := by decide +kernel
theorem d_M_answer_25 : decode mi_M_answer.2.1 25 = .ok (.goto 4, 3) := by decide +kernel
theorem d_M_answer_28 : decode mi_M_answer.2.1 28 = .ok (.iconst (-1), 1) := by decide +kernel
theorem d_M_answer_29 : decode mi_M_answer.2.1 29 = .ok (.ireturn, 1) := by decide +kernel
theorem d_M_request_0 : decode mi_M_request.2.1 0 = .ok (.aload_n 0, 1) := by decide +kernel
theorem d_M_request_1 : decode mi_M_request.2.1 1 = .ok (.getfield 91, 3) := by decide +kernel
theorem d_M_request_4 : decode mi_M_request.2.1 4 = .ok (.ifCond .eq 10, 3) := by decide +kernel
theorem d_M_request_7 : decode mi_M_request.2.1 7 = .ok (.aload_n 0, 1) := by decide +kernel
theorem d_M_request_8 : decode mi_M_request.2.1 8 = .ok (.getfield 152, 3) := by decide +kernel
theorem d_M_request_11 : decode mi_M_request.2.1 11 = .ok (.goto 4, 3) := by decide +kernel
theorem d_M_request_14 : decode mi_M_request.2.1 14 = .ok (.iconst (-1), 1) := by decide +kernel
theorem d_M_request_15 : decode mi_M_request.2.1 15 = .ok (.ireturn, 1) := by decide +kernel
theorem d_M_queue_0 : decode mi_M_queue.2.1 0 = .ok (.iload_n 1, 1) := by decide +kernel
theorem d_M_queue_1 : decode mi_M_queue.2.1 1 = .ok (.ifCond .lt 20, 3) := by decide +kernel
theorem d_M_queue_4 : decode mi_M_queue.2.1 4 = .ok (.iload_n 1, 1) := by decide +kernel
theorem d_M_queue_5 : decode mi_M_queue.2.1 5 = .ok (.aload_n 0, 1) := by decide +kernel
theorem d_M_queue_6 : decode mi_M_queue.2.1 6 = .ok (.getfield 82, 3) := by decide +kernel
theorem d_M_queue_9 : decode mi_M_queue.2.1 9 = .ok (.if_icmp .ge 12, 3) := by decide +kernel
theorem d_M_queue_12 : decode mi_M_queue.2.1 12 = .ok (.aload_n 0, 1) := by decide +kernel
theorem d_M_queue_13 : decode mi_M_queue.2.1 13 = .ok (.getfield 39, 3) := by decide +kernel
theorem d_M_queue_16 : decode mi_M_queue.2.1 16 = .ok (.iload_n 1, 1) := by decide +kernel
theorem d_M_queue_17 : decode mi_M_queue.2.1 17 = .ok (.iaload, 1) := by decide +kernel
theorem d_M_queue_18 : decode mi_M_queue.2.1 18 = .ok (.goto 4, 3) := by decide +kernel
theorem d_M_queue_21 : decode mi_M_queue.2.1 21 = .ok (.iconst (-1), 1) := by decide +kernel
theorem d_M_queue_22 : decode mi_M_queue.2.1 22 = .ok (.ireturn, 1) := by decide +kernel
theorem d_M_parcels_0 : decode mi_M_parcels.2.1 0 = .ok (.aload_n 0, 1) := by decide +kernel
theorem d_M_parcels_1 : decode mi_M_parcels.2.1 1 = .ok (.getfield 85, 3) := by decide +kernel
theorem d_M_parcels_4 : decode mi_M_parcels.2.1 4 = .ok (.ireturn, 1) := by decide +kernel
theorem d_M_parcel_0 : decode mi_M_parcel.2.1 0 = .ok (.iload_n 1, 1) := by decide +kernel
theorem d_M_parcel_1 : decode mi_M_parcel.2.1 1 = .ok (.ifCond .lt 20, 3) := by decide +kernel
theorem d_M_parcel_4 : decode mi_M_parcel.2.1 4 = .ok (.iload_n 1, 1) := by decide +kernel
theorem d_M_parcel_5 : decode mi_M_parcel.2.1 5 = .ok (.aload_n 0, 1) := by decide +kernel
theorem d_M_parcel_6 : decode mi_M_parcel.2.1 6 = .ok (.getfield 85, 3) := by decide +kernel
theorem d_M_parcel_9 : decode mi_M_parcel.2.1 9 = .ok (.if_icmp .ge 12, 3) := by decide +kernel
theorem d_M_parcel_12 : decode mi_M_parcel.2.1 12 = .ok (.aload_n 0, 1) := by decide +kernel
theorem d_M_parcel_13 : decode mi_M_parcel.2.1 13 = .ok (.getfield 51, 3) := by decide +kernel
theorem d_M_parcel_16 : decode mi_M_parcel.2.1 16 = .ok (.iload_n 1, 1) := by decide +kernel
theorem d_M_parcel_17 : decode mi_M_parcel.2.1 17 = .ok (.iaload, 1) := by decide +kernel
theorem d_M_parcel_18 : decode mi_M_parcel.2.1 18 = .ok (.goto 4, 3) := by decide +kernel
theorem d_M_parcel_21 : decode mi_M_parcel.2.1 21 = .ok (.iconst (-1), 1) := by decide +kernel
theorem d_M_parcel_22 : decode mi_M_parcel.2.1 22 = .ok (.ireturn, 1) := by decide +kernel
theorem d_M_size_0 : decode mi_M_size.2.1 0 = .ok (.aload_n 0, 1) := by decide +kernel
theorem d_M_size_1 : decode mi_M_size.2.1 1 = .ok (.iload_n 1, 1) := by decide +kernel
theorem d_M_size_2 : decode mi_M_size.2.1 2 = .ok (.invokevirtual 131, 3) := by decide +kernel
theorem d_M_size_5 : decode mi_M_size.2.1 5 = .ok (.ifCond .eq 12, 3) := by decide +kernel
theorem d_M_size_8 : decode mi_M_size.2.1 8 = .ok (.aload_n 0, 1) := by decide +kernel
theorem d_M_size_9 : decode mi_M_size.2.1 9 = .ok (.getfield 24, 3) := by decide +kernel
theorem d_M_size_12 : decode mi_M_size.2.1 12 = .ok (.iload_n 1, 1) := by decide +kernel
theorem d_M_size_13 : decode mi_M_size.2.1 13 = .ok (.iaload, 1) := by decide +kernel
theorem d_M_size_14 : decode mi_M_size.2.1 14 = .ok (.goto 4, 3) := by decide +kernel
theorem d_M_size_17 : decode mi_M_size.2.1 17 = .ok (.iconst (-1), 1) := by decide +kernel
theorem d_M_size_18 : decode mi_M_size.2.1 18 = .ok (.ireturn, 1) := by decide +kernel

theorem d_X_init_0 : decode mi_X_init.2.1 0 = .ok (.aload_n 0, 1) := by decide +kernel
theorem d_X_init_1 : decode mi_X_init.2.1 1 = .ok (.invokespecial 3, 3) := by decide +kernel
theorem d_X_init_4 : decode mi_X_init.2.1 4 = .ok (.aload_n 0, 1) := by decide +kernel
theorem d_X_init_5 : decode mi_X_init.2.1 5 = .ok (.bipush 16, 2) := by decide +kernel
theorem d_X_init_7 : decode mi_X_init.2.1 7 = .ok (.anewarray 9, 3) := by decide +kernel
theorem d_X_init_10 : decode mi_X_init.2.1 10 = .ok (.putfield 11, 3) := by decide +kernel
theorem d_X_init_13 : decode mi_X_init.2.1 13 = .ok (.aload_n 0, 1) := by decide +kernel
theorem d_X_init_14 : decode mi_X_init.2.1 14 = .ok (.bipush 6, 2) := by decide +kernel
theorem d_X_init_16 : decode mi_X_init.2.1 16 = .ok (.anewarray 15, 3) := by decide +kernel
theorem d_X_init_19 : decode mi_X_init.2.1 19 = .ok (.putfield 17, 3) := by decide +kernel
theorem d_X_init_22 : decode mi_X_init.2.1 22 = .ok (.aload_n 0, 1) := by decide +kernel
theorem d_X_init_23 : decode mi_X_init.2.1 23 = .ok (.new 21, 3) := by decide +kernel
theorem d_X_init_26 : decode mi_X_init.2.1 26 = .ok (.dup, 1) := by decide +kernel
theorem d_X_init_27 : decode mi_X_init.2.1 27 = .ok (.invokespecial 23, 3) := by decide +kernel
theorem d_X_init_30 : decode mi_X_init.2.1 30 = .ok (.putfield 24, 3) := by decide +kernel
theorem d_X_init_33 : decode mi_X_init.2.1 33 = .ok (.aload_n 0, 1) := by decide +kernel
theorem d_X_init_34 : decode mi_X_init.2.1 34 = .ok (.new 28, 3) := by decide +kernel
theorem d_X_init_37 : decode mi_X_init.2.1 37 = .ok (.dup, 1) := by decide +kernel
theorem d_X_init_38 : decode mi_X_init.2.1 38 = .ok (.invokespecial 30, 3) := by decide +kernel
theorem d_X_init_41 : decode mi_X_init.2.1 41 = .ok (.putfield 31, 3) := by decide +kernel
theorem d_X_init_44 : decode mi_X_init.2.1 44 = .ok (.aload_n 0, 1) := by decide +kernel
theorem d_X_init_45 : decode mi_X_init.2.1 45 = .ok (.new 35, 3) := by decide +kernel
theorem d_X_init_48 : decode mi_X_init.2.1 48 = .ok (.dup, 1) := by decide +kernel
theorem d_X_init_49 : decode mi_X_init.2.1 49 = .ok (.sipush 195, 3) := by decide +kernel
theorem d_X_init_52 : decode mi_X_init.2.1 52 = .ok (.invokespecial 37, 3) := by decide +kernel
theorem d_X_init_55 : decode mi_X_init.2.1 55 = .ok (.putfield 40, 3) := by decide +kernel
theorem d_X_init_58 : decode mi_X_init.2.1 58 = .ok (.aload_n 0, 1) := by decide +kernel
theorem d_X_init_59 : decode mi_X_init.2.1 59 = .ok (.new 35, 3) := by decide +kernel
theorem d_X_init_62 : decode mi_X_init.2.1 62 = .ok (.dup, 1) := by decide +kernel
theorem d_X_init_63 : decode mi_X_init.2.1 63 = .ok (.bipush 61, 2) := by decide +kernel
theorem d_X_init_65 : decode mi_X_init.2.1 65 = .ok (.invokespecial 37, 3) := by decide +kernel
theorem d_X_init_68 : decode mi_X_init.2.1 68 = .ok (.putfield 44, 3) := by decide +kernel
theorem d_X_init_71 : decode mi_X_init.2.1 71 = .ok (.aload_n 0, 1) := by decide +kernel
theorem d_X_init_72 : decode mi_X_init.2.1 72 = .ok (.iconst 4, 1) := by decide +kernel
theorem d_X_init_73 : decode mi_X_init.2.1 73 = .ok (.newarray .int, 2) := by decide +kernel
theorem d_X_init_75 : decode mi_X_init.2.1 75 = .ok (.putfield 47, 3) := by decide +kernel
theorem d_X_init_78 : decode mi_X_init.2.1 78 = .ok (.iconst 0, 1) := by decide +kernel
theorem d_X_init_79 : decode mi_X_init.2.1 79 = .ok (.istore_n 1, 1) := by decide +kernel
theorem d_X_init_80 : decode mi_X_init.2.1 80 = .ok (.iload_n 1, 1) := by decide +kernel
theorem d_X_init_81 : decode mi_X_init.2.1 81 = .ok (.bipush 16, 2) := by decide +kernel
theorem d_X_init_83 : decode mi_X_init.2.1 83 = .ok (.if_icmp .ge 22, 3) := by decide +kernel
theorem d_X_init_86 : decode mi_X_init.2.1 86 = .ok (.aload_n 0, 1) := by decide +kernel
theorem d_X_init_87 : decode mi_X_init.2.1 87 = .ok (.getfield 11, 3) := by decide +kernel
theorem d_X_init_90 : decode mi_X_init.2.1 90 = .ok (.iload_n 1, 1) := by decide +kernel
theorem d_X_init_91 : decode mi_X_init.2.1 91 = .ok (.new 9, 3) := by decide +kernel
theorem d_X_init_94 : decode mi_X_init.2.1 94 = .ok (.dup, 1) := by decide +kernel
theorem d_X_init_95 : decode mi_X_init.2.1 95 = .ok (.invokespecial 51, 3) := by decide +kernel
theorem d_X_init_98 : decode mi_X_init.2.1 98 = .ok (.aastore, 1) := by decide +kernel
theorem d_X_init_99 : decode mi_X_init.2.1 99 = .ok (.iinc 1 1, 3) := by decide +kernel
theorem d_X_init_102 : decode mi_X_init.2.1 102 = .ok (.goto (-22), 3) := by decide +kernel
theorem d_X_init_105 : decode mi_X_init.2.1 105 = .ok (.iconst 0, 1) := by decide +kernel
theorem d_X_init_106 : decode mi_X_init.2.1 106 = .ok (.istore_n 1, 1) := by decide +kernel
theorem d_X_init_107 : decode mi_X_init.2.1 107 = .ok (.iload_n 1, 1) := by decide +kernel
theorem d_X_init_108 : decode mi_X_init.2.1 108 = .ok (.bipush 6, 2) := by decide +kernel
theorem d_X_init_110 : decode mi_X_init.2.1 110 = .ok (.if_icmp .ge 22, 3) := by decide +kernel
theorem d_X_init_113 : decode mi_X_init.2.1 113 = .ok (.aload_n 0, 1) := by decide +kernel
theorem d_X_init_114 : decode mi_X_init.2.1 114 = .ok (.getfield 17, 3) := by decide +kernel
theorem d_X_init_117 : decode mi_X_init.2.1 117 = .ok (.iload_n 1, 1) := by decide +kernel
theorem d_X_init_118 : decode mi_X_init.2.1 118 = .ok (.new 15, 3) := by decide +kernel
theorem d_X_init_121 : decode mi_X_init.2.1 121 = .ok (.dup, 1) := by decide +kernel
theorem d_X_init_122 : decode mi_X_init.2.1 122 = .ok (.invokespecial 52, 3) := by decide +kernel
theorem d_X_init_125 : decode mi_X_init.2.1 125 = .ok (.aastore, 1) := by decide +kernel
theorem d_X_init_126 : decode mi_X_init.2.1 126 = .ok (.iinc 1 1, 3) := by decide +kernel
theorem d_X_init_129 : decode mi_X_init.2.1 129 = .ok (.goto (-22), 3) := by decide +kernel
theorem d_X_init_132 : decode mi_X_init.2.1 132 = .ok (.aload_n 0, 1) := by decide +kernel
theorem d_X_init_133 : decode mi_X_init.2.1 133 = .ok (.getfield 11, 3) := by decide +kernel
theorem d_X_init_136 : decode mi_X_init.2.1 136 = .ok (.iconst 0, 1) := by decide +kernel
theorem d_X_init_137 : decode mi_X_init.2.1 137 = .ok (.aaload, 1) := by decide +kernel
theorem d_X_init_138 : decode mi_X_init.2.1 138 = .ok (.iconst (-1), 1) := by decide +kernel
theorem d_X_init_139 : decode mi_X_init.2.1 139 = .ok (.iconst (-1), 1) := by decide +kernel
theorem d_X_init_140 : decode mi_X_init.2.1 140 = .ok (.invokevirtual 53, 3) := by decide +kernel
theorem d_X_init_143 : decode mi_X_init.2.1 143 = .ok (.aload_n 0, 1) := by decide +kernel
theorem d_X_init_144 : decode mi_X_init.2.1 144 = .ok (.iconst 1, 1) := by decide +kernel
theorem d_X_init_145 : decode mi_X_init.2.1 145 = .ok (.putfield 57, 3) := by decide +kernel
theorem d_X_init_148 : decode mi_X_init.2.1 148 = .ok (.aload_n 0, 1) := by decide +kernel
theorem d_X_init_149 : decode mi_X_init.2.1 149 = .ok (.iconst (-1), 1) := by decide +kernel
theorem d_X_init_150 : decode mi_X_init.2.1 150 = .ok (.putfield 61, 3) := by decide +kernel
theorem d_X_init_153 : decode mi_X_init.2.1 153 = .ok (.return_, 1) := by decide +kernel
theorem d_X_open_0 : decode mi_X_open.2.1 0 = .ok (.aload_n 0, 1) := by decide +kernel
theorem d_X_open_1 : decode mi_X_open.2.1 1 = .ok (.getfield 31, 3) := by decide +kernel
theorem d_X_open_4 : decode mi_X_open.2.1 4 = .ok (.invokevirtual 64, 3) := by decide +kernel
theorem d_X_open_7 : decode mi_X_open.2.1 7 = .ok (.aload_n 0, 1) := by decide +kernel
theorem d_X_open_8 : decode mi_X_open.2.1 8 = .ok (.iconst 0, 1) := by decide +kernel
theorem d_X_open_9 : decode mi_X_open.2.1 9 = .ok (.putfield 67, 3) := by decide +kernel
theorem d_X_open_12 : decode mi_X_open.2.1 12 = .ok (.aload_n 0, 1) := by decide +kernel
theorem d_X_open_13 : decode mi_X_open.2.1 13 = .ok (.getfield 24, 3) := by decide +kernel
theorem d_X_open_16 : decode mi_X_open.2.1 16 = .ok (.invokevirtual 70, 3) := by decide +kernel
theorem d_X_open_19 : decode mi_X_open.2.1 19 = .ok (.aload_n 0, 1) := by decide +kernel
theorem d_X_open_20 : decode mi_X_open.2.1 20 = .ok (.getfield 40, 3) := by decide +kernel
theorem d_X_open_23 : decode mi_X_open.2.1 23 = .ok (.invokevirtual 71, 3) := by decide +kernel
theorem d_X_open_26 : decode mi_X_open.2.1 26 = .ok (.aload_n 0, 1) := by decide +kernel
theorem d_X_open_27 : decode mi_X_open.2.1 27 = .ok (.iconst (-1), 1) := by decide +kernel
theorem d_X_open_28 : decode mi_X_open.2.1 28 = .ok (.putfield 61, 3) := by decide +kernel
theorem d_X_open_31 : decode mi_X_open.2.1 31 = .ok (.return_, 1) := by decide +kernel
theorem d_X_isOpen_0 : decode mi_X_isOpen.2.1 0 = .ok (.aload_n 0, 1) := by decide +kernel
theorem d_X_isOpen_1 : decode mi_X_isOpen.2.1 1 = .ok (.getfield 31, 3) := by decide +kernel
theorem d_X_isOpen_4 : decode mi_X_isOpen.2.1 4 = .ok (.getfield 74, 3) := by decide +kernel
theorem d_X_isOpen_7 : decode mi_X_isOpen.2.1 7 = .ok (.ireturn, 1) := by decide +kernel
theorem d_X_folder_0 : decode mi_X_folder.2.1 0 = .ok (.aload_n 0, 1) := by decide +kernel
theorem d_X_folder_1 : decode mi_X_folder.2.1 1 = .ok (.iload_n 1, 1) := by decide +kernel
theorem d_X_folder_2 : decode mi_X_folder.2.1 2 = .ok (.iconst (-1), 1) := by decide +kernel
theorem d_X_folder_3 : decode mi_X_folder.2.1 3 = .ok (.invokevirtual 78, 3) := by decide +kernel
theorem d_X_folder_6 : decode mi_X_folder.2.1 6 = .ok (.ireturn, 1) := by decide +kernel
theorem d_X_addNode_0 : decode mi_X_addNode.2.1 0 = .ok (.aload_n 0, 1) := by decide +kernel
theorem d_X_addNode_1 : decode mi_X_addNode.2.1 1 = .ok (.iload_n 1, 1) := by decide +kernel
theorem d_X_addNode_2 : decode mi_X_addNode.2.1 2 = .ok (.invokevirtual 157, 3) := by decide +kernel
theorem d_X_addNode_5 : decode mi_X_addNode.2.1 5 = .ok (.ifCond .eq 20, 3) := by decide +kernel
theorem d_X_addNode_8 : decode mi_X_addNode.2.1 8 = .ok (.aload_n 0, 1) := by decide +kernel
theorem d_X_addNode_9 : decode mi_X_addNode.2.1 9 = .ok (.iload_n 1, 1) := by decide +kernel
theorem d_X_addNode_10 : decode mi_X_addNode.2.1 10 = .ok (.invokevirtual 86, 3) := by decide +kernel
theorem d_X_addNode_13 : decode mi_X_addNode.2.1 13 = .ok (.ifCond .ne 12, 3) := by decide +kernel
theorem d_X_addNode_16 : decode mi_X_addNode.2.1 16 = .ok (.aload_n 0, 1) := by decide +kernel
theorem d_X_addNode_17 : decode mi_X_addNode.2.1 17 = .ok (.getfield 57, 3) := by decide +kernel
theorem d_X_addNode_20 : decode mi_X_addNode.2.1 20 = .ok (.bipush 16, 2) := by decide +kernel
theorem d_X_addNode_22 : decode mi_X_addNode.2.1 22 = .ok (.if_icmp .ne 5, 3) := by decide +kernel
theorem d_X_addNode_25 : decode mi_X_addNode.2.1 25 = .ok (.iconst (-1), 1) := by decide +kernel
theorem d_X_addNode_26 : decode mi_X_addNode.2.1 26 = .ok (.ireturn, 1) := by decide +kernel
theorem d_X_addNode_27 : decode mi_X_addNode.2.1 27 = .ok (.aload_n 0, 1) := by decide +kernel
theorem d_X_addNode_28 : decode mi_X_addNode.2.1 28 = .ok (.getfield 11, 3) := by decide +kernel
theorem d_X_addNode_31 : decode mi_X_addNode.2.1 31 = .ok (.aload_n 0, 1) := by decide +kernel
theorem d_X_addNode_32 : decode mi_X_addNode.2.1 32 = .ok (.getfield 57, 3) := by decide +kernel
theorem d_X_addNode_35 : decode mi_X_addNode.2.1 35 = .ok (.aaload, 1) := by decide +kernel
theorem d_X_addNode_36 : decode mi_X_addNode.2.1 36 = .ok (.iload_n 1, 1) := by decide +kernel
theorem d_X_addNode_37 : decode mi_X_addNode.2.1 37 = .ok (.iload_n 2, 1) := by decide +kernel
theorem d_X_addNode_38 : decode mi_X_addNode.2.1 38 = .ok (.invokevirtual 53, 3) := by decide +kernel
theorem d_X_addNode_41 : decode mi_X_addNode.2.1 41 = .ok (.aload_n 0, 1) := by decide +kernel
theorem d_X_addNode_42 : decode mi_X_addNode.2.1 42 = .ok (.dup, 1) := by decide +kernel
theorem d_X_addNode_43 : decode mi_X_addNode.2.1 43 = .ok (.getfield 57, 3) := by decide +kernel
theorem d_X_addNode_46 : decode mi_X_addNode.2.1 46 = .ok (.iconst 1, 1) := by decide +kernel
theorem d_X_addNode_47 : decode mi_X_addNode.2.1 47 = .ok (.iadd, 1) := by decide +kernel
theorem d_X_addNode_48 : decode mi_X_addNode.2.1 48 = .ok (.putfield 57, 3) := by decide +kernel
theorem d_X_addNode_51 : decode mi_X_addNode.2.1 51 = .ok (.aload_n 0, 1) := by decide +kernel
theorem d_X_addNode_52 : decode mi_X_addNode.2.1 52 = .ok (.getfield 57, 3) := by decide +kernel
theorem d_X_addNode_55 : decode mi_X_addNode.2.1 55 = .ok (.iconst 1, 1) := by decide +kernel
theorem d_X_addNode_56 : decode mi_X_addNode.2.1 56 = .ok (.isub, 1) := by decide +kernel
theorem d_X_addNode_57 : decode mi_X_addNode.2.1 57 = .ok (.ireturn, 1) := by decide +kernel
theorem d_X_isNode_0 : decode mi_X_isNode.2.1 0 = .ok (.iload_n 1, 1) := by decide +kernel
theorem d_X_isNode_1 : decode mi_X_isNode.2.1 1 = .ok (.ifCond .lt 15, 3) := by decide +kernel
theorem d_X_isNode_4 : decode mi_X_isNode.2.1 4 = .ok (.iload_n 1, 1) := by decide +kernel
theorem d_X_isNode_5 : decode mi_X_isNode.2.1 5 = .ok (.aload_n 0, 1) := by decide +kernel
theorem d_X_isNode_6 : decode mi_X_isNode.2.1 6 = .ok (.getfield 57, 3) := by decide +kernel
theorem d_X_isNode_9 : decode mi_X_isNode.2.1 9 = .ok (.if_icmp .ge 7, 3) := by decide +kernel
theorem d_X_isNode_12 : decode mi_X_isNode.2.1 12 = .ok (.iconst 1, 1) := by decide +kernel
theorem d_X_isNode_13 : decode mi_X_isNode.2.1 13 = .ok (.goto 4, 3) := by decide +kernel
theorem d_X_isNode_16 : decode mi_X_isNode.2.1 16 = .ok (.iconst 0, 1) := by decide +kernel
theorem d_X_isNode_17 : decode mi_X_isNode.2.1 17 = .ok (.ireturn, 1) := by decide +kernel
theorem d_X_isVariable_0 : decode mi_X_isVariable.2.1 0 = .ok (.aload_n 0, 1) := by decide +kernel
theorem d_X_isVariable_1 : decode mi_X_isVariable.2.1 1 = .ok (.iload_n 1, 1) := by decide +kernel
theorem d_X_isVariable_2 : decode mi_X_isVariable.2.1 2 = .ok (.invokevirtual 157, 3) := by decide +kernel
theorem d_X_isVariable_5 : decode mi_X_isVariable.2.1 5 = .ok (.ifCond .eq 20, 3) := by decide +kernel
theorem d_X_isVariable_8 : decode mi_X_isVariable.2.1 8 = .ok (.aload_n 0, 1) := by decide +kernel
theorem d_X_isVariable_9 : decode mi_X_isVariable.2.1 9 = .ok (.getfield 11, 3) := by decide +kernel
theorem d_X_isVariable_12 : decode mi_X_isVariable.2.1 12 = .ok (.iload_n 1, 1) := by decide +kernel
theorem d_X_isVariable_13 : decode mi_X_isVariable.2.1 13 = .ok (.aaload, 1) := by decide +kernel
theorem d_X_isVariable_14 : decode mi_X_isVariable.2.1 14 = .ok (.getfield 89, 3) := by decide +kernel
theorem d_X_isVariable_17 : decode mi_X_isVariable.2.1 17 = .ok (.iconst (-1), 1) := by decide +kernel
theorem d_X_isVariable_18 : decode mi_X_isVariable.2.1 18 = .ok (.if_icmp .eq 7, 3) := by decide +kernel
theorem d_X_isVariable_21 : decode mi_X_isVariable.2.1 21 = .ok (.iconst 1, 1) := by decide +kernel
theorem d_X_isVariable_22 : decode mi_X_isVariable.2.1 22 = .ok (.goto 4, 3) := by decide +kernel
theorem d_X_isVariable_25 : decode mi_X_isVariable.2.1 25 = .ok (.iconst 0, 1) := by decide +kernel
theorem d_X_isVariable_26 : decode mi_X_isVariable.2.1 26 = .ok (.ireturn, 1) := by decide +kernel
theorem d_X_variable_0 : decode mi_X_variable.2.1 0 = .ok (.iload_n 2, 1) := by decide +kernel
theorem d_X_variable_1 : decode mi_X_variable.2.1 1 = .ok (.invokestatic 82, 3) := by decide +kernel
theorem d_X_variable_4 : decode mi_X_variable.2.1 4 = .ok (.ifCond .eq 12, 3) := by decide +kernel
theorem d_X_variable_7 : decode mi_X_variable.2.1 7 = .ok (.aload_n 0, 1) := by decide +kernel
theorem d_X_variable_8 : decode mi_X_variable.2.1 8 = .ok (.iload_n 1, 1) := by decide +kernel
theorem d_X_variable_9 : decode mi_X_variable.2.1 9 = .ok (.iload_n 2, 1) := by decide +kernel
theorem d_X_variable_10 : decode mi_X_variable.2.1 10 = .ok (.invokevirtual 78, 3) := by decide +kernel
theorem d_X_variable_13 : decode mi_X_variable.2.1 13 = .ok (.goto 4, 3) := by decide +kernel
theorem d_X_variable_16 : decode mi_X_variable.2.1 16 = .ok (.iconst (-1), 1) := by decide +kernel
theorem d_X_variable_17 : decode mi_X_variable.2.1 17 = .ok (.ireturn, 1) := by decide +kernel
theorem d_X_isVariableType_0 : decode mi_X_isVariableType.2.1 0 = .ok (.iload_n 0, 1) := by decide +kernel
theorem d_X_isVariableType_1 : decode mi_X_isVariableType.2.1 1 = .ok (.ifCond .eq 26, 3) := by decide +kernel
theorem d_X_isVariableType_4 : decode mi_X_isVariableType.2.1 4 = .ok (.iload_n 0, 1) := by decide +kernel
theorem d_X_isVariableType_5 : decode mi_X_isVariableType.2.1 5 = .ok (.iconst 1, 1) := by decide +kernel
theorem d_X_isVariableType_6 : decode mi_X_isVariableType.2.1 6 = .ok (.if_icmp .eq 21, 3) := by decide +kernel
theorem d_X_isVariableType_9 : decode mi_X_isVariableType.2.1 9 = .ok (.iload_n 0, 1) := by decide +kernel
theorem d_X_isVariableType_10 : decode mi_X_isVariableType.2.1 10 = .ok (.bipush 6, 2) := by decide +kernel
theorem d_X_isVariableType_12 : decode mi_X_isVariableType.2.1 12 = .ok (.if_icmp .eq 15, 3) := by decide +kernel
theorem d_X_isVariableType_15 : decode mi_X_isVariableType.2.1 15 = .ok (.iload_n 0, 1) := by decide +kernel
theorem d_X_isVariableType_16 : decode mi_X_isVariableType.2.1 16 = .ok (.bipush 8, 2) := by decide +kernel
theorem d_X_isVariableType_18 : decode mi_X_isVariableType.2.1 18 = .ok (.if_icmp .eq 9, 3) := by decide +kernel
theorem d_X_isVariableType_21 : decode mi_X_isVariableType.2.1 21 = .ok (.iload_n 0, 1) := by decide +kernel
theorem d_X_isVariableType_22 : decode mi_X_isVariableType.2.1 22 = .ok (.bipush 12, 2) := by decide +kernel
theorem d_X_isVariableType_24 : decode mi_X_isVariableType.2.1 24 = .ok (.if_icmp .ne 7, 3) := by decide +kernel
theorem d_X_isVariableType_27 : decode mi_X_isVariableType.2.1 27 = .ok (.iconst 1, 1) := by decide +kernel
theorem d_X_isVariableType_28 : decode mi_X_isVariableType.2.1 28 = .ok (.goto 4, 3) := by decide +kernel
theorem d_X_isVariableType_31 : decode mi_X_isVariableType.2.1 31 = .ok (.iconst 0, 1) := by decide +kernel
theorem d_X_isVariableType_32 : decode mi_X_isVariableType.2.1 32 = .ok (.ireturn, 1) := by decide +kernel
theorem d_X_poke_0 : decode mi_X_poke.2.1 0 = .ok (.aload_n 0, 1) := by decide +kernel
theorem d_X_poke_1 : decode mi_X_poke.2.1 1 = .ok (.iload_n 1, 1) := by decide +kernel
theorem d_X_poke_2 : decode mi_X_poke.2.1 2 = .ok (.invokevirtual 86, 3) := by decide +kernel
theorem d_X_poke_5 : decode mi_X_poke.2.1 5 = .ok (.ifCond .ne 5, 3) := by decide +kernel
theorem d_X_poke_8 : decode mi_X_poke.2.1 8 = .ok (.iconst 0, 1) := by decide +kernel
theorem d_X_poke_9 : decode mi_X_poke.2.1 9 = .ok (.ireturn, 1) := by decide +kernel
theorem d_X_poke_10 : decode mi_X_poke.2.1 10 = .ok (.aload_n 0, 1) := by decide +kernel
theorem d_X_poke_11 : decode mi_X_poke.2.1 11 = .ok (.getfield 11, 3) := by decide +kernel
theorem d_X_poke_14 : decode mi_X_poke.2.1 14 = .ok (.iload_n 1, 1) := by decide +kernel
theorem d_X_poke_15 : decode mi_X_poke.2.1 15 = .ok (.aaload, 1) := by decide +kernel
theorem d_X_poke_16 : decode mi_X_poke.2.1 16 = .ok (.getfield 89, 3) := by decide +kernel
theorem d_X_poke_19 : decode mi_X_poke.2.1 19 = .ok (.istore 4, 2) := by decide +kernel
theorem d_X_poke_21 : decode mi_X_poke.2.1 21 = .ok (.aload_n 0, 1) := by decide +kernel
theorem d_X_poke_22 : decode mi_X_poke.2.1 22 = .ok (.getfield 44, 3) := by decide +kernel
theorem d_X_poke_25 : decode mi_X_poke.2.1 25 = .ok (.invokevirtual 71, 3) := by decide +kernel
theorem d_X_poke_28 : decode mi_X_poke.2.1 28 = .ok (.aload_n 0, 1) := by decide +kernel
theorem d_X_poke_29 : decode mi_X_poke.2.1 29 = .ok (.getfield 44, 3) := by decide +kernel
theorem d_X_poke_32 : decode mi_X_poke.2.1 32 = .ok (.iload 4, 2) := by decide +kernel
theorem d_X_poke_34 : decode mi_X_poke.2.1 34 = .ok (.invokevirtual 92, 3) := by decide +kernel
theorem d_X_poke_37 : decode mi_X_poke.2.1 37 = .ok (.iload 4, 2) := by decide +kernel
theorem d_X_poke_39 : decode mi_X_poke.2.1 39 = .ok (.lookupswitch 79 #[(1, 33), (6, 54), (8, 66)], 33) := by decide +kernel
theorem d_X_poke_72 : decode mi_X_poke.2.1 72 = .ok (.aload_n 0, 1) := by decide +kernel
theorem d_X_poke_73 : decode mi_X_poke.2.1 73 = .ok (.getfield 44, 3) := by decide +kernel
theorem d_X_poke_76 : decode mi_X_poke.2.1 76 = .ok (.lload_n 2, 1) := by decide +kernel
theorem d_X_poke_77 : decode mi_X_poke.2.1 77 = .ok (.lconst 0, 1) := by decide +kernel
theorem d_X_poke_78 : decode mi_X_poke.2.1 78 = .ok (.lcmp, 1) := by decide +kernel
theorem d_X_poke_79 : decode mi_X_poke.2.1 79 = .ok (.ifCond .eq 7, 3) := by decide +kernel
theorem d_X_poke_82 : decode mi_X_poke.2.1 82 = .ok (.iconst 1, 1) := by decide +kernel
theorem d_X_poke_83 : decode mi_X_poke.2.1 83 = .ok (.goto 4, 3) := by decide +kernel
theorem d_X_poke_86 : decode mi_X_poke.2.1 86 = .ok (.iconst 0, 1) := by decide +kernel
theorem d_X_poke_87 : decode mi_X_poke.2.1 87 = .ok (.invokevirtual 92, 3) := by decide +kernel
theorem d_X_poke_90 : decode mi_X_poke.2.1 90 = .ok (.goto 30, 3) := by decide +kernel
theorem d_X_poke_93 : decode mi_X_poke.2.1 93 = .ok (.aload_n 0, 1) := by decide +kernel
theorem d_X_poke_94 : decode mi_X_poke.2.1 94 = .ok (.getfield 44, 3) := by decide +kernel
theorem d_X_poke_97 : decode mi_X_poke.2.1 97 = .ok (.lload_n 2, 1) := by decide +kernel
theorem d_X_poke_98 : decode mi_X_poke.2.1 98 = .ok (.iconst 4, 1) := by decide +kernel
theorem d_X_poke_99 : decode mi_X_poke.2.1 99 = .ok (.invokevirtual 95, 3) := by decide +kernel
theorem d_X_poke_102 : decode mi_X_poke.2.1 102 = .ok (.goto 18, 3) := by decide +kernel
theorem d_X_poke_105 : decode mi_X_poke.2.1 105 = .ok (.aload_n 0, 1) := by decide +kernel
theorem d_X_poke_106 : decode mi_X_poke.2.1 106 = .ok (.getfield 44, 3) := by decide +kernel
theorem d_X_poke_109 : decode mi_X_poke.2.1 109 = .ok (.lload_n 2, 1) := by decide +kernel
theorem d_X_poke_110 : decode mi_X_poke.2.1 110 = .ok (.bipush 8, 2) := by decide +kernel
theorem d_X_poke_112 : decode mi_X_poke.2.1 112 = .ok (.invokevirtual 95, 3) := by decide +kernel
theorem d_X_poke_115 : decode mi_X_poke.2.1 115 = .ok (.goto 5, 3) := by decide +kernel
theorem d_X_poke_118 : decode mi_X_poke.2.1 118 = .ok (.iconst 0, 1) := by decide +kernel
theorem d_X_poke_119 : decode mi_X_poke.2.1 119 = .ok (.ireturn, 1) := by decide +kernel
theorem d_X_poke_120 : decode mi_X_poke.2.1 120 = .ok (.aload_n 0, 1) := by decide +kernel
theorem d_X_poke_121 : decode mi_X_poke.2.1 121 = .ok (.iload_n 1, 1) := by decide +kernel
theorem d_X_poke_122 : decode mi_X_poke.2.1 122 = .ok (.invokevirtual 99, 3) := by decide +kernel
theorem d_X_poke_125 : decode mi_X_poke.2.1 125 = .ok (.ireturn, 1) := by decide +kernel
theorem d_X_changeValue_0 : decode mi_X_changeValue.2.1 0 = .ok (.aload_n 0, 1) := by decide +kernel
theorem d_X_changeValue_1 : decode mi_X_changeValue.2.1 1 = .ok (.getfield 11, 3) := by decide +kernel
theorem d_X_changeValue_4 : decode mi_X_changeValue.2.1 4 = .ok (.iload_n 1, 1) := by decide +kernel
theorem d_X_changeValue_5 : decode mi_X_changeValue.2.1 5 = .ok (.aaload, 1) := by decide +kernel
theorem d_X_changeValue_6 : decode mi_X_changeValue.2.1 6 = .ok (.getfield 154, 3) := by decide +kernel
theorem d_X_changeValue_9 : decode mi_X_changeValue.2.1 9 = .ok (.astore_n 2, 1) := by decide +kernel
theorem d_X_changeValue_10 : decode mi_X_changeValue.2.1 10 = .ok (.aload_n 2, 1) := by decide +kernel
theorem d_X_changeValue_11 : decode mi_X_changeValue.2.1 11 = .ok (.aload_n 0, 1) := by decide +kernel
theorem d_X_changeValue_12 : decode mi_X_changeValue.2.1 12 = .ok (.getfield 44, 3) := by decide +kernel
theorem d_X_changeValue_15 : decode mi_X_changeValue.2.1 15 = .ok (.invokevirtual 160, 3) := by decide +kernel
theorem d_X_changeValue_18 : decode mi_X_changeValue.2.1 18 = .ok (.ifCond .eq 5, 3) := by decide +kernel
theorem d_X_changeValue_21 : decode mi_X_changeValue.2.1 21 = .ok (.iconst 0, 1) := by decide +kernel
theorem d_X_changeValue_22 : decode mi_X_changeValue.2.1 22 = .ok (.ireturn, 1) := by decide +kernel
theorem d_X_changeValue_23 : decode mi_X_changeValue.2.1 23 = .ok (.aload_n 2, 1) := by decide +kernel
theorem d_X_changeValue_24 : decode mi_X_changeValue.2.1 24 = .ok (.invokevirtual 71, 3) := by decide +kernel
theorem d_X_changeValue_27 : decode mi_X_changeValue.2.1 27 = .ok (.aload_n 2, 1) := by decide +kernel
theorem d_X_changeValue_28 : decode mi_X_changeValue.2.1 28 = .ok (.aload_n 0, 1) := by decide +kernel
theorem d_X_changeValue_29 : decode mi_X_changeValue.2.1 29 = .ok (.getfield 44, 3) := by decide +kernel
theorem d_X_changeValue_32 : decode mi_X_changeValue.2.1 32 = .ok (.invokevirtual 164, 3) := by decide +kernel
theorem d_X_changeValue_35 : decode mi_X_changeValue.2.1 35 = .ok (.iconst 0, 1) := by decide +kernel
theorem d_X_changeValue_36 : decode mi_X_changeValue.2.1 36 = .ok (.istore_n 3, 1) := by decide +kernel
theorem d_X_changeValue_37 : decode mi_X_changeValue.2.1 37 = .ok (.iload_n 3, 1) := by decide +kernel
theorem d_X_changeValue_38 : decode mi_X_changeValue.2.1 38 = .ok (.aload_n 0, 1) := by decide +kernel
theorem d_X_changeValue_39 : decode mi_X_changeValue.2.1 39 = .ok (.getfield 67, 3) := by decide +kernel
theorem d_X_changeValue_42 : decode mi_X_changeValue.2.1 42 = .ok (.if_icmp .ge 32, 3) := by decide +kernel
theorem d_X_changeValue_45 : decode mi_X_changeValue.2.1 45 = .ok (.aload_n 0, 1) := by decide +kernel
theorem d_X_changeValue_46 : decode mi_X_changeValue.2.1 46 = .ok (.getfield 17, 3) := by decide +kernel
theorem d_X_changeValue_49 : decode mi_X_changeValue.2.1 49 = .ok (.iload_n 3, 1) := by decide +kernel
theorem d_X_changeValue_50 : decode mi_X_changeValue.2.1 50 = .ok (.aaload, 1) := by decide +kernel
theorem d_X_changeValue_51 : decode mi_X_changeValue.2.1 51 = .ok (.getfield 168, 3) := by decide +kernel
theorem d_X_changeValue_54 : decode mi_X_changeValue.2.1 54 = .ok (.iload_n 1, 1) := by decide +kernel
theorem d_X_changeValue_55 : decode mi_X_changeValue.2.1 55 = .ok (.if_icmp .ne 13, 3) := by decide +kernel
theorem d_X_changeValue_58 : decode mi_X_changeValue.2.1 58 = .ok (.aload_n 0, 1) := by decide +kernel
theorem d_X_changeValue_59 : decode mi_X_changeValue.2.1 59 = .ok (.getfield 17, 3) := by decide +kernel
theorem d_X_changeValue_62 : decode mi_X_changeValue.2.1 62 = .ok (.iload_n 3, 1) := by decide +kernel
theorem d_X_changeValue_63 : decode mi_X_changeValue.2.1 63 = .ok (.aaload, 1) := by decide +kernel
theorem d_X_changeValue_64 : decode mi_X_changeValue.2.1 64 = .ok (.aload_n 2, 1) := by decide +kernel
theorem d_X_changeValue_65 : decode mi_X_changeValue.2.1 65 = .ok (.invokevirtual 171, 3) := by decide +kernel
theorem d_X_changeValue_68 : decode mi_X_changeValue.2.1 68 = .ok (.iinc 3 1, 3) := by decide +kernel
theorem d_X_changeValue_71 : decode mi_X_changeValue.2.1 71 = .ok (.goto (-34), 3) := by decide +kernel
theorem d_X_changeValue_74 : decode mi_X_changeValue.2.1 74 = .ok (.iconst 1, 1) := by decide +kernel
theorem d_X_changeValue_75 : decode mi_X_changeValue.2.1 75 = .ok (.ireturn, 1) := by decide +kernel
theorem d_X_chunk_0 : decode mi_X_chunk.2.1 0 = .ok (.aload_n 0, 1) := by decide +kernel
theorem d_X_chunk_1 : decode mi_X_chunk.2.1 1 = .ok (.getfield 31, 3) := by decide +kernel
theorem d_X_chunk_4 : decode mi_X_chunk.2.1 4 = .ok (.getfield 74, 3) := by decide +kernel
theorem d_X_chunk_7 : decode mi_X_chunk.2.1 7 = .ok (.ifCond .eq 32, 3) := by decide +kernel
theorem d_X_chunk_10 : decode mi_X_chunk.2.1 10 = .ok (.iload_n 1, 1) := by decide +kernel
theorem d_X_chunk_11 : decode mi_X_chunk.2.1 11 = .ok (.ifCond .lt 28, 3) := by decide +kernel
theorem d_X_chunk_14 : decode mi_X_chunk.2.1 14 = .ok (.iload_n 1, 1) := by decide +kernel
theorem d_X_chunk_15 : decode mi_X_chunk.2.1 15 = .ok (.iconst 2, 1) := by decide +kernel
theorem d_X_chunk_16 : decode mi_X_chunk.2.1 16 = .ok (.if_icmp .gt 23, 3) := by decide +kernel
theorem d_X_chunk_19 : decode mi_X_chunk.2.1 19 = .ok (.iload_n 2, 1) := by decide +kernel
theorem d_X_chunk_20 : decode mi_X_chunk.2.1 20 = .ok (.ifCond .lt 19, 3) := by decide +kernel
theorem d_X_chunk_23 : decode mi_X_chunk.2.1 23 = .ok (.iload_n 3, 1) := by decide +kernel
theorem d_X_chunk_24 : decode mi_X_chunk.2.1 24 = .ok (.ifCond .lt 15, 3) := by decide +kernel
theorem d_X_chunk_27 : decode mi_X_chunk.2.1 27 = .ok (.iload 6, 2) := by decide +kernel
theorem d_X_chunk_29 : decode mi_X_chunk.2.1 29 = .ok (.ifCond .lt 10, 3) := by decide +kernel
theorem d_X_chunk_32 : decode mi_X_chunk.2.1 32 = .ok (.iload 6, 2) := by decide +kernel
theorem d_X_chunk_34 : decode mi_X_chunk.2.1 34 = .ok (.bipush 8, 2) := by decide +kernel
theorem d_X_chunk_36 : decode mi_X_chunk.2.1 36 = .ok (.if_icmp .le 5, 3) := by decide +kernel
theorem d_X_chunk_39 : decode mi_X_chunk.2.1 39 = .ok (.iconst (-1), 1) := by decide +kernel
theorem d_X_chunk_40 : decode mi_X_chunk.2.1 40 = .ok (.ireturn, 1) := by decide +kernel
theorem d_X_chunk_41 : decode mi_X_chunk.2.1 41 = .ok (.aload_n 0, 1) := by decide +kernel
theorem d_X_chunk_42 : decode mi_X_chunk.2.1 42 = .ok (.getfield 31, 3) := by decide +kernel
theorem d_X_chunk_45 : decode mi_X_chunk.2.1 45 = .ok (.iload_n 1, 1) := by decide +kernel
theorem d_X_chunk_46 : decode mi_X_chunk.2.1 46 = .ok (.iload_n 2, 1) := by decide +kernel
theorem d_X_chunk_47 : decode mi_X_chunk.2.1 47 = .ok (.iload_n 3, 1) := by decide +kernel
theorem d_X_chunk_48 : decode mi_X_chunk.2.1 48 = .ok (.iload 6, 2) := by decide +kernel
theorem d_X_chunk_50 : decode mi_X_chunk.2.1 50 = .ok (.invokevirtual 102, 3) := by decide +kernel
theorem d_X_chunk_53 : decode mi_X_chunk.2.1 53 = .ok (.ifCond .eq 12, 3) := by decide +kernel
theorem d_X_chunk_56 : decode mi_X_chunk.2.1 56 = .ok (.aload_n 0, 1) := by decide +kernel
theorem d_X_chunk_57 : decode mi_X_chunk.2.1 57 = .ok (.getfield 31, 3) := by decide +kernel
theorem d_X_chunk_60 : decode mi_X_chunk.2.1 60 = .ok (.invokevirtual 106, 3) := by decide +kernel
theorem d_X_chunk_63 : decode mi_X_chunk.2.1 63 = .ok (.iconst 2, 1) := by decide +kernel
theorem d_X_chunk_64 : decode mi_X_chunk.2.1 64 = .ok (.ireturn, 1) := by decide +kernel
theorem d_X_chunk_65 : decode mi_X_chunk.2.1 65 = .ok (.aload_n 0, 1) := by decide +kernel
theorem d_X_chunk_66 : decode mi_X_chunk.2.1 66 = .ok (.getfield 31, 3) := by decide +kernel
theorem d_X_chunk_69 : decode mi_X_chunk.2.1 69 = .ok (.iload_n 1, 1) := by decide +kernel
theorem d_X_chunk_70 : decode mi_X_chunk.2.1 70 = .ok (.iload_n 2, 1) := by decide +kernel
theorem d_X_chunk_71 : decode mi_X_chunk.2.1 71 = .ok (.iload_n 3, 1) := by decide +kernel
theorem d_X_chunk_72 : decode mi_X_chunk.2.1 72 = .ok (.lload 4, 2) := by decide +kernel
theorem d_X_chunk_74 : decode mi_X_chunk.2.1 74 = .ok (.iload 6, 2) := by decide +kernel
theorem d_X_chunk_76 : decode mi_X_chunk.2.1 76 = .ok (.invokevirtual 109, 3) := by decide +kernel
theorem d_X_chunk_79 : decode mi_X_chunk.2.1 79 = .ok (.iload_n 1, 1) := by decide +kernel
theorem d_X_chunk_80 : decode mi_X_chunk.2.1 80 = .ok (.iconst 1, 1) := by decide +kernel
theorem d_X_chunk_81 : decode mi_X_chunk.2.1 81 = .ok (.if_icmp .eq 5, 3) := by decide +kernel
theorem d_X_chunk_84 : decode mi_X_chunk.2.1 84 = .ok (.iconst 0, 1) := by decide +kernel
theorem d_X_chunk_85 : decode mi_X_chunk.2.1 85 = .ok (.ireturn, 1) := by decide +kernel
theorem d_X_chunk_86 : decode mi_X_chunk.2.1 86 = .ok (.aload_n 0, 1) := by decide +kernel
theorem d_X_chunk_87 : decode mi_X_chunk.2.1 87 = .ok (.iload_n 3, 1) := by decide +kernel
theorem d_X_chunk_88 : decode mi_X_chunk.2.1 88 = .ok (.putfield 61, 3) := by decide +kernel
theorem d_X_chunk_91 : decode mi_X_chunk.2.1 91 = .ok (.aload_n 0, 1) := by decide +kernel
theorem d_X_chunk_92 : decode mi_X_chunk.2.1 92 = .ok (.getfield 40, 3) := by decide +kernel
theorem d_X_chunk_95 : decode mi_X_chunk.2.1 95 = .ok (.invokevirtual 71, 3) := by decide +kernel
theorem d_X_chunk_98 : decode mi_X_chunk.2.1 98 = .ok (.aload_n 0, 1) := by decide +kernel
theorem d_X_chunk_99 : decode mi_X_chunk.2.1 99 = .ok (.getfield 40, 3) := by decide +kernel
theorem d_X_chunk_102 : decode mi_X_chunk.2.1 102 = .ok (.iconst 0, 1) := by decide +kernel
theorem d_X_chunk_103 : decode mi_X_chunk.2.1 103 = .ok (.invokevirtual 92, 3) := by decide +kernel
theorem d_X_chunk_106 : decode mi_X_chunk.2.1 106 = .ok (.aload_n 0, 1) := by decide +kernel
theorem d_X_chunk_107 : decode mi_X_chunk.2.1 107 = .ok (.getfield 40, 3) := by decide +kernel
theorem d_X_chunk_110 : decode mi_X_chunk.2.1 110 = .ok (.iconst 0, 1) := by decide +kernel
theorem d_X_chunk_111 : decode mi_X_chunk.2.1 111 = .ok (.aload_n 0, 1) := by decide +kernel
theorem d_X_chunk_112 : decode mi_X_chunk.2.1 112 = .ok (.aload_n 0, 1) := by decide +kernel
theorem d_X_chunk_113 : decode mi_X_chunk.2.1 113 = .ok (.getfield 31, 3) := by decide +kernel
theorem d_X_chunk_116 : decode mi_X_chunk.2.1 116 = .ok (.getfield 113, 3) := by decide +kernel
theorem d_X_chunk_119 : decode mi_X_chunk.2.1 119 = .ok (.invokevirtual 117, 3) := by decide +kernel
theorem d_X_chunk_122 : decode mi_X_chunk.2.1 122 = .ok (.invokevirtual 121, 3) := by decide +kernel
theorem d_X_chunk_125 : decode mi_X_chunk.2.1 125 = .ok (.iconst 1, 1) := by decide +kernel
theorem d_X_chunk_126 : decode mi_X_chunk.2.1 126 = .ok (.ireturn, 1) := by decide +kernel
theorem d_X_serve_0 : decode mi_X_serve.2.1 0 = .ok (.aload_n 1, 1) := by decide +kernel
theorem d_X_serve_1 : decode mi_X_serve.2.1 1 = .ok (.invokevirtual 174, 3) := by decide +kernel
theorem d_X_serve_4 : decode mi_X_serve.2.1 4 = .ok (.aload_n 1, 1) := by decide +kernel
theorem d_X_serve_5 : decode mi_X_serve.2.1 5 = .ok (.invokevirtual 177, 3) := by decide +kernel
theorem d_X_serve_8 : decode mi_X_serve.2.1 8 = .ok (.ifCond .ne 5, 3) := by decide +kernel
theorem d_X_serve_11 : decode mi_X_serve.2.1 11 = .ok (.iconst 1, 1) := by decide +kernel
theorem d_X_serve_12 : decode mi_X_serve.2.1 12 = .ok (.ireturn, 1) := by decide +kernel
theorem d_X_serve_13 : decode mi_X_serve.2.1 13 = .ok (.aload_n 1, 1) := by decide +kernel
theorem d_X_serve_14 : decode mi_X_serve.2.1 14 = .ok (.invokevirtual 181, 3) := by decide +kernel
theorem d_X_serve_17 : decode mi_X_serve.2.1 17 = .ok (.tableswitch 75 1 6 #[39, 45, 51, 57, 63, 69], 39) := by decide +kernel
theorem d_X_serve_56 : decode mi_X_serve.2.1 56 = .ok (.aload_n 0, 1) := by decide +kernel
theorem d_X_serve_57 : decode mi_X_serve.2.1 57 = .ok (.aload_n 1, 1) := by decide +kernel
theorem d_X_serve_58 : decode mi_X_serve.2.1 58 = .ok (.invokevirtual 184, 3) := by decide +kernel
theorem d_X_serve_61 : decode mi_X_serve.2.1 61 = .ok (.ireturn, 1) := by decide +kernel
theorem d_X_serve_62 : decode mi_X_serve.2.1 62 = .ok (.aload_n 0, 1) := by decide +kernel
theorem d_X_serve_63 : decode mi_X_serve.2.1 63 = .ok (.aload_n 1, 1) := by decide +kernel
theorem d_X_serve_64 : decode mi_X_serve.2.1 64 = .ok (.invokevirtual 187, 3) := by decide +kernel
theorem d_X_serve_67 : decode mi_X_serve.2.1 67 = .ok (.ireturn, 1) := by decide +kernel
theorem d_X_serve_68 : decode mi_X_serve.2.1 68 = .ok (.aload_n 0, 1) := by decide +kernel
theorem d_X_serve_69 : decode mi_X_serve.2.1 69 = .ok (.aload_n 1, 1) := by decide +kernel
theorem d_X_serve_70 : decode mi_X_serve.2.1 70 = .ok (.invokevirtual 190, 3) := by decide +kernel
theorem d_X_serve_73 : decode mi_X_serve.2.1 73 = .ok (.ireturn, 1) := by decide +kernel
theorem d_X_serve_74 : decode mi_X_serve.2.1 74 = .ok (.aload_n 0, 1) := by decide +kernel
theorem d_X_serve_75 : decode mi_X_serve.2.1 75 = .ok (.aload_n 1, 1) := by decide +kernel
theorem d_X_serve_76 : decode mi_X_serve.2.1 76 = .ok (.invokevirtual 193, 3) := by decide +kernel
theorem d_X_serve_79 : decode mi_X_serve.2.1 79 = .ok (.ireturn, 1) := by decide +kernel
theorem d_X_serve_80 : decode mi_X_serve.2.1 80 = .ok (.aload_n 0, 1) := by decide +kernel
theorem d_X_serve_81 : decode mi_X_serve.2.1 81 = .ok (.aload_n 1, 1) := by decide +kernel
theorem d_X_serve_82 : decode mi_X_serve.2.1 82 = .ok (.invokevirtual 196, 3) := by decide +kernel
theorem d_X_serve_85 : decode mi_X_serve.2.1 85 = .ok (.ireturn, 1) := by decide +kernel
theorem d_X_serve_86 : decode mi_X_serve.2.1 86 = .ok (.aload_n 0, 1) := by decide +kernel
theorem d_X_serve_87 : decode mi_X_serve.2.1 87 = .ok (.aload_n 1, 1) := by decide +kernel
theorem d_X_serve_88 : decode mi_X_serve.2.1 88 = .ok (.invokevirtual 199, 3) := by decide +kernel
theorem d_X_serve_91 : decode mi_X_serve.2.1 91 = .ok (.ireturn, 1) := by decide +kernel
theorem d_X_serve_92 : decode mi_X_serve.2.1 92 = .ok (.iconst 2, 1) := by decide +kernel
theorem d_X_serve_93 : decode mi_X_serve.2.1 93 = .ok (.ireturn, 1) := by decide +kernel
theorem d_X_serveRead_0 : decode mi_X_serveRead.2.1 0 = .ok (.aload_n 1, 1) := by decide +kernel
theorem d_X_serveRead_1 : decode mi_X_serveRead.2.1 1 = .ok (.invokevirtual 202, 3) := by decide +kernel
theorem d_X_serveRead_4 : decode mi_X_serveRead.2.1 4 = .ok (.istore_n 2, 1) := by decide +kernel
theorem d_X_serveRead_5 : decode mi_X_serveRead.2.1 5 = .ok (.aload_n 1, 1) := by decide +kernel
theorem d_X_serveRead_6 : decode mi_X_serveRead.2.1 6 = .ok (.invokevirtual 205, 3) := by decide +kernel
theorem d_X_serveRead_9 : decode mi_X_serveRead.2.1 9 = .ok (.ifCond .ne 5, 3) := by decide +kernel
theorem d_X_serveRead_12 : decode mi_X_serveRead.2.1 12 = .ok (.iconst 1, 1) := by decide +kernel
theorem d_X_serveRead_13 : decode mi_X_serveRead.2.1 13 = .ok (.ireturn, 1) := by decide +kernel
theorem d_X_serveRead_14 : decode mi_X_serveRead.2.1 14 = .ok (.aload_n 0, 1) := by decide +kernel
theorem d_X_serveRead_15 : decode mi_X_serveRead.2.1 15 = .ok (.iload_n 2, 1) := by decide +kernel
theorem d_X_serveRead_16 : decode mi_X_serveRead.2.1 16 = .ok (.invokevirtual 209, 3) := by decide +kernel
theorem d_X_serveRead_19 : decode mi_X_serveRead.2.1 19 = .ok (.istore_n 3, 1) := by decide +kernel
theorem d_X_serveRead_20 : decode mi_X_serveRead.2.1 20 = .ok (.iload_n 3, 1) := by decide +kernel
theorem d_X_serveRead_21 : decode mi_X_serveRead.2.1 21 = .ok (.ifCond .ne 19, 3) := by decide +kernel
theorem d_X_serveRead_24 : decode mi_X_serveRead.2.1 24 = .ok (.aload_n 0, 1) := by decide +kernel
theorem d_X_serveRead_25 : decode mi_X_serveRead.2.1 25 = .ok (.getfield 40, 3) := by decide +kernel
theorem d_X_serveRead_28 : decode mi_X_serveRead.2.1 28 = .ok (.aload_n 0, 1) := by decide +kernel
theorem d_X_serveRead_29 : decode mi_X_serveRead.2.1 29 = .ok (.getfield 11, 3) := by decide +kernel
theorem d_X_serveRead_32 : decode mi_X_serveRead.2.1 32 = .ok (.iload_n 2, 1) := by decide +kernel
theorem d_X_serveRead_33 : decode mi_X_serveRead.2.1 33 = .ok (.aaload, 1) := by decide +kernel
theorem d_X_serveRead_34 : decode mi_X_serveRead.2.1 34 = .ok (.getfield 154, 3) := by decide +kernel
theorem d_X_serveRead_37 : decode mi_X_serveRead.2.1 37 = .ok (.invokevirtual 164, 3) := by decide +kernel
theorem d_X_serveRead_40 : decode mi_X_serveRead.2.1 40 = .ok (.iload_n 3, 1) := by decide +kernel
theorem d_X_serveRead_41 : decode mi_X_serveRead.2.1 41 = .ok (.ireturn, 1) := by decide +kernel
theorem d_X_checkVariable_0 : decode mi_X_checkVariable.2.1 0 = .ok (.aload_n 0, 1) := by decide +kernel
theorem d_X_checkVariable_1 : decode mi_X_checkVariable.2.1 1 = .ok (.iload_n 1, 1) := by decide +kernel
theorem d_X_checkVariable_2 : decode mi_X_checkVariable.2.1 2 = .ok (.invokevirtual 157, 3) := by decide +kernel
theorem d_X_checkVariable_5 : decode mi_X_checkVariable.2.1 5 = .ok (.ifCond .ne 5, 3) := by decide +kernel
theorem d_X_checkVariable_8 : decode mi_X_checkVariable.2.1 8 = .ok (.iconst 3, 1) := by decide +kernel
theorem d_X_checkVariable_9 : decode mi_X_checkVariable.2.1 9 = .ok (.ireturn, 1) := by decide +kernel
theorem d_X_checkVariable_10 : decode mi_X_checkVariable.2.1 10 = .ok (.aload_n 0, 1) := by decide +kernel
theorem d_X_checkVariable_11 : decode mi_X_checkVariable.2.1 11 = .ok (.iload_n 1, 1) := by decide +kernel
theorem d_X_checkVariable_12 : decode mi_X_checkVariable.2.1 12 = .ok (.invokevirtual 86, 3) := by decide +kernel
theorem d_X_checkVariable_15 : decode mi_X_checkVariable.2.1 15 = .ok (.ifCond .eq 7, 3) := by decide +kernel
theorem d_X_checkVariable_18 : decode mi_X_checkVariable.2.1 18 = .ok (.iconst 0, 1) := by decide +kernel
theorem d_X_checkVariable_19 : decode mi_X_checkVariable.2.1 19 = .ok (.goto 4, 3) := by decide +kernel
theorem d_X_checkVariable_22 : decode mi_X_checkVariable.2.1 22 = .ok (.iconst 4, 1) := by decide +kernel
theorem d_X_checkVariable_23 : decode mi_X_checkVariable.2.1 23 = .ok (.ireturn, 1) := by decide +kernel
theorem d_X_serveWrite_0 : decode mi_X_serveWrite.2.1 0 = .ok (.aload_n 1, 1) := by decide +kernel
theorem d_X_serveWrite_1 : decode mi_X_serveWrite.2.1 1 = .ok (.invokevirtual 202, 3) := by decide +kernel
theorem d_X_serveWrite_4 : decode mi_X_serveWrite.2.1 4 = .ok (.istore_n 2, 1) := by decide +kernel
theorem d_X_serveWrite_5 : decode mi_X_serveWrite.2.1 5 = .ok (.aload_n 0, 1) := by decide +kernel
theorem d_X_serveWrite_6 : decode mi_X_serveWrite.2.1 6 = .ok (.getfield 44, 3) := by decide +kernel
theorem d_X_serveWrite_9 : decode mi_X_serveWrite.2.1 9 = .ok (.invokevirtual 71, 3) := by decide +kernel
theorem d_X_serveWrite_12 : decode mi_X_serveWrite.2.1 12 = .ok (.aload_n 1, 1) := by decide +kernel
theorem d_X_serveWrite_13 : decode mi_X_serveWrite.2.1 13 = .ok (.aload_n 0, 1) := by decide +kernel
theorem d_X_serveWrite_14 : decode mi_X_serveWrite.2.1 14 = .ok (.getfield 44, 3) := by decide +kernel
theorem d_X_serveWrite_17 : decode mi_X_serveWrite.2.1 17 = .ok (.iconst 0, 1) := by decide +kernel
theorem d_X_serveWrite_18 : decode mi_X_serveWrite.2.1 18 = .ok (.invokevirtual 212, 3) := by decide +kernel
theorem d_X_serveWrite_21 : decode mi_X_serveWrite.2.1 21 = .ok (.aload_n 1, 1) := by decide +kernel
theorem d_X_serveWrite_22 : decode mi_X_serveWrite.2.1 22 = .ok (.invokevirtual 205, 3) := by decide +kernel
theorem d_X_serveWrite_25 : decode mi_X_serveWrite.2.1 25 = .ok (.ifCond .ne 5, 3) := by decide +kernel
theorem d_X_serveWrite_28 : decode mi_X_serveWrite.2.1 28 = .ok (.iconst 1, 1) := by decide +kernel
theorem d_X_serveWrite_29 : decode mi_X_serveWrite.2.1 29 = .ok (.ireturn, 1) := by decide +kernel
theorem d_X_serveWrite_30 : decode mi_X_serveWrite.2.1 30 = .ok (.aload_n 0, 1) := by decide +kernel
theorem d_X_serveWrite_31 : decode mi_X_serveWrite.2.1 31 = .ok (.iload_n 2, 1) := by decide +kernel
theorem d_X_serveWrite_32 : decode mi_X_serveWrite.2.1 32 = .ok (.invokevirtual 209, 3) := by decide +kernel
theorem d_X_serveWrite_35 : decode mi_X_serveWrite.2.1 35 = .ok (.istore_n 3, 1) := by decide +kernel
theorem d_X_serveWrite_36 : decode mi_X_serveWrite.2.1 36 = .ok (.iload_n 3, 1) := by decide +kernel
theorem d_X_serveWrite_37 : decode mi_X_serveWrite.2.1 37 = .ok (.ifCond .eq 5, 3) := by decide +kernel
theorem d_X_serveWrite_40 : decode mi_X_serveWrite.2.1 40 = .ok (.iload_n 3, 1) := by decide +kernel
theorem d_X_serveWrite_41 : decode mi_X_serveWrite.2.1 41 = .ok (.ireturn, 1) := by decide +kernel
theorem d_X_serveWrite_42 : decode mi_X_serveWrite.2.1 42 = .ok (.aload_n 0, 1) := by decide +kernel
theorem d_X_serveWrite_43 : decode mi_X_serveWrite.2.1 43 = .ok (.getfield 11, 3) := by decide +kernel
theorem d_X_serveWrite_46 : decode mi_X_serveWrite.2.1 46 = .ok (.iload_n 2, 1) := by decide +kernel
theorem d_X_serveWrite_47 : decode mi_X_serveWrite.2.1 47 = .ok (.aaload, 1) := by decide +kernel
theorem d_X_serveWrite_48 : decode mi_X_serveWrite.2.1 48 = .ok (.getfield 89, 3) := by decide +kernel
theorem d_X_serveWrite_51 : decode mi_X_serveWrite.2.1 51 = .ok (.istore 4, 2) := by decide +kernel
theorem d_X_serveWrite_53 : decode mi_X_serveWrite.2.1 53 = .ok (.iload 4, 2) := by decide +kernel
theorem d_X_serveWrite_55 : decode mi_X_serveWrite.2.1 55 = .ok (.ifCond .eq 18, 3) := by decide +kernel
theorem d_X_serveWrite_58 : decode mi_X_serveWrite.2.1 58 = .ok (.iload 4, 2) := by decide +kernel
theorem d_X_serveWrite_60 : decode mi_X_serveWrite.2.1 60 = .ok (.aload_n 0, 1) := by decide +kernel
theorem d_X_serveWrite_61 : decode mi_X_serveWrite.2.1 61 = .ok (.getfield 44, 3) := by decide +kernel
theorem d_X_serveWrite_64 : decode mi_X_serveWrite.2.1 64 = .ok (.iconst 0, 1) := by decide +kernel
theorem d_X_serveWrite_65 : decode mi_X_serveWrite.2.1 65 = .ok (.invokevirtual 135, 3) := by decide +kernel
theorem d_X_serveWrite_68 : decode mi_X_serveWrite.2.1 68 = .ok (.if_icmp .eq 5, 3) := by decide +kernel
theorem d_X_serveWrite_71 : decode mi_X_serveWrite.2.1 71 = .ok (.iconst 5, 1) := by decide +kernel
theorem d_X_serveWrite_72 : decode mi_X_serveWrite.2.1 72 = .ok (.ireturn, 1) := by decide +kernel
theorem d_X_serveWrite_73 : decode mi_X_serveWrite.2.1 73 = .ok (.aload_n 0, 1) := by decide +kernel
theorem d_X_serveWrite_74 : decode mi_X_serveWrite.2.1 74 = .ok (.iload_n 2, 1) := by decide +kernel
theorem d_X_serveWrite_75 : decode mi_X_serveWrite.2.1 75 = .ok (.invokevirtual 99, 3) := by decide +kernel
theorem d_X_serveWrite_78 : decode mi_X_serveWrite.2.1 78 = .ok (.pop, 1) := by decide +kernel
theorem d_X_serveWrite_79 : decode mi_X_serveWrite.2.1 79 = .ok (.iconst 0, 1) := by decide +kernel
theorem d_X_serveWrite_80 : decode mi_X_serveWrite.2.1 80 = .ok (.ireturn, 1) := by decide +kernel
theorem d_X_serveBrowse_0 : decode mi_X_serveBrowse.2.1 0 = .ok (.aload_n 1, 1) := by decide +kernel
theorem d_X_serveBrowse_1 : decode mi_X_serveBrowse.2.1 1 = .ok (.invokevirtual 202, 3) := by decide +kernel
theorem d_X_serveBrowse_4 : decode mi_X_serveBrowse.2.1 4 = .ok (.istore_n 2, 1) := by decide +kernel
theorem d_X_serveBrowse_5 : decode mi_X_serveBrowse.2.1 5 = .ok (.aload_n 1, 1) := by decide +kernel
theorem d_X_serveBrowse_6 : decode mi_X_serveBrowse.2.1 6 = .ok (.invokevirtual 181, 3) := by decide +kernel
theorem d_X_serveBrowse_9 : decode mi_X_serveBrowse.2.1 9 = .ok (.istore_n 3, 1) := by decide +kernel
theorem d_X_serveBrowse_10 : decode mi_X_serveBrowse.2.1 10 = .ok (.aload_n 1, 1) := by decide +kernel
theorem d_X_serveBrowse_11 : decode mi_X_serveBrowse.2.1 11 = .ok (.invokevirtual 205, 3) := by decide +kernel
theorem d_X_serveBrowse_14 : decode mi_X_serveBrowse.2.1 14 = .ok (.ifCond .eq 8, 3) := by decide +kernel
theorem d_X_serveBrowse_17 : decode mi_X_serveBrowse.2.1 17 = .ok (.iload_n 3, 1) := by decide +kernel
theorem d_X_serveBrowse_18 : decode mi_X_serveBrowse.2.1 18 = .ok (.iconst 1, 1) := by decide +kernel
theorem d_X_serveBrowse_19 : decode mi_X_serveBrowse.2.1 19 = .ok (.if_icmp .le 5, 3) := by decide +kernel
theorem d_X_serveBrowse_22 : decode mi_X_serveBrowse.2.1 22 = .ok (.iconst 1, 1) := by decide +kernel
theorem d_X_serveBrowse_23 : decode mi_X_serveBrowse.2.1 23 = .ok (.ireturn, 1) := by decide +kernel
theorem d_X_serveBrowse_24 : decode mi_X_serveBrowse.2.1 24 = .ok (.aload_n 0, 1) := by decide +kernel
theorem d_X_serveBrowse_25 : decode mi_X_serveBrowse.2.1 25 = .ok (.iload_n 2, 1) := by decide +kernel
theorem d_X_serveBrowse_26 : decode mi_X_serveBrowse.2.1 26 = .ok (.invokevirtual 157, 3) := by decide +kernel
theorem d_X_serveBrowse_29 : decode mi_X_serveBrowse.2.1 29 = .ok (.ifCond .ne 5, 3) := by decide +kernel
theorem d_X_serveBrowse_32 : decode mi_X_serveBrowse.2.1 32 = .ok (.iconst 3, 1) := by decide +kernel
theorem d_X_serveBrowse_33 : decode mi_X_serveBrowse.2.1 33 = .ok (.ireturn, 1) := by decide +kernel
theorem d_X_serveBrowse_34 : decode mi_X_serveBrowse.2.1 34 = .ok (.aload_n 0, 1) := by decide +kernel
theorem d_X_serveBrowse_35 : decode mi_X_serveBrowse.2.1 35 = .ok (.getfield 40, 3) := by decide +kernel
theorem d_X_serveBrowse_38 : decode mi_X_serveBrowse.2.1 38 = .ok (.iconst 0, 1) := by decide +kernel
theorem d_X_serveBrowse_39 : decode mi_X_serveBrowse.2.1 39 = .ok (.invokevirtual 92, 3) := by decide +kernel
theorem d_X_serveBrowse_42 : decode mi_X_serveBrowse.2.1 42 = .ok (.iload_n 3, 1) := by decide +kernel
theorem d_X_serveBrowse_43 : decode mi_X_serveBrowse.2.1 43 = .ok (.iconst 1, 1) := by decide +kernel
theorem d_X_serveBrowse_44 : decode mi_X_serveBrowse.2.1 44 = .ok (.if_icmp .ne 11, 3) := by decide +kernel
theorem d_X_serveBrowse_47 : decode mi_X_serveBrowse.2.1 47 = .ok (.aload_n 0, 1) := by decide +kernel
theorem d_X_serveBrowse_48 : decode mi_X_serveBrowse.2.1 48 = .ok (.iload_n 2, 1) := by decide +kernel
theorem d_X_serveBrowse_49 : decode mi_X_serveBrowse.2.1 49 = .ok (.invokevirtual 216, 3) := by decide +kernel
theorem d_X_serveBrowse_52 : decode mi_X_serveBrowse.2.1 52 = .ok (.goto 8, 3) := by decide +kernel
theorem d_X_serveBrowse_55 : decode mi_X_serveBrowse.2.1 55 = .ok (.aload_n 0, 1) := by decide +kernel
theorem d_X_serveBrowse_56 : decode mi_X_serveBrowse.2.1 56 = .ok (.iload_n 2, 1) := by decide +kernel
theorem d_X_serveBrowse_57 : decode mi_X_serveBrowse.2.1 57 = .ok (.invokevirtual 219, 3) := by decide +kernel
theorem d_X_serveBrowse_60 : decode mi_X_serveBrowse.2.1 60 = .ok (.iconst 0, 1) := by decide +kernel
theorem d_X_serveBrowse_61 : decode mi_X_serveBrowse.2.1 61 = .ok (.ireturn, 1) := by decide +kernel
theorem d_X_replyParent_0 : decode mi_X_replyParent.2.1 0 = .ok (.aload_n 0, 1) := by decide +kernel
theorem d_X_replyParent_1 : decode mi_X_replyParent.2.1 1 = .ok (.getfield 11, 3) := by decide +kernel
theorem d_X_replyParent_4 : decode mi_X_replyParent.2.1 4 = .ok (.iload_n 1, 1) := by decide +kernel
theorem d_X_replyParent_5 : decode mi_X_replyParent.2.1 5 = .ok (.aaload, 1) := by decide +kernel
theorem d_X_replyParent_6 : decode mi_X_replyParent.2.1 6 = .ok (.getfield 222, 3) := by decide +kernel
theorem d_X_replyParent_9 : decode mi_X_replyParent.2.1 9 = .ok (.iconst (-1), 1) := by decide +kernel
theorem d_X_replyParent_10 : decode mi_X_replyParent.2.1 10 = .ok (.if_icmp .eq 16, 3) := by decide +kernel
theorem d_X_replyParent_13 : decode mi_X_replyParent.2.1 13 = .ok (.aload_n 0, 1) := by decide +kernel
theorem d_X_replyParent_14 : decode mi_X_replyParent.2.1 14 = .ok (.aload_n 0, 1) := by decide +kernel
theorem d_X_replyParent_15 : decode mi_X_replyParent.2.1 15 = .ok (.getfield 11, 3) := by decide +kernel
theorem d_X_replyParent_18 : decode mi_X_replyParent.2.1 18 = .ok (.iload_n 1, 1) := by decide +kernel
theorem d_X_replyParent_19 : decode mi_X_replyParent.2.1 19 = .ok (.aaload, 1) := by decide +kernel
theorem d_X_replyParent_20 : decode mi_X_replyParent.2.1 20 = .ok (.getfield 222, 3) := by decide +kernel
theorem d_X_replyParent_23 : decode mi_X_replyParent.2.1 23 = .ok (.invokevirtual 225, 3) := by decide +kernel
theorem d_X_replyParent_26 : decode mi_X_replyParent.2.1 26 = .ok (.return_, 1) := by decide +kernel
theorem d_X_replyName_0 : decode mi_X_replyName.2.1 0 = .ok (.aload_n 0, 1) := by decide +kernel
theorem d_X_replyName_1 : decode mi_X_replyName.2.1 1 = .ok (.getfield 40, 3) := by decide +kernel
theorem d_X_replyName_4 : decode mi_X_replyName.2.1 4 = .ok (.iconst 1, 1) := by decide +kernel
theorem d_X_replyName_5 : decode mi_X_replyName.2.1 5 = .ok (.aload_n 0, 1) := by decide +kernel
theorem d_X_replyName_6 : decode mi_X_replyName.2.1 6 = .ok (.getfield 40, 3) := by decide +kernel
theorem d_X_replyName_9 : decode mi_X_replyName.2.1 9 = .ok (.iconst 1, 1) := by decide +kernel
theorem d_X_replyName_10 : decode mi_X_replyName.2.1 10 = .ok (.invokevirtual 135, 3) := by decide +kernel
theorem d_X_replyName_13 : decode mi_X_replyName.2.1 13 = .ok (.iconst 1, 1) := by decide +kernel
theorem d_X_replyName_14 : decode mi_X_replyName.2.1 14 = .ok (.iadd, 1) := by decide +kernel
theorem d_X_replyName_15 : decode mi_X_replyName.2.1 15 = .ok (.invokevirtual 121, 3) := by decide +kernel
theorem d_X_replyName_18 : decode mi_X_replyName.2.1 18 = .ok (.aload_n 0, 1) := by decide +kernel
theorem d_X_replyName_19 : decode mi_X_replyName.2.1 19 = .ok (.getfield 40, 3) := by decide +kernel
theorem d_X_replyName_22 : decode mi_X_replyName.2.1 22 = .ok (.iconst 0, 1) := by decide +kernel
theorem d_X_replyName_23 : decode mi_X_replyName.2.1 23 = .ok (.invokevirtual 92, 3) := by decide +kernel
theorem d_X_replyName_26 : decode mi_X_replyName.2.1 26 = .ok (.aload_n 0, 1) := by decide +kernel
theorem d_X_replyName_27 : decode mi_X_replyName.2.1 27 = .ok (.getfield 40, 3) := by decide +kernel
theorem d_X_replyName_30 : decode mi_X_replyName.2.1 30 = .ok (.iload_n 1, 1) := by decide +kernel
theorem d_X_replyName_31 : decode mi_X_replyName.2.1 31 = .ok (.invokevirtual 92, 3) := by decide +kernel
theorem d_X_replyName_34 : decode mi_X_replyName.2.1 34 = .ok (.return_, 1) := by decide +kernel
theorem d_X_replyChildren_0 : decode mi_X_replyChildren.2.1 0 = .ok (.iconst 0, 1) := by decide +kernel
theorem d_X_replyChildren_1 : decode mi_X_replyChildren.2.1 1 = .ok (.istore_n 2, 1) := by decide +kernel
theorem d_X_replyChildren_2 : decode mi_X_replyChildren.2.1 2 = .ok (.iload_n 2, 1) := by decide +kernel
theorem d_X_replyChildren_3 : decode mi_X_replyChildren.2.1 3 = .ok (.aload_n 0, 1) := by decide +kernel
theorem d_X_replyChildren_4 : decode mi_X_replyChildren.2.1 4 = .ok (.getfield 57, 3) := by decide +kernel
theorem d_X_replyChildren_7 : decode mi_X_replyChildren.2.1 7 = .ok (.if_icmp .ge 27, 3) := by decide +kernel
theorem d_X_replyChildren_10 : decode mi_X_replyChildren.2.1 10 = .ok (.aload_n 0, 1) := by decide +kernel
theorem d_X_replyChildren_11 : decode mi_X_replyChildren.2.1 11 = .ok (.getfield 11, 3) := by decide +kernel
theorem d_X_replyChildren_14 : decode mi_X_replyChildren.2.1 14 = .ok (.iload_n 2, 1) := by decide +kernel
theorem d_X_replyChildren_15 : decode mi_X_replyChildren.2.1 15 = .ok (.aaload, 1) := by decide +kernel
theorem d_X_replyChildren_16 : decode mi_X_replyChildren.2.1 16 = .ok (.getfield 222, 3) := by decide +kernel
theorem d_X_replyChildren_19 : decode mi_X_replyChildren.2.1 19 = .ok (.iload_n 1, 1) := by decide +kernel
theorem d_X_replyChildren_20 : decode mi_X_replyChildren.2.1 20 = .ok (.if_icmp .ne 8, 3) := by decide +kernel
theorem d_X_replyChildren_23 : decode mi_X_replyChildren.2.1 23 = .ok (.aload_n 0, 1) := by decide +kernel
theorem d_X_replyChildren_24 : decode mi_X_replyChildren.2.1 24 = .ok (.iload_n 2, 1) := by decide +kernel
theorem d_X_replyChildren_25 : decode mi_X_replyChildren.2.1 25 = .ok (.invokevirtual 225, 3) := by decide +kernel
theorem d_X_replyChildren_28 : decode mi_X_replyChildren.2.1 28 = .ok (.iinc 2 1, 3) := by decide +kernel
theorem d_X_replyChildren_31 : decode mi_X_replyChildren.2.1 31 = .ok (.goto (-29), 3) := by decide +kernel
theorem d_X_replyChildren_34 : decode mi_X_replyChildren.2.1 34 = .ok (.return_, 1) := by decide +kernel
theorem d_X_serveWatch_0 : decode mi_X_serveWatch.2.1 0 = .ok (.aload_n 1, 1) := by decide +kernel
theorem d_X_serveWatch_1 : decode mi_X_serveWatch.2.1 1 = .ok (.invokevirtual 202, 3) := by decide +kernel
theorem d_X_serveWatch_4 : decode mi_X_serveWatch.2.1 4 = .ok (.istore_n 2, 1) := by decide +kernel
theorem d_X_serveWatch_5 : decode mi_X_serveWatch.2.1 5 = .ok (.aload_n 1, 1) := by decide +kernel
theorem d_X_serveWatch_6 : decode mi_X_serveWatch.2.1 6 = .ok (.invokevirtual 181, 3) := by decide +kernel
theorem d_X_serveWatch_9 : decode mi_X_serveWatch.2.1 9 = .ok (.istore_n 3, 1) := by decide +kernel
theorem d_X_serveWatch_10 : decode mi_X_serveWatch.2.1 10 = .ok (.aload_n 1, 1) := by decide +kernel
theorem d_X_serveWatch_11 : decode mi_X_serveWatch.2.1 11 = .ok (.invokevirtual 181, 3) := by decide +kernel
theorem d_X_serveWatch_14 : decode mi_X_serveWatch.2.1 14 = .ok (.istore 4, 2) := by decide +kernel
theorem d_X_serveWatch_16 : decode mi_X_serveWatch.2.1 16 = .ok (.aload_n 1, 1) := by decide +kernel
theorem d_X_serveWatch_17 : decode mi_X_serveWatch.2.1 17 = .ok (.invokevirtual 205, 3) := by decide +kernel
theorem d_X_serveWatch_20 : decode mi_X_serveWatch.2.1 20 = .ok (.ifCond .ne 5, 3) := by decide +kernel
theorem d_X_serveWatch_23 : decode mi_X_serveWatch.2.1 23 = .ok (.iconst 1, 1) := by decide +kernel
theorem d_X_serveWatch_24 : decode mi_X_serveWatch.2.1 24 = .ok (.ireturn, 1) := by decide +kernel
theorem d_X_serveWatch_25 : decode mi_X_serveWatch.2.1 25 = .ok (.aload_n 0, 1) := by decide +kernel
theorem d_X_serveWatch_26 : decode mi_X_serveWatch.2.1 26 = .ok (.iload_n 2, 1) := by decide +kernel
theorem d_X_serveWatch_27 : decode mi_X_serveWatch.2.1 27 = .ok (.invokevirtual 209, 3) := by decide +kernel
theorem d_X_serveWatch_30 : decode mi_X_serveWatch.2.1 30 = .ok (.istore 5, 2) := by decide +kernel
theorem d_X_serveWatch_32 : decode mi_X_serveWatch.2.1 32 = .ok (.iload 5, 2) := by decide +kernel
theorem d_X_serveWatch_34 : decode mi_X_serveWatch.2.1 34 = .ok (.ifCond .eq 6, 3) := by decide +kernel
theorem d_X_serveWatch_37 : decode mi_X_serveWatch.2.1 37 = .ok (.iload 5, 2) := by decide +kernel
theorem d_X_serveWatch_39 : decode mi_X_serveWatch.2.1 39 = .ok (.ireturn, 1) := by decide +kernel
theorem d_X_serveWatch_40 : decode mi_X_serveWatch.2.1 40 = .ok (.aload_n 0, 1) := by decide +kernel
theorem d_X_serveWatch_41 : decode mi_X_serveWatch.2.1 41 = .ok (.getfield 67, 3) := by decide +kernel
theorem d_X_serveWatch_44 : decode mi_X_serveWatch.2.1 44 = .ok (.bipush 6, 2) := by decide +kernel
theorem d_X_serveWatch_46 : decode mi_X_serveWatch.2.1 46 = .ok (.if_icmp .ne 6, 3) := by decide +kernel
theorem d_X_serveWatch_49 : decode mi_X_serveWatch.2.1 49 = .ok (.bipush 6, 2) := by decide +kernel
theorem d_X_serveWatch_51 : decode mi_X_serveWatch.2.1 51 = .ok (.ireturn, 1) := by decide +kernel
theorem d_X_serveWatch_52 : decode mi_X_serveWatch.2.1 52 = .ok (.aload_n 0, 1) := by decide +kernel
theorem d_X_serveWatch_53 : decode mi_X_serveWatch.2.1 53 = .ok (.getfield 17, 3) := by decide +kernel
theorem d_X_serveWatch_56 : decode mi_X_serveWatch.2.1 56 = .ok (.aload_n 0, 1) := by decide +kernel
theorem d_X_serveWatch_57 : decode mi_X_serveWatch.2.1 57 = .ok (.getfield 67, 3) := by decide +kernel
theorem d_X_serveWatch_60 : decode mi_X_serveWatch.2.1 60 = .ok (.aaload, 1) := by decide +kernel
theorem d_X_serveWatch_61 : decode mi_X_serveWatch.2.1 61 = .ok (.iload_n 2, 1) := by decide +kernel
theorem d_X_serveWatch_62 : decode mi_X_serveWatch.2.1 62 = .ok (.iconst 1, 1) := by decide +kernel
theorem d_X_serveWatch_63 : decode mi_X_serveWatch.2.1 63 = .ok (.iload_n 3, 1) := by decide +kernel
theorem d_X_serveWatch_64 : decode mi_X_serveWatch.2.1 64 = .ok (.iconst 4, 1) := by decide +kernel
theorem d_X_serveWatch_65 : decode mi_X_serveWatch.2.1 65 = .ok (.invokestatic 228, 3) := by decide +kernel
theorem d_X_serveWatch_68 : decode mi_X_serveWatch.2.1 68 = .ok (.invokestatic 233, 3) := by decide +kernel
theorem d_X_serveWatch_71 : decode mi_X_serveWatch.2.1 71 = .ok (.iload 4, 2) := by decide +kernel
theorem d_X_serveWatch_73 : decode mi_X_serveWatch.2.1 73 = .ok (.ifCond .eq 7, 3) := by decide +kernel
theorem d_X_serveWatch_76 : decode mi_X_serveWatch.2.1 76 = .ok (.iconst 1, 1) := by decide +kernel
theorem d_X_serveWatch_77 : decode mi_X_serveWatch.2.1 77 = .ok (.goto 4, 3) := by decide +kernel
theorem d_X_serveWatch_80 : decode mi_X_serveWatch.2.1 80 = .ok (.iconst 0, 1) := by decide +kernel
theorem d_X_serveWatch_81 : decode mi_X_serveWatch.2.1 81 = .ok (.invokevirtual 236, 3) := by decide +kernel
theorem d_X_serveWatch_84 : decode mi_X_serveWatch.2.1 84 = .ok (.aload_n 0, 1) := by decide +kernel
theorem d_X_serveWatch_85 : decode mi_X_serveWatch.2.1 85 = .ok (.getfield 17, 3) := by decide +kernel
theorem d_X_serveWatch_88 : decode mi_X_serveWatch.2.1 88 = .ok (.aload_n 0, 1) := by decide +kernel
theorem d_X_serveWatch_89 : decode mi_X_serveWatch.2.1 89 = .ok (.getfield 67, 3) := by decide +kernel
theorem d_X_serveWatch_92 : decode mi_X_serveWatch.2.1 92 = .ok (.aaload, 1) := by decide +kernel
theorem d_X_serveWatch_93 : decode mi_X_serveWatch.2.1 93 = .ok (.aload_n 0, 1) := by decide +kernel
theorem d_X_serveWatch_94 : decode mi_X_serveWatch.2.1 94 = .ok (.getfield 11, 3) := by decide +kernel
theorem d_X_serveWatch_97 : decode mi_X_serveWatch.2.1 97 = .ok (.iload_n 2, 1) := by decide +kernel
theorem d_X_serveWatch_98 : decode mi_X_serveWatch.2.1 98 = .ok (.aaload, 1) := by decide +kernel
theorem d_X_serveWatch_99 : decode mi_X_serveWatch.2.1 99 = .ok (.getfield 154, 3) := by decide +kernel
theorem d_X_serveWatch_102 : decode mi_X_serveWatch.2.1 102 = .ok (.invokevirtual 171, 3) := by decide +kernel
theorem d_X_serveWatch_105 : decode mi_X_serveWatch.2.1 105 = .ok (.aload_n 0, 1) := by decide +kernel
theorem d_X_serveWatch_106 : decode mi_X_serveWatch.2.1 106 = .ok (.getfield 40, 3) := by decide +kernel
theorem d_X_serveWatch_109 : decode mi_X_serveWatch.2.1 109 = .ok (.aload_n 0, 1) := by decide +kernel
theorem d_X_serveWatch_110 : decode mi_X_serveWatch.2.1 110 = .ok (.getfield 67, 3) := by decide +kernel
theorem d_X_serveWatch_113 : decode mi_X_serveWatch.2.1 113 = .ok (.invokevirtual 92, 3) := by decide +kernel
theorem d_X_serveWatch_116 : decode mi_X_serveWatch.2.1 116 = .ok (.aload_n 0, 1) := by decide +kernel
theorem d_X_serveWatch_117 : decode mi_X_serveWatch.2.1 117 = .ok (.dup, 1) := by decide +kernel
theorem d_X_serveWatch_118 : decode mi_X_serveWatch.2.1 118 = .ok (.getfield 67, 3) := by decide +kernel
theorem d_X_serveWatch_121 : decode mi_X_serveWatch.2.1 121 = .ok (.iconst 1, 1) := by decide +kernel
theorem d_X_serveWatch_122 : decode mi_X_serveWatch.2.1 122 = .ok (.iadd, 1) := by decide +kernel
theorem d_X_serveWatch_123 : decode mi_X_serveWatch.2.1 123 = .ok (.putfield 67, 3) := by decide +kernel
theorem d_X_serveWatch_126 : decode mi_X_serveWatch.2.1 126 = .ok (.iconst 0, 1) := by decide +kernel
theorem d_X_serveWatch_127 : decode mi_X_serveWatch.2.1 127 = .ok (.ireturn, 1) := by decide +kernel
theorem d_X_servePublish_0 : decode mi_X_servePublish.2.1 0 = .ok (.aload_n 1, 1) := by decide +kernel
theorem d_X_servePublish_1 : decode mi_X_servePublish.2.1 1 = .ok (.invokevirtual 181, 3) := by decide +kernel
theorem d_X_servePublish_4 : decode mi_X_servePublish.2.1 4 = .ok (.istore_n 2, 1) := by decide +kernel
theorem d_X_servePublish_5 : decode mi_X_servePublish.2.1 5 = .ok (.iload_n 2, 1) := by decide +kernel
theorem d_X_servePublish_6 : decode mi_X_servePublish.2.1 6 = .ok (.iconst 4, 1) := by decide +kernel
theorem d_X_servePublish_7 : decode mi_X_servePublish.2.1 7 = .ok (.if_icmp .le 5, 3) := by decide +kernel
theorem d_X_servePublish_10 : decode mi_X_servePublish.2.1 10 = .ok (.iconst 1, 1) := by decide +kernel
theorem d_X_servePublish_11 : decode mi_X_servePublish.2.1 11 = .ok (.ireturn, 1) := by decide +kernel
theorem d_X_servePublish_12 : decode mi_X_servePublish.2.1 12 = .ok (.iconst 0, 1) := by decide +kernel
theorem d_X_servePublish_13 : decode mi_X_servePublish.2.1 13 = .ok (.istore_n 3, 1) := by decide +kernel
theorem d_X_servePublish_14 : decode mi_X_servePublish.2.1 14 = .ok (.iload_n 3, 1) := by decide +kernel
theorem d_X_servePublish_15 : decode mi_X_servePublish.2.1 15 = .ok (.iload_n 2, 1) := by decide +kernel
theorem d_X_servePublish_16 : decode mi_X_servePublish.2.1 16 = .ok (.if_icmp .ge 19, 3) := by decide +kernel
theorem d_X_servePublish_19 : decode mi_X_servePublish.2.1 19 = .ok (.aload_n 0, 1) := by decide +kernel
theorem d_X_servePublish_20 : decode mi_X_servePublish.2.1 20 = .ok (.getfield 47, 3) := by decide +kernel
theorem d_X_servePublish_23 : decode mi_X_servePublish.2.1 23 = .ok (.iload_n 3, 1) := by decide +kernel
theorem d_X_servePublish_24 : decode mi_X_servePublish.2.1 24 = .ok (.aload_n 1, 1) := by decide +kernel
theorem d_X_servePublish_25 : decode mi_X_servePublish.2.1 25 = .ok (.invokevirtual 240, 3) := by decide +kernel
theorem d_X_servePublish_28 : decode mi_X_servePublish.2.1 28 = .ok (.iastore, 1) := by decide +kernel
theorem d_X_servePublish_29 : decode mi_X_servePublish.2.1 29 = .ok (.iinc 3 1, 3) := by decide +kernel
theorem d_X_servePublish_32 : decode mi_X_servePublish.2.1 32 = .ok (.goto (-18), 3) := by decide +kernel
theorem d_X_servePublish_35 : decode mi_X_servePublish.2.1 35 = .ok (.aload_n 1, 1) := by decide +kernel
theorem d_X_servePublish_36 : decode mi_X_servePublish.2.1 36 = .ok (.invokevirtual 205, 3) := by decide +kernel
theorem d_X_servePublish_39 : decode mi_X_servePublish.2.1 39 = .ok (.ifCond .ne 5, 3) := by decide +kernel
theorem d_X_servePublish_42 : decode mi_X_servePublish.2.1 42 = .ok (.iconst 1, 1) := by decide +kernel
theorem d_X_servePublish_43 : decode mi_X_servePublish.2.1 43 = .ok (.ireturn, 1) := by decide +kernel
theorem d_X_servePublish_44 : decode mi_X_servePublish.2.1 44 = .ok (.iconst 0, 1) := by decide +kernel
theorem d_X_servePublish_45 : decode mi_X_servePublish.2.1 45 = .ok (.istore_n 3, 1) := by decide +kernel
theorem d_X_servePublish_46 : decode mi_X_servePublish.2.1 46 = .ok (.iload_n 3, 1) := by decide +kernel
theorem d_X_servePublish_47 : decode mi_X_servePublish.2.1 47 = .ok (.iload_n 2, 1) := by decide +kernel
theorem d_X_servePublish_48 : decode mi_X_servePublish.2.1 48 = .ok (.if_icmp .ge 22, 3) := by decide +kernel
theorem d_X_servePublish_51 : decode mi_X_servePublish.2.1 51 = .ok (.aload_n 0, 1) := by decide +kernel
theorem d_X_servePublish_52 : decode mi_X_servePublish.2.1 52 = .ok (.getfield 24, 3) := by decide +kernel
theorem d_X_servePublish_55 : decode mi_X_servePublish.2.1 55 = .ok (.aload_n 0, 1) := by decide +kernel
theorem d_X_servePublish_56 : decode mi_X_servePublish.2.1 56 = .ok (.getfield 47, 3) := by decide +kernel
theorem d_X_servePublish_59 : decode mi_X_servePublish.2.1 59 = .ok (.iload_n 3, 1) := by decide +kernel
theorem d_X_servePublish_60 : decode mi_X_servePublish.2.1 60 = .ok (.iaload, 1) := by decide +kernel
theorem d_X_servePublish_61 : decode mi_X_servePublish.2.1 61 = .ok (.invokevirtual 243, 3) := by decide +kernel
theorem d_X_servePublish_64 : decode mi_X_servePublish.2.1 64 = .ok (.iinc 3 1, 3) := by decide +kernel
theorem d_X_servePublish_67 : decode mi_X_servePublish.2.1 67 = .ok (.goto (-21), 3) := by decide +kernel
theorem d_X_servePublish_70 : decode mi_X_servePublish.2.1 70 = .ok (.aload_n 0, 1) := by decide +kernel
theorem d_X_servePublish_71 : decode mi_X_servePublish.2.1 71 = .ok (.invokevirtual 246, 3) := by decide +kernel
theorem d_X_servePublish_74 : decode mi_X_servePublish.2.1 74 = .ok (.iconst 3, 1) := by decide +kernel
theorem d_X_servePublish_75 : decode mi_X_servePublish.2.1 75 = .ok (.invokestatic 228, 3) := by decide +kernel
theorem d_X_servePublish_78 : decode mi_X_servePublish.2.1 78 = .ok (.istore_n 3, 1) := by decide +kernel
theorem d_X_servePublish_79 : decode mi_X_servePublish.2.1 79 = .ok (.iload_n 3, 1) := by decide +kernel
theorem d_X_servePublish_80 : decode mi_X_servePublish.2.1 80 = .ok (.ifCond .ne 6, 3) := by decide +kernel
theorem d_X_servePublish_83 : decode mi_X_servePublish.2.1 83 = .ok (.bipush 7, 2) := by decide +kernel
theorem d_X_servePublish_85 : decode mi_X_servePublish.2.1 85 = .ok (.ireturn, 1) := by decide +kernel
theorem d_X_servePublish_86 : decode mi_X_servePublish.2.1 86 = .ok (.aload_n 0, 1) := by decide +kernel
theorem d_X_servePublish_87 : decode mi_X_servePublish.2.1 87 = .ok (.getfield 24, 3) := by decide +kernel
theorem d_X_servePublish_90 : decode mi_X_servePublish.2.1 90 = .ok (.invokevirtual 249, 3) := by decide +kernel
theorem d_X_servePublish_93 : decode mi_X_servePublish.2.1 93 = .ok (.getfield 253, 3) := by decide +kernel
theorem d_X_servePublish_96 : decode mi_X_servePublish.2.1 96 = .ok (.astore 4, 2) := by decide +kernel
theorem d_X_servePublish_98 : decode mi_X_servePublish.2.1 98 = .ok (.aload 4, 2) := by decide +kernel
theorem d_X_servePublish_100 : decode mi_X_servePublish.2.1 100 = .ok (.iload_n 3, 1) := by decide +kernel
theorem d_X_servePublish_101 : decode mi_X_servePublish.2.1 101 = .ok (.invokevirtual 92, 3) := by decide +kernel
theorem d_X_servePublish_104 : decode mi_X_servePublish.2.1 104 = .ok (.aload_n 0, 1) := by decide +kernel
theorem d_X_servePublish_105 : decode mi_X_servePublish.2.1 105 = .ok (.aload 4, 2) := by decide +kernel
theorem d_X_servePublish_107 : decode mi_X_servePublish.2.1 107 = .ok (.iload_n 3, 1) := by decide +kernel
theorem d_X_servePublish_108 : decode mi_X_servePublish.2.1 108 = .ok (.invokevirtual 254, 3) := by decide +kernel
theorem d_X_servePublish_111 : decode mi_X_servePublish.2.1 111 = .ok (.aload_n 0, 1) := by decide +kernel
theorem d_X_servePublish_112 : decode mi_X_servePublish.2.1 112 = .ok (.getfield 40, 3) := by decide +kernel
theorem d_X_servePublish_115 : decode mi_X_servePublish.2.1 115 = .ok (.aload 4, 2) := by decide +kernel
theorem d_X_servePublish_117 : decode mi_X_servePublish.2.1 117 = .ok (.invokevirtual 164, 3) := by decide +kernel
theorem d_X_servePublish_120 : decode mi_X_servePublish.2.1 120 = .ok (.iconst 0, 1) := by decide +kernel
theorem d_X_servePublish_121 : decode mi_X_servePublish.2.1 121 = .ok (.ireturn, 1) := by decide +kernel
theorem d_X_countNotices_0 : decode mi_X_countNotices.2.1 0 = .ok (.iconst 0, 1) := by decide +kernel
theorem d_X_countNotices_1 : decode mi_X_countNotices.2.1 1 = .ok (.istore_n 1, 1) := by decide +kernel
theorem d_X_countNotices_2 : decode mi_X_countNotices.2.1 2 = .ok (.iconst 0, 1) := by decide +kernel
theorem d_X_countNotices_3 : decode mi_X_countNotices.2.1 3 = .ok (.istore_n 2, 1) := by decide +kernel
theorem d_X_countNotices_4 : decode mi_X_countNotices.2.1 4 = .ok (.iload_n 2, 1) := by decide +kernel
theorem d_X_countNotices_5 : decode mi_X_countNotices.2.1 5 = .ok (.aload_n 0, 1) := by decide +kernel
theorem d_X_countNotices_6 : decode mi_X_countNotices.2.1 6 = .ok (.getfield 67, 3) := by decide +kernel
theorem d_X_countNotices_9 : decode mi_X_countNotices.2.1 9 = .ok (.if_icmp .ge 21, 3) := by decide +kernel
theorem d_X_countNotices_12 : decode mi_X_countNotices.2.1 12 = .ok (.iload_n 1, 1) := by decide +kernel
theorem d_X_countNotices_13 : decode mi_X_countNotices.2.1 13 = .ok (.aload_n 0, 1) := by decide +kernel
theorem d_X_countNotices_14 : decode mi_X_countNotices.2.1 14 = .ok (.getfield 17, 3) := by decide +kernel
theorem d_X_countNotices_17 : decode mi_X_countNotices.2.1 17 = .ok (.iload_n 2, 1) := by decide +kernel
theorem d_X_countNotices_18 : decode mi_X_countNotices.2.1 18 = .ok (.aaload, 1) := by decide +kernel
theorem d_X_countNotices_19 : decode mi_X_countNotices.2.1 19 = .ok (.getfield 139, 3) := by decide +kernel
theorem d_X_countNotices_22 : decode mi_X_countNotices.2.1 22 = .ok (.iadd, 1) := by decide +kernel
theorem d_X_countNotices_23 : decode mi_X_countNotices.2.1 23 = .ok (.istore_n 1, 1) := by decide +kernel
theorem d_X_countNotices_24 : decode mi_X_countNotices.2.1 24 = .ok (.iinc 2 1, 3) := by decide +kernel
theorem d_X_countNotices_27 : decode mi_X_countNotices.2.1 27 = .ok (.goto (-23), 3) := by decide +kernel
theorem d_X_countNotices_30 : decode mi_X_countNotices.2.1 30 = .ok (.iload_n 1, 1) := by decide +kernel
theorem d_X_countNotices_31 : decode mi_X_countNotices.2.1 31 = .ok (.ireturn, 1) := by decide +kernel
theorem d_X_moveNotices_0 : decode mi_X_moveNotices.2.1 0 = .ok (.iload_n 2, 1) := by decide +kernel
theorem d_X_moveNotices_1 : decode mi_X_moveNotices.2.1 1 = .ok (.istore_n 3, 1) := by decide +kernel
theorem d_X_moveNotices_2 : decode mi_X_moveNotices.2.1 2 = .ok (.iconst 0, 1) := by decide +kernel
theorem d_X_moveNotices_3 : decode mi_X_moveNotices.2.1 3 = .ok (.istore 4, 2) := by decide +kernel
theorem d_X_moveNotices_5 : decode mi_X_moveNotices.2.1 5 = .ok (.iload 4, 2) := by decide +kernel
theorem d_X_moveNotices_7 : decode mi_X_moveNotices.2.1 7 = .ok (.aload_n 0, 1) := by decide +kernel
theorem d_X_moveNotices_8 : decode mi_X_moveNotices.2.1 8 = .ok (.getfield 67, 3) := by decide +kernel
theorem d_X_moveNotices_11 : decode mi_X_moveNotices.2.1 11 = .ok (.if_icmp .ge 68, 3) := by decide +kernel
theorem d_X_moveNotices_14 : decode mi_X_moveNotices.2.1 14 = .ok (.iload_n 3, 1) := by decide +kernel
theorem d_X_moveNotices_15 : decode mi_X_moveNotices.2.1 15 = .ok (.ifCond .le 58, 3) := by decide +kernel
theorem d_X_moveNotices_18 : decode mi_X_moveNotices.2.1 18 = .ok (.aload_n 0, 1) := by decide +kernel
theorem d_X_moveNotices_19 : decode mi_X_moveNotices.2.1 19 = .ok (.getfield 17, 3) := by decide +kernel
theorem d_X_moveNotices_22 : decode mi_X_moveNotices.2.1 22 = .ok (.iload 4, 2) := by decide +kernel
theorem d_X_moveNotices_24 : decode mi_X_moveNotices.2.1 24 = .ok (.aaload, 1) := by decide +kernel
theorem d_X_moveNotices_25 : decode mi_X_moveNotices.2.1 25 = .ok (.getfield 139, 3) := by decide +kernel
theorem d_X_moveNotices_28 : decode mi_X_moveNotices.2.1 28 = .ok (.ifCond .le 45, 3) := by decide +kernel
theorem d_X_moveNotices_31 : decode mi_X_moveNotices.2.1 31 = .ok (.aload_n 0, 1) := by decide +kernel
theorem d_X_moveNotices_32 : decode mi_X_moveNotices.2.1 32 = .ok (.getfield 17, 3) := by decide +kernel
theorem d_X_moveNotices_35 : decode mi_X_moveNotices.2.1 35 = .ok (.iload 4, 2) := by decide +kernel
theorem d_X_moveNotices_37 : decode mi_X_moveNotices.2.1 37 = .ok (.aaload, 1) := by decide +kernel
theorem d_X_moveNotices_38 : decode mi_X_moveNotices.2.1 38 = .ok (.invokevirtual 257, 3) := by decide +kernel
theorem d_X_moveNotices_41 : decode mi_X_moveNotices.2.1 41 = .ok (.astore 5, 2) := by decide +kernel
theorem d_X_moveNotices_43 : decode mi_X_moveNotices.2.1 43 = .ok (.aload_n 1, 1) := by decide +kernel
theorem d_X_moveNotices_44 : decode mi_X_moveNotices.2.1 44 = .ok (.iload 4, 2) := by decide +kernel
theorem d_X_moveNotices_46 : decode mi_X_moveNotices.2.1 46 = .ok (.invokevirtual 92, 3) := by decide +kernel
theorem d_X_moveNotices_49 : decode mi_X_moveNotices.2.1 49 = .ok (.aload_n 1, 1) := by decide +kernel
theorem d_X_moveNotices_50 : decode mi_X_moveNotices.2.1 50 = .ok (.aload 5, 2) := by decide +kernel
theorem d_X_moveNotices_52 : decode mi_X_moveNotices.2.1 52 = .ok (.getfield 261, 3) := by decide +kernel
theorem d_X_moveNotices_55 : decode mi_X_moveNotices.2.1 55 = .ok (.invokevirtual 164, 3) := by decide +kernel
theorem d_X_moveNotices_58 : decode mi_X_moveNotices.2.1 58 = .ok (.aload_n 1, 1) := by decide +kernel
theorem d_X_moveNotices_59 : decode mi_X_moveNotices.2.1 59 = .ok (.aload 5, 2) := by decide +kernel
theorem d_X_moveNotices_61 : decode mi_X_moveNotices.2.1 61 = .ok (.getfield 264, 3) := by decide +kernel
theorem d_X_moveNotices_64 : decode mi_X_moveNotices.2.1 64 = .ok (.invokevirtual 92, 3) := by decide +kernel
theorem d_X_moveNotices_67 : decode mi_X_moveNotices.2.1 67 = .ok (.iinc 3 (-1), 3) := by decide +kernel
theorem d_X_moveNotices_70 : decode mi_X_moveNotices.2.1 70 = .ok (.goto (-56), 3) := by decide +kernel
theorem d_X_moveNotices_73 : decode mi_X_moveNotices.2.1 73 = .ok (.iinc 4 1, 3) := by decide +kernel
theorem d_X_moveNotices_76 : decode mi_X_moveNotices.2.1 76 = .ok (.goto (-71), 3) := by decide +kernel
theorem d_X_moveNotices_79 : decode mi_X_moveNotices.2.1 79 = .ok (.return_, 1) := by decide +kernel
theorem d_X_serveAgain_0 : decode mi_X_serveAgain.2.1 0 = .ok (.aload_n 1, 1) := by decide +kernel
theorem d_X_serveAgain_1 : decode mi_X_serveAgain.2.1 1 = .ok (.invokevirtual 240, 3) := by decide +kernel
theorem d_X_serveAgain_4 : decode mi_X_serveAgain.2.1 4 = .ok (.istore_n 2, 1) := by decide +kernel
theorem d_X_serveAgain_5 : decode mi_X_serveAgain.2.1 5 = .ok (.aload_n 1, 1) := by decide +kernel
theorem d_X_serveAgain_6 : decode mi_X_serveAgain.2.1 6 = .ok (.invokevirtual 205, 3) := by decide +kernel
theorem d_X_serveAgain_9 : decode mi_X_serveAgain.2.1 9 = .ok (.ifCond .ne 5, 3) := by decide +kernel
theorem d_X_serveAgain_12 : decode mi_X_serveAgain.2.1 12 = .ok (.iconst 1, 1) := by decide +kernel
theorem d_X_serveAgain_13 : decode mi_X_serveAgain.2.1 13 = .ok (.ireturn, 1) := by decide +kernel
theorem d_X_serveAgain_14 : decode mi_X_serveAgain.2.1 14 = .ok (.aload_n 0, 1) := by decide +kernel
theorem d_X_serveAgain_15 : decode mi_X_serveAgain.2.1 15 = .ok (.getfield 24, 3) := by decide +kernel
theorem d_X_serveAgain_18 : decode mi_X_serveAgain.2.1 18 = .ok (.iload_n 2, 1) := by decide +kernel
theorem d_X_serveAgain_19 : decode mi_X_serveAgain.2.1 19 = .ok (.invokevirtual 267, 3) := by decide +kernel
theorem d_X_serveAgain_22 : decode mi_X_serveAgain.2.1 22 = .ok (.istore_n 3, 1) := by decide +kernel
theorem d_X_serveAgain_23 : decode mi_X_serveAgain.2.1 23 = .ok (.iload_n 3, 1) := by decide +kernel
theorem d_X_serveAgain_24 : decode mi_X_serveAgain.2.1 24 = .ok (.ifCond .ge 6, 3) := by decide +kernel
theorem d_X_serveAgain_27 : decode mi_X_serveAgain.2.1 27 = .ok (.bipush 8, 2) := by decide +kernel
theorem d_X_serveAgain_29 : decode mi_X_serveAgain.2.1 29 = .ok (.ireturn, 1) := by decide +kernel
theorem d_X_serveAgain_30 : decode mi_X_serveAgain.2.1 30 = .ok (.aload_n 0, 1) := by decide +kernel
theorem d_X_serveAgain_31 : decode mi_X_serveAgain.2.1 31 = .ok (.getfield 40, 3) := by decide +kernel
theorem d_X_serveAgain_34 : decode mi_X_serveAgain.2.1 34 = .ok (.aload_n 0, 1) := by decide +kernel
theorem d_X_serveAgain_35 : decode mi_X_serveAgain.2.1 35 = .ok (.getfield 24, 3) := by decide +kernel
theorem d_X_serveAgain_38 : decode mi_X_serveAgain.2.1 38 = .ok (.getfield 145, 3) := by decide +kernel
theorem d_X_serveAgain_41 : decode mi_X_serveAgain.2.1 41 = .ok (.iload_n 3, 1) := by decide +kernel
theorem d_X_serveAgain_42 : decode mi_X_serveAgain.2.1 42 = .ok (.aaload, 1) := by decide +kernel
theorem d_X_serveAgain_43 : decode mi_X_serveAgain.2.1 43 = .ok (.getfield 253, 3) := by decide +kernel
theorem d_X_serveAgain_46 : decode mi_X_serveAgain.2.1 46 = .ok (.invokevirtual 164, 3) := by decide +kernel
theorem d_X_serveAgain_49 : decode mi_X_serveAgain.2.1 49 = .ok (.iconst 0, 1) := by decide +kernel
theorem d_X_serveAgain_50 : decode mi_X_serveAgain.2.1 50 = .ok (.ireturn, 1) := by decide +kernel
theorem d_X_part_0 : decode mi_X_part.2.1 0 = .ok (.aload_n 0, 1) := by decide +kernel
theorem d_X_part_1 : decode mi_X_part.2.1 1 = .ok (.getfield 31, 3) := by decide +kernel
theorem d_X_part_4 : decode mi_X_part.2.1 4 = .ok (.getfield 124, 3) := by decide +kernel
theorem d_X_part_7 : decode mi_X_part.2.1 7 = .ok (.ifCond .eq 19, 3) := by decide +kernel
theorem d_X_part_10 : decode mi_X_part.2.1 10 = .ok (.aload_n 0, 1) := by decide +kernel
theorem d_X_part_11 : decode mi_X_part.2.1 11 = .ok (.getfield 31, 3) := by decide +kernel
theorem d_X_part_14 : decode mi_X_part.2.1 14 = .ok (.getfield 113, 3) := by decide +kernel
theorem d_X_part_17 : decode mi_X_part.2.1 17 = .ok (.getfield 127, 3) := by decide +kernel
theorem d_X_part_20 : decode mi_X_part.2.1 20 = .ok (.getfield 132, 3) := by decide +kernel
theorem d_X_part_23 : decode mi_X_part.2.1 23 = .ok (.goto 4, 3) := by decide +kernel
theorem d_X_part_26 : decode mi_X_part.2.1 26 = .ok (.iconst (-1), 1) := by decide +kernel
theorem d_X_part_27 : decode mi_X_part.2.1 27 = .ok (.ireturn, 1) := by decide +kernel
theorem d_X_answerLength_0 : decode mi_X_answerLength.2.1 0 = .ok (.aload_n 0, 1) := by decide +kernel
theorem d_X_answerLength_1 : decode mi_X_answerLength.2.1 1 = .ok (.getfield 40, 3) := by decide +kernel
theorem d_X_answerLength_4 : decode mi_X_answerLength.2.1 4 = .ok (.getfield 132, 3) := by decide +kernel
theorem d_X_answerLength_7 : decode mi_X_answerLength.2.1 7 = .ok (.ireturn, 1) := by decide +kernel
theorem d_X_answer_0 : decode mi_X_answer.2.1 0 = .ok (.iload_n 1, 1) := by decide +kernel
theorem d_X_answer_1 : decode mi_X_answer.2.1 1 = .ok (.ifCond .lt 25, 3) := by decide +kernel
theorem d_X_answer_4 : decode mi_X_answer.2.1 4 = .ok (.iload_n 1, 1) := by decide +kernel
theorem d_X_answer_5 : decode mi_X_answer.2.1 5 = .ok (.aload_n 0, 1) := by decide +kernel
theorem d_X_answer_6 : decode mi_X_answer.2.1 6 = .ok (.getfield 40, 3) := by decide +kernel
theorem d_X_answer_9 : decode mi_X_answer.2.1 9 = .ok (.getfield 132, 3) := by decide +kernel
theorem d_X_answer_12 : decode mi_X_answer.2.1 12 = .ok (.if_icmp .ge 14, 3) := by decide +kernel
theorem d_X_answer_15 : decode mi_X_answer.2.1 15 = .ok (.aload_n 0, 1) := by decide +kernel
theorem d_X_answer_16 : decode mi_X_answer.2.1 16 = .ok (.getfield 40, 3) := by decide +kernel
theorem d_X_answer_19 : decode mi_X_answer.2.1 19 = .ok (.iload_n 1, 1) := by decide +kernel
theorem d_X_answer_20 : decode mi_X_answer.2.1 20 = .ok (.invokevirtual 135, 3) := by decide +kernel
theorem d_X_answer_23 : decode mi_X_answer.2.1 23 = .ok (.goto 4, 3) := by decide +kernel
theorem d_X_answer_26 : decode mi_X_answer.2.1 26 = .ok (.iconst (-1), 1) := by decide +kernel
theorem d_X_answer_27 : decode mi_X_answer.2.1 27 = .ok (.ireturn, 1) := by decide +kernel
theorem d_X_request_0 : decode mi_X_request.2.1 0 = .ok (.aload_n 0, 1) := by decide +kernel
theorem d_X_request_1 : decode mi_X_request.2.1 1 = .ok (.getfield 61, 3) := by decide +kernel
theorem d_X_request_4 : decode mi_X_request.2.1 4 = .ok (.ireturn, 1) := by decide +kernel
theorem d_X_queue_0 : decode mi_X_queue.2.1 0 = .ok (.iload_n 1, 1) := by decide +kernel
theorem d_X_queue_1 : decode mi_X_queue.2.1 1 = .ok (.ifCond .lt 23, 3) := by decide +kernel
theorem d_X_queue_4 : decode mi_X_queue.2.1 4 = .ok (.iload_n 1, 1) := by decide +kernel
theorem d_X_queue_5 : decode mi_X_queue.2.1 5 = .ok (.aload_n 0, 1) := by decide +kernel
theorem d_X_queue_6 : decode mi_X_queue.2.1 6 = .ok (.getfield 67, 3) := by decide +kernel
theorem d_X_queue_9 : decode mi_X_queue.2.1 9 = .ok (.if_icmp .ge 15, 3) := by decide +kernel
theorem d_X_queue_12 : decode mi_X_queue.2.1 12 = .ok (.aload_n 0, 1) := by decide +kernel
theorem d_X_queue_13 : decode mi_X_queue.2.1 13 = .ok (.getfield 17, 3) := by decide +kernel
theorem d_X_queue_16 : decode mi_X_queue.2.1 16 = .ok (.iload_n 1, 1) := by decide +kernel
theorem d_X_queue_17 : decode mi_X_queue.2.1 17 = .ok (.aaload, 1) := by decide +kernel
theorem d_X_queue_18 : decode mi_X_queue.2.1 18 = .ok (.getfield 139, 3) := by decide +kernel
theorem d_X_queue_21 : decode mi_X_queue.2.1 21 = .ok (.goto 4, 3) := by decide +kernel
theorem d_X_queue_24 : decode mi_X_queue.2.1 24 = .ok (.iconst (-1), 1) := by decide +kernel
theorem d_X_queue_25 : decode mi_X_queue.2.1 25 = .ok (.ireturn, 1) := by decide +kernel
theorem d_X_parcels_0 : decode mi_X_parcels.2.1 0 = .ok (.aload_n 0, 1) := by decide +kernel
theorem d_X_parcels_1 : decode mi_X_parcels.2.1 1 = .ok (.getfield 24, 3) := by decide +kernel
theorem d_X_parcels_4 : decode mi_X_parcels.2.1 4 = .ok (.getfield 142, 3) := by decide +kernel
theorem d_X_parcels_7 : decode mi_X_parcels.2.1 7 = .ok (.ireturn, 1) := by decide +kernel
theorem d_X_parcel_0 : decode mi_X_parcel.2.1 0 = .ok (.iload_n 1, 1) := by decide +kernel
theorem d_X_parcel_1 : decode mi_X_parcel.2.1 1 = .ok (.ifCond .lt 29, 3) := by decide +kernel
theorem d_X_parcel_4 : decode mi_X_parcel.2.1 4 = .ok (.iload_n 1, 1) := by decide +kernel
theorem d_X_parcel_5 : decode mi_X_parcel.2.1 5 = .ok (.aload_n 0, 1) := by decide +kernel
theorem d_X_parcel_6 : decode mi_X_parcel.2.1 6 = .ok (.getfield 24, 3) := by decide +kernel
theorem d_X_parcel_9 : decode mi_X_parcel.2.1 9 = .ok (.getfield 142, 3) := by decide +kernel
theorem d_X_parcel_12 : decode mi_X_parcel.2.1 12 = .ok (.if_icmp .ge 18, 3) := by decide +kernel
theorem d_X_parcel_15 : decode mi_X_parcel.2.1 15 = .ok (.aload_n 0, 1) := by decide +kernel
theorem d_X_parcel_16 : decode mi_X_parcel.2.1 16 = .ok (.getfield 24, 3) := by decide +kernel
theorem d_X_parcel_19 : decode mi_X_parcel.2.1 19 = .ok (.getfield 145, 3) := by decide +kernel
theorem d_X_parcel_22 : decode mi_X_parcel.2.1 22 = .ok (.iload_n 1, 1) := by decide +kernel
theorem d_X_parcel_23 : decode mi_X_parcel.2.1 23 = .ok (.aaload, 1) := by decide +kernel
theorem d_X_parcel_24 : decode mi_X_parcel.2.1 24 = .ok (.getfield 149, 3) := by decide +kernel
theorem d_X_parcel_27 : decode mi_X_parcel.2.1 27 = .ok (.goto 4, 3) := by decide +kernel
theorem d_X_parcel_30 : decode mi_X_parcel.2.1 30 = .ok (.iconst (-1), 1) := by decide +kernel
theorem d_X_parcel_31 : decode mi_X_parcel.2.1 31 = .ok (.ireturn, 1) := by decide +kernel
theorem d_X_size_0 : decode mi_X_size.2.1 0 = .ok (.aload_n 0, 1) := by decide +kernel
theorem d_X_size_1 : decode mi_X_size.2.1 1 = .ok (.iload_n 1, 1) := by decide +kernel
theorem d_X_size_2 : decode mi_X_size.2.1 2 = .ok (.invokevirtual 86, 3) := by decide +kernel
theorem d_X_size_5 : decode mi_X_size.2.1 5 = .ok (.ifCond .eq 18, 3) := by decide +kernel
theorem d_X_size_8 : decode mi_X_size.2.1 8 = .ok (.aload_n 0, 1) := by decide +kernel
theorem d_X_size_9 : decode mi_X_size.2.1 9 = .ok (.getfield 11, 3) := by decide +kernel
theorem d_X_size_12 : decode mi_X_size.2.1 12 = .ok (.iload_n 1, 1) := by decide +kernel
theorem d_X_size_13 : decode mi_X_size.2.1 13 = .ok (.aaload, 1) := by decide +kernel
theorem d_X_size_14 : decode mi_X_size.2.1 14 = .ok (.getfield 154, 3) := by decide +kernel
theorem d_X_size_17 : decode mi_X_size.2.1 17 = .ok (.getfield 132, 3) := by decide +kernel
theorem d_X_size_20 : decode mi_X_size.2.1 20 = .ok (.goto 4, 3) := by decide +kernel
theorem d_X_size_23 : decode mi_X_size.2.1 23 = .ok (.iconst (-1), 1) := by decide +kernel
theorem d_X_size_24 : decode mi_X_size.2.1 24 = .ok (.ireturn, 1) := by decide +kernel

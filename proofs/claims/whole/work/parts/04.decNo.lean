theorem d_Sf_init_0 : decode mi_Sf_init.2.1 0 = .ok (.aload_n 0, 1) := by decide +kernel
theorem d_Sf_init_1 : decode mi_Sf_init.2.1 1 = .ok (.invokespecial 3, 3) := by decide +kernel
theorem d_Sf_init_4 : decode mi_Sf_init.2.1 4 = .ok (.aload_n 0, 1) := by decide +kernel
theorem d_Sf_init_5 : decode mi_Sf_init.2.1 5 = .ok (.iconst 3, 1) := by decide +kernel
theorem d_Sf_init_6 : decode mi_Sf_init.2.1 6 = .ok (.anewarray 9, 3) := by decide +kernel
theorem d_Sf_init_9 : decode mi_Sf_init.2.1 9 = .ok (.putfield 11, 3) := by decide +kernel
theorem d_Sf_init_12 : decode mi_Sf_init.2.1 12 = .ok (.iconst 0, 1) := by decide +kernel
theorem d_Sf_init_13 : decode mi_Sf_init.2.1 13 = .ok (.istore_n 1, 1) := by decide +kernel
theorem d_Sf_init_14 : decode mi_Sf_init.2.1 14 = .ok (.iload_n 1, 1) := by decide +kernel
theorem d_Sf_init_15 : decode mi_Sf_init.2.1 15 = .ok (.iconst 3, 1) := by decide +kernel
theorem d_Sf_init_16 : decode mi_Sf_init.2.1 16 = .ok (.if_icmp .ge 22, 3) := by decide +kernel
theorem d_Sf_init_19 : decode mi_Sf_init.2.1 19 = .ok (.aload_n 0, 1) := by decide +kernel
theorem d_Sf_init_20 : decode mi_Sf_init.2.1 20 = .ok (.getfield 11, 3) := by decide +kernel
theorem d_Sf_init_23 : decode mi_Sf_init.2.1 23 = .ok (.iload_n 1, 1) := by decide +kernel
theorem d_Sf_init_24 : decode mi_Sf_init.2.1 24 = .ok (.new 9, 3) := by decide +kernel
theorem d_Sf_init_27 : decode mi_Sf_init.2.1 27 = .ok (.dup, 1) := by decide +kernel
theorem d_Sf_init_28 : decode mi_Sf_init.2.1 28 = .ok (.invokespecial 17, 3) := by decide +kernel
theorem d_Sf_init_31 : decode mi_Sf_init.2.1 31 = .ok (.aastore, 1) := by decide +kernel
theorem d_Sf_init_32 : decode mi_Sf_init.2.1 32 = .ok (.iinc 1 1, 3) := by decide +kernel
theorem d_Sf_init_35 : decode mi_Sf_init.2.1 35 = .ok (.goto (-21), 3) := by decide +kernel
theorem d_Sf_init_38 : decode mi_Sf_init.2.1 38 = .ok (.return_, 1) := by decide +kernel
theorem d_Pa_init_0 : decode mi_Pa_init.2.1 0 = .ok (.aload_n 0, 1) := by decide +kernel
theorem d_Pa_init_1 : decode mi_Pa_init.2.1 1 = .ok (.invokespecial 3, 3) := by decide +kernel
theorem d_Pa_init_4 : decode mi_Pa_init.2.1 4 = .ok (.aload_n 0, 1) := by decide +kernel
theorem d_Pa_init_5 : decode mi_Pa_init.2.1 5 = .ok (.new 9, 3) := by decide +kernel
theorem d_Pa_init_8 : decode mi_Pa_init.2.1 8 = .ok (.dup, 1) := by decide +kernel
theorem d_Pa_init_9 : decode mi_Pa_init.2.1 9 = .ok (.sipush 194, 3) := by decide +kernel
theorem d_Pa_init_12 : decode mi_Pa_init.2.1 12 = .ok (.invokespecial 11, 3) := by decide +kernel
theorem d_Pa_init_15 : decode mi_Pa_init.2.1 15 = .ok (.putfield 14, 3) := by decide +kernel
theorem d_Pa_init_18 : decode mi_Pa_init.2.1 18 = .ok (.return_, 1) := by decide +kernel
theorem d_No_init_0 : decode mi_No_init.2.1 0 = .ok (.aload_n 0, 1) := by decide +kernel
theorem d_No_init_1 : decode mi_No_init.2.1 1 = .ok (.invokespecial 3, 3) := by decide +kernel
theorem d_No_init_4 : decode mi_No_init.2.1 4 = .ok (.aload_n 0, 1) := by decide +kernel
theorem d_No_init_5 : decode mi_No_init.2.1 5 = .ok (.new 9, 3) := by decide +kernel
theorem d_No_init_8 : decode mi_No_init.2.1 8 = .ok (.dup, 1) := by decide +kernel
theorem d_No_init_9 : decode mi_No_init.2.1 9 = .ok (.bipush 61, 2) := by decide +kernel
theorem d_No_init_11 : decode mi_No_init.2.1 11 = .ok (.invokespecial 11, 3) := by decide +kernel
theorem d_No_init_14 : decode mi_No_init.2.1 14 = .ok (.putfield 14, 3) := by decide +kernel
theorem d_No_init_17 : decode mi_No_init.2.1 17 = .ok (.return_, 1) := by decide +kernel
theorem d_Nt_init_0 : decode mi_Nt_init.2.1 0 = .ok (.aload_n 0, 1) := by decide +kernel
theorem d_Nt_init_1 : decode mi_Nt_init.2.1 1 = .ok (.invokespecial 3, 3) := by decide +kernel
theorem d_Nt_init_4 : decode mi_Nt_init.2.1 4 = .ok (.aload_n 0, 1) := by decide +kernel
theorem d_Nt_init_5 : decode mi_Nt_init.2.1 5 = .ok (.new 9, 3) := by decide +kernel
theorem d_Nt_init_8 : decode mi_Nt_init.2.1 8 = .ok (.dup, 1) := by decide +kernel
theorem d_Nt_init_9 : decode mi_Nt_init.2.1 9 = .ok (.bipush 61, 2) := by decide +kernel
theorem d_Nt_init_11 : decode mi_Nt_init.2.1 11 = .ok (.invokespecial 11, 3) := by decide +kernel
theorem d_Nt_init_14 : decode mi_Nt_init.2.1 14 = .ok (.putfield 14, 3) := by decide +kernel
theorem d_Nt_init_17 : decode mi_Nt_init.2.1 17 = .ok (.return_, 1) := by decide +kernel
theorem d_No_become_0 : decode mi_No_become.2.1 0 = .ok (.aload_n 0, 1) := by decide +kernel
theorem d_No_become_1 : decode mi_No_become.2.1 1 = .ok (.iload_n 1, 1) := by decide +kernel
theorem d_No_become_2 : decode mi_No_become.2.1 2 = .ok (.putfield 20, 3) := by decide +kernel
theorem d_No_become_5 : decode mi_No_become.2.1 5 = .ok (.aload_n 0, 1) := by decide +kernel
theorem d_No_become_6 : decode mi_No_become.2.1 6 = .ok (.iload_n 2, 1) := by decide +kernel
theorem d_No_become_7 : decode mi_No_become.2.1 7 = .ok (.putfield 24, 3) := by decide +kernel
theorem d_No_become_10 : decode mi_No_become.2.1 10 = .ok (.iload_n 2, 1) := by decide +kernel
theorem d_No_become_11 : decode mi_No_become.2.1 11 = .ok (.iconst (-1), 1) := by decide +kernel
theorem d_No_become_12 : decode mi_No_become.2.1 12 = .ok (.if_icmp .ne 4, 3) := by decide +kernel
theorem d_No_become_15 : decode mi_No_become.2.1 15 = .ok (.return_, 1) := by decide +kernel
theorem d_No_become_16 : decode mi_No_become.2.1 16 = .ok (.aload_n 0, 1) := by decide +kernel
theorem d_No_become_17 : decode mi_No_become.2.1 17 = .ok (.getfield 14, 3) := by decide +kernel
theorem d_No_become_20 : decode mi_No_become.2.1 20 = .ok (.iload_n 2, 1) := by decide +kernel
theorem d_No_become_21 : decode mi_No_become.2.1 21 = .ok (.invokevirtual 27, 3) := by decide +kernel
theorem d_No_become_24 : decode mi_No_become.2.1 24 = .ok (.iload_n 2, 1) := by decide +kernel
theorem d_No_become_25 : decode mi_No_become.2.1 25 = .ok (.iconst 1, 1) := by decide +kernel
theorem d_No_become_26 : decode mi_No_become.2.1 26 = .ok (.if_icmp .ne 14, 3) := by decide +kernel
theorem d_No_become_29 : decode mi_No_become.2.1 29 = .ok (.aload_n 0, 1) := by decide +kernel
theorem d_No_become_30 : decode mi_No_become.2.1 30 = .ok (.getfield 14, 3) := by decide +kernel
theorem d_No_become_33 : decode mi_No_become.2.1 33 = .ok (.iconst 0, 1) := by decide +kernel
theorem d_No_become_34 : decode mi_No_become.2.1 34 = .ok (.invokevirtual 27, 3) := by decide +kernel
theorem d_No_become_37 : decode mi_No_become.2.1 37 = .ok (.goto 57, 3) := by decide +kernel
theorem d_No_become_40 : decode mi_No_become.2.1 40 = .ok (.iload_n 2, 1) := by decide +kernel
theorem d_No_become_41 : decode mi_No_become.2.1 41 = .ok (.bipush 6, 2) := by decide +kernel
theorem d_No_become_43 : decode mi_No_become.2.1 43 = .ok (.if_icmp .ne 15, 3) := by decide +kernel
theorem d_No_become_46 : decode mi_No_become.2.1 46 = .ok (.aload_n 0, 1) := by decide +kernel
theorem d_No_become_47 : decode mi_No_become.2.1 47 = .ok (.getfield 14, 3) := by decide +kernel
theorem d_No_become_50 : decode mi_No_become.2.1 50 = .ok (.lconst 0, 1) := by decide +kernel
theorem d_No_become_51 : decode mi_No_become.2.1 51 = .ok (.iconst 4, 1) := by decide +kernel
theorem d_No_become_52 : decode mi_No_become.2.1 52 = .ok (.invokevirtual 30, 3) := by decide +kernel
theorem d_No_become_55 : decode mi_No_become.2.1 55 = .ok (.goto 39, 3) := by decide +kernel
theorem d_No_become_58 : decode mi_No_become.2.1 58 = .ok (.iload_n 2, 1) := by decide +kernel
theorem d_No_become_59 : decode mi_No_become.2.1 59 = .ok (.bipush 8, 2) := by decide +kernel
theorem d_No_become_61 : decode mi_No_become.2.1 61 = .ok (.if_icmp .ne 16, 3) := by decide +kernel
theorem d_No_become_64 : decode mi_No_become.2.1 64 = .ok (.aload_n 0, 1) := by decide +kernel
theorem d_No_become_65 : decode mi_No_become.2.1 65 = .ok (.getfield 14, 3) := by decide +kernel
theorem d_No_become_68 : decode mi_No_become.2.1 68 = .ok (.lconst 0, 1) := by decide +kernel
theorem d_No_become_69 : decode mi_No_become.2.1 69 = .ok (.bipush 8, 2) := by decide +kernel
theorem d_No_become_71 : decode mi_No_become.2.1 71 = .ok (.invokevirtual 30, 3) := by decide +kernel
theorem d_No_become_74 : decode mi_No_become.2.1 74 = .ok (.goto 20, 3) := by decide +kernel
theorem d_No_become_77 : decode mi_No_become.2.1 77 = .ok (.iload_n 2, 1) := by decide +kernel
theorem d_No_become_78 : decode mi_No_become.2.1 78 = .ok (.bipush 12, 2) := by decide +kernel
theorem d_No_become_80 : decode mi_No_become.2.1 80 = .ok (.if_icmp .ne 14, 3) := by decide +kernel
theorem d_No_become_83 : decode mi_No_become.2.1 83 = .ok (.aload_n 0, 1) := by decide +kernel
theorem d_No_become_84 : decode mi_No_become.2.1 84 = .ok (.getfield 14, 3) := by decide +kernel
theorem d_No_become_87 : decode mi_No_become.2.1 87 = .ok (.ldc2_w 34, 3) := by decide +kernel
theorem d_No_become_90 : decode mi_No_become.2.1 90 = .ok (.iconst 4, 1) := by decide +kernel
theorem d_No_become_91 : decode mi_No_become.2.1 91 = .ok (.invokevirtual 30, 3) := by decide +kernel
theorem d_No_become_94 : decode mi_No_become.2.1 94 = .ok (.return_, 1) := by decide +kernel
theorem d_Sf_restart_0 : decode mi_Sf_restart.2.1 0 = .ok (.aload_n 0, 1) := by decide +kernel
theorem d_Sf_restart_1 : decode mi_Sf_restart.2.1 1 = .ok (.iconst 0, 1) := by decide +kernel
theorem d_Sf_restart_2 : decode mi_Sf_restart.2.1 2 = .ok (.putfield 18, 3) := by decide +kernel
theorem d_Sf_restart_5 : decode mi_Sf_restart.2.1 5 = .ok (.aload_n 0, 1) := by decide +kernel
theorem d_Sf_restart_6 : decode mi_Sf_restart.2.1 6 = .ok (.iconst 0, 1) := by decide +kernel
theorem d_Sf_restart_7 : decode mi_Sf_restart.2.1 7 = .ok (.putfield 22, 3) := by decide +kernel
theorem d_Sf_restart_10 : decode mi_Sf_restart.2.1 10 = .ok (.return_, 1) := by decide +kernel
theorem d_Sf_drop_0 : decode mi_Sf_drop.2.1 0 = .ok (.aload_n 0, 1) := by decide +kernel
theorem d_Sf_drop_1 : decode mi_Sf_drop.2.1 1 = .ok (.iload_n 1, 1) := by decide +kernel
theorem d_Sf_drop_2 : decode mi_Sf_drop.2.1 2 = .ok (.invokevirtual 28, 3) := by decide +kernel
theorem d_Sf_drop_5 : decode mi_Sf_drop.2.1 5 = .ok (.istore_n 2, 1) := by decide +kernel
theorem d_Sf_drop_6 : decode mi_Sf_drop.2.1 6 = .ok (.iload_n 2, 1) := by decide +kernel
theorem d_Sf_drop_7 : decode mi_Sf_drop.2.1 7 = .ok (.ifCond .lt 8, 3) := by decide +kernel
theorem d_Sf_drop_10 : decode mi_Sf_drop.2.1 10 = .ok (.aload_n 0, 1) := by decide +kernel
theorem d_Sf_drop_11 : decode mi_Sf_drop.2.1 11 = .ok (.iload_n 2, 1) := by decide +kernel
theorem d_Sf_drop_12 : decode mi_Sf_drop.2.1 12 = .ok (.invokevirtual 32, 3) := by decide +kernel
theorem d_Sf_drop_15 : decode mi_Sf_drop.2.1 15 = .ok (.return_, 1) := by decide +kernel
theorem d_Sf_find_0 : decode mi_Sf_find.2.1 0 = .ok (.iconst 0, 1) := by decide +kernel
theorem d_Sf_find_1 : decode mi_Sf_find.2.1 1 = .ok (.istore_n 2, 1) := by decide +kernel
theorem d_Sf_find_2 : decode mi_Sf_find.2.1 2 = .ok (.iload_n 2, 1) := by decide +kernel
theorem d_Sf_find_3 : decode mi_Sf_find.2.1 3 = .ok (.aload_n 0, 1) := by decide +kernel
theorem d_Sf_find_4 : decode mi_Sf_find.2.1 4 = .ok (.getfield 18, 3) := by decide +kernel
theorem d_Sf_find_7 : decode mi_Sf_find.2.1 7 = .ok (.if_icmp .ge 24, 3) := by decide +kernel
theorem d_Sf_find_10 : decode mi_Sf_find.2.1 10 = .ok (.aload_n 0, 1) := by decide +kernel
theorem d_Sf_find_11 : decode mi_Sf_find.2.1 11 = .ok (.getfield 11, 3) := by decide +kernel
theorem d_Sf_find_14 : decode mi_Sf_find.2.1 14 = .ok (.iload_n 2, 1) := by decide +kernel
theorem d_Sf_find_15 : decode mi_Sf_find.2.1 15 = .ok (.aaload, 1) := by decide +kernel
theorem d_Sf_find_16 : decode mi_Sf_find.2.1 16 = .ok (.getfield 25, 3) := by decide +kernel
theorem d_Sf_find_19 : decode mi_Sf_find.2.1 19 = .ok (.iload_n 1, 1) := by decide +kernel
theorem d_Sf_find_20 : decode mi_Sf_find.2.1 20 = .ok (.if_icmp .ne 5, 3) := by decide +kernel
theorem d_Sf_find_23 : decode mi_Sf_find.2.1 23 = .ok (.iload_n 2, 1) := by decide +kernel
theorem d_Sf_find_24 : decode mi_Sf_find.2.1 24 = .ok (.ireturn, 1) := by decide +kernel
theorem d_Sf_find_25 : decode mi_Sf_find.2.1 25 = .ok (.iinc 2 1, 3) := by decide +kernel
theorem d_Sf_find_28 : decode mi_Sf_find.2.1 28 = .ok (.goto (-26), 3) := by decide +kernel
theorem d_Sf_find_31 : decode mi_Sf_find.2.1 31 = .ok (.iconst (-1), 1) := by decide +kernel
theorem d_Sf_find_32 : decode mi_Sf_find.2.1 32 = .ok (.ireturn, 1) := by decide +kernel
theorem d_Sf_removeAt_0 : decode mi_Sf_removeAt.2.1 0 = .ok (.aload_n 0, 1) := by decide +kernel
theorem d_Sf_removeAt_1 : decode mi_Sf_removeAt.2.1 1 = .ok (.getfield 11, 3) := by decide +kernel
theorem d_Sf_removeAt_4 : decode mi_Sf_removeAt.2.1 4 = .ok (.iload_n 1, 1) := by decide +kernel
theorem d_Sf_removeAt_5 : decode mi_Sf_removeAt.2.1 5 = .ok (.aaload, 1) := by decide +kernel
theorem d_Sf_removeAt_6 : decode mi_Sf_removeAt.2.1 6 = .ok (.astore_n 2, 1) := by decide +kernel
theorem d_Sf_removeAt_7 : decode mi_Sf_removeAt.2.1 7 = .ok (.iload_n 1, 1) := by decide +kernel
theorem d_Sf_removeAt_8 : decode mi_Sf_removeAt.2.1 8 = .ok (.iconst 1, 1) := by decide +kernel
theorem d_Sf_removeAt_9 : decode mi_Sf_removeAt.2.1 9 = .ok (.iadd, 1) := by decide +kernel
theorem d_Sf_removeAt_10 : decode mi_Sf_removeAt.2.1 10 = .ok (.istore_n 3, 1) := by decide +kernel
theorem d_Sf_removeAt_11 : decode mi_Sf_removeAt.2.1 11 = .ok (.iload_n 3, 1) := by decide +kernel
theorem d_Sf_removeAt_12 : decode mi_Sf_removeAt.2.1 12 = .ok (.aload_n 0, 1) := by decide +kernel
theorem d_Sf_removeAt_13 : decode mi_Sf_removeAt.2.1 13 = .ok (.getfield 18, 3) := by decide +kernel
theorem d_Sf_removeAt_16 : decode mi_Sf_removeAt.2.1 16 = .ok (.if_icmp .ge 23, 3) := by decide +kernel
theorem d_Sf_removeAt_19 : decode mi_Sf_removeAt.2.1 19 = .ok (.aload_n 0, 1) := by decide +kernel
theorem d_Sf_removeAt_20 : decode mi_Sf_removeAt.2.1 20 = .ok (.getfield 11, 3) := by decide +kernel
theorem d_Sf_removeAt_23 : decode mi_Sf_removeAt.2.1 23 = .ok (.iload_n 3, 1) := by decide +kernel
theorem d_Sf_removeAt_24 : decode mi_Sf_removeAt.2.1 24 = .ok (.iconst 1, 1) := by decide +kernel
theorem d_Sf_removeAt_25 : decode mi_Sf_removeAt.2.1 25 = .ok (.isub, 1) := by decide +kernel
theorem d_Sf_removeAt_26 : decode mi_Sf_removeAt.2.1 26 = .ok (.aload_n 0, 1) := by decide +kernel
theorem d_Sf_removeAt_27 : decode mi_Sf_removeAt.2.1 27 = .ok (.getfield 11, 3) := by decide +kernel
theorem d_Sf_removeAt_30 : decode mi_Sf_removeAt.2.1 30 = .ok (.iload_n 3, 1) := by decide +kernel
theorem d_Sf_removeAt_31 : decode mi_Sf_removeAt.2.1 31 = .ok (.aaload, 1) := by decide +kernel
theorem d_Sf_removeAt_32 : decode mi_Sf_removeAt.2.1 32 = .ok (.aastore, 1) := by decide +kernel
theorem d_Sf_removeAt_33 : decode mi_Sf_removeAt.2.1 33 = .ok (.iinc 3 1, 3) := by decide +kernel
theorem d_Sf_removeAt_36 : decode mi_Sf_removeAt.2.1 36 = .ok (.goto (-25), 3) := by decide +kernel
theorem d_Sf_removeAt_39 : decode mi_Sf_removeAt.2.1 39 = .ok (.aload_n 0, 1) := by decide +kernel
theorem d_Sf_removeAt_40 : decode mi_Sf_removeAt.2.1 40 = .ok (.dup, 1) := by decide +kernel
theorem d_Sf_removeAt_41 : decode mi_Sf_removeAt.2.1 41 = .ok (.getfield 18, 3) := by decide +kernel
theorem d_Sf_removeAt_44 : decode mi_Sf_removeAt.2.1 44 = .ok (.iconst 1, 1) := by decide +kernel
theorem d_Sf_removeAt_45 : decode mi_Sf_removeAt.2.1 45 = .ok (.isub, 1) := by decide +kernel
theorem d_Sf_removeAt_46 : decode mi_Sf_removeAt.2.1 46 = .ok (.putfield 18, 3) := by decide +kernel
theorem d_Sf_removeAt_49 : decode mi_Sf_removeAt.2.1 49 = .ok (.aload_n 0, 1) := by decide +kernel
theorem d_Sf_removeAt_50 : decode mi_Sf_removeAt.2.1 50 = .ok (.getfield 11, 3) := by decide +kernel
theorem d_Sf_removeAt_53 : decode mi_Sf_removeAt.2.1 53 = .ok (.aload_n 0, 1) := by decide +kernel
theorem d_Sf_removeAt_54 : decode mi_Sf_removeAt.2.1 54 = .ok (.getfield 18, 3) := by decide +kernel
theorem d_Sf_removeAt_57 : decode mi_Sf_removeAt.2.1 57 = .ok (.aload_n 2, 1) := by decide +kernel
theorem d_Sf_removeAt_58 : decode mi_Sf_removeAt.2.1 58 = .ok (.aastore, 1) := by decide +kernel
theorem d_Sf_removeAt_59 : decode mi_Sf_removeAt.2.1 59 = .ok (.return_, 1) := by decide +kernel
theorem d_Sf_keepAnother_0 : decode mi_Sf_keepAnother.2.1 0 = .ok (.aload_n 0, 1) := by decide +kernel
theorem d_Sf_keepAnother_1 : decode mi_Sf_keepAnother.2.1 1 = .ok (.getfield 18, 3) := by decide +kernel
theorem d_Sf_keepAnother_4 : decode mi_Sf_keepAnother.2.1 4 = .ok (.iconst 3, 1) := by decide +kernel
theorem d_Sf_keepAnother_5 : decode mi_Sf_keepAnother.2.1 5 = .ok (.if_icmp .ne 8, 3) := by decide +kernel
theorem d_Sf_keepAnother_8 : decode mi_Sf_keepAnother.2.1 8 = .ok (.aload_n 0, 1) := by decide +kernel
theorem d_Sf_keepAnother_9 : decode mi_Sf_keepAnother.2.1 9 = .ok (.iconst 0, 1) := by decide +kernel
theorem d_Sf_keepAnother_10 : decode mi_Sf_keepAnother.2.1 10 = .ok (.invokevirtual 32, 3) := by decide +kernel
theorem d_Sf_keepAnother_13 : decode mi_Sf_keepAnother.2.1 13 = .ok (.aload_n 0, 1) := by decide +kernel
theorem d_Sf_keepAnother_14 : decode mi_Sf_keepAnother.2.1 14 = .ok (.dup, 1) := by decide +kernel
theorem d_Sf_keepAnother_15 : decode mi_Sf_keepAnother.2.1 15 = .ok (.getfield 22, 3) := by decide +kernel
theorem d_Sf_keepAnother_18 : decode mi_Sf_keepAnother.2.1 18 = .ok (.iconst 1, 1) := by decide +kernel
theorem d_Sf_keepAnother_19 : decode mi_Sf_keepAnother.2.1 19 = .ok (.iadd, 1) := by decide +kernel
theorem d_Sf_keepAnother_20 : decode mi_Sf_keepAnother.2.1 20 = .ok (.putfield 22, 3) := by decide +kernel
theorem d_Sf_keepAnother_23 : decode mi_Sf_keepAnother.2.1 23 = .ok (.aload_n 0, 1) := by decide +kernel
theorem d_Sf_keepAnother_24 : decode mi_Sf_keepAnother.2.1 24 = .ok (.getfield 11, 3) := by decide +kernel
theorem d_Sf_keepAnother_27 : decode mi_Sf_keepAnother.2.1 27 = .ok (.aload_n 0, 1) := by decide +kernel
theorem d_Sf_keepAnother_28 : decode mi_Sf_keepAnother.2.1 28 = .ok (.getfield 18, 3) := by decide +kernel
theorem d_Sf_keepAnother_31 : decode mi_Sf_keepAnother.2.1 31 = .ok (.aaload, 1) := by decide +kernel
theorem d_Sf_keepAnother_32 : decode mi_Sf_keepAnother.2.1 32 = .ok (.astore_n 1, 1) := by decide +kernel
theorem d_Sf_keepAnother_33 : decode mi_Sf_keepAnother.2.1 33 = .ok (.aload_n 1, 1) := by decide +kernel
theorem d_Sf_keepAnother_34 : decode mi_Sf_keepAnother.2.1 34 = .ok (.aload_n 0, 1) := by decide +kernel
theorem d_Sf_keepAnother_35 : decode mi_Sf_keepAnother.2.1 35 = .ok (.getfield 22, 3) := by decide +kernel
theorem d_Sf_keepAnother_38 : decode mi_Sf_keepAnother.2.1 38 = .ok (.putfield 25, 3) := by decide +kernel
theorem d_Sf_keepAnother_41 : decode mi_Sf_keepAnother.2.1 41 = .ok (.aload_n 1, 1) := by decide +kernel
theorem d_Sf_keepAnother_42 : decode mi_Sf_keepAnother.2.1 42 = .ok (.getfield 36, 3) := by decide +kernel
theorem d_Sf_keepAnother_45 : decode mi_Sf_keepAnother.2.1 45 = .ok (.invokevirtual 40, 3) := by decide +kernel
theorem d_Sf_keepAnother_48 : decode mi_Sf_keepAnother.2.1 48 = .ok (.aload_n 1, 1) := by decide +kernel
theorem d_Sf_keepAnother_49 : decode mi_Sf_keepAnother.2.1 49 = .ok (.getfield 36, 3) := by decide +kernel
theorem d_Sf_keepAnother_52 : decode mi_Sf_keepAnother.2.1 52 = .ok (.aload_n 0, 1) := by decide +kernel
theorem d_Sf_keepAnother_53 : decode mi_Sf_keepAnother.2.1 53 = .ok (.getfield 22, 3) := by decide +kernel
theorem d_Sf_keepAnother_56 : decode mi_Sf_keepAnother.2.1 56 = .ok (.i2l, 1) := by decide +kernel
theorem d_Sf_keepAnother_57 : decode mi_Sf_keepAnother.2.1 57 = .ok (.iconst 4, 1) := by decide +kernel
theorem d_Sf_keepAnother_58 : decode mi_Sf_keepAnother.2.1 58 = .ok (.invokevirtual 45, 3) := by decide +kernel
theorem d_Sf_keepAnother_61 : decode mi_Sf_keepAnother.2.1 61 = .ok (.aload_n 0, 1) := by decide +kernel
theorem d_Sf_keepAnother_62 : decode mi_Sf_keepAnother.2.1 62 = .ok (.dup, 1) := by decide +kernel
theorem d_Sf_keepAnother_63 : decode mi_Sf_keepAnother.2.1 63 = .ok (.getfield 18, 3) := by decide +kernel
theorem d_Sf_keepAnother_66 : decode mi_Sf_keepAnother.2.1 66 = .ok (.iconst 1, 1) := by decide +kernel
theorem d_Sf_keepAnother_67 : decode mi_Sf_keepAnother.2.1 67 = .ok (.iadd, 1) := by decide +kernel
theorem d_Sf_keepAnother_68 : decode mi_Sf_keepAnother.2.1 68 = .ok (.putfield 18, 3) := by decide +kernel
theorem d_Sf_keepAnother_71 : decode mi_Sf_keepAnother.2.1 71 = .ok (.aload_n 1, 1) := by decide +kernel
theorem d_Sf_keepAnother_72 : decode mi_Sf_keepAnother.2.1 72 = .ok (.areturn, 1) := by decide +kernel
theorem d_L_law_0 : decode mi_L_law.2.1 0 = .ok (.new 7, 3) := by decide +kernel
theorem d_L_law_3 : decode mi_L_law.2.1 3 = .ok (.dup, 1) := by decide +kernel
theorem d_L_law_4 : decode mi_L_law.2.1 4 = .ok (.invokespecial 9, 3) := by decide +kernel
theorem d_L_law_7 : decode mi_L_law.2.1 7 = .ok (.astore_n 1, 1) := by decide +kernel
theorem d_L_law_8 : decode mi_L_law.2.1 8 = .ok (.new 10, 3) := by decide +kernel
theorem d_L_law_11 : decode mi_L_law.2.1 11 = .ok (.dup, 1) := by decide +kernel
theorem d_L_law_12 : decode mi_L_law.2.1 12 = .ok (.invokespecial 12, 3) := by decide +kernel
theorem d_L_law_15 : decode mi_L_law.2.1 15 = .ok (.astore_n 2, 1) := by decide +kernel
theorem d_L_law_16 : decode mi_L_law.2.1 16 = .ok (.iconst 0, 1) := by decide +kernel
theorem d_L_law_17 : decode mi_L_law.2.1 17 = .ok (.istore_n 3, 1) := by decide +kernel
theorem d_L_law_18 : decode mi_L_law.2.1 18 = .ok (.iload_n 3, 1) := by decide +kernel
theorem d_L_law_19 : decode mi_L_law.2.1 19 = .ok (.aload_n 0, 1) := by decide +kernel
theorem d_L_law_20 : decode mi_L_law.2.1 20 = .ok (.arraylength, 1) := by decide +kernel
theorem d_L_law_21 : decode mi_L_law.2.1 21 = .ok (.bipush 7, 2) := by decide +kernel
theorem d_L_law_23 : decode mi_L_law.2.1 23 = .ok (.isub, 1) := by decide +kernel
theorem d_L_law_24 : decode mi_L_law.2.1 24 = .ok (.if_icmp .gt 468, 3) := by decide +kernel
theorem d_L_law_27 : decode mi_L_law.2.1 27 = .ok (.aload_n 0, 1) := by decide +kernel
theorem d_L_law_28 : decode mi_L_law.2.1 28 = .ok (.iload_n 3, 1) := by decide +kernel
theorem d_L_law_29 : decode mi_L_law.2.1 29 = .ok (.iaload, 1) := by decide +kernel
theorem d_L_law_30 : decode mi_L_law.2.1 30 = .ok (.bipush 15, 2) := by decide +kernel
theorem d_L_law_32 : decode mi_L_law.2.1 32 = .ok (.iand, 1) := by decide +kernel
theorem d_L_law_33 : decode mi_L_law.2.1 33 = .ok (.tableswitch 453 0 13 #[71, 82, 95, 118, 151, 214, 309, 322, 335, 358, 371, 394, 407, 430], 71) := by decide +kernel
theorem d_L_law_104 : decode mi_L_law.2.1 104 = .ok (.aload_n 1, 1) := by decide +kernel
theorem d_L_law_105 : decode mi_L_law.2.1 105 = .ok (.invokevirtual 13, 3) := by decide +kernel
theorem d_L_law_108 : decode mi_L_law.2.1 108 = .ok (.aload_n 2, 1) := by decide +kernel
theorem d_L_law_109 : decode mi_L_law.2.1 109 = .ok (.invokevirtual 16, 3) := by decide +kernel
theorem d_L_law_112 : decode mi_L_law.2.1 112 = .ok (.goto 374, 3) := by decide +kernel
theorem d_L_law_115 : decode mi_L_law.2.1 115 = .ok (.aload_n 1, 1) := by decide +kernel
theorem d_L_law_116 : decode mi_L_law.2.1 116 = .ok (.invokevirtual 17, 3) := by decide +kernel
theorem d_L_law_119 : decode mi_L_law.2.1 119 = .ok (.aload_n 2, 1) := by decide +kernel
theorem d_L_law_120 : decode mi_L_law.2.1 120 = .ok (.invokevirtual 21, 3) := by decide +kernel
theorem d_L_law_123 : decode mi_L_law.2.1 123 = .ok (.if_icmp .eq 363, 3) := by decide +kernel
theorem d_L_law_126 : decode mi_L_law.2.1 126 = .ok (.iconst 0, 1) := by decide +kernel
theorem d_L_law_127 : decode mi_L_law.2.1 127 = .ok (.ireturn, 1) := by decide +kernel
theorem d_L_law_128 : decode mi_L_law.2.1 128 = .ok (.aload_n 1, 1) := by decide +kernel
theorem d_L_law_129 : decode mi_L_law.2.1 129 = .ok (.aload_n 0, 1) := by decide +kernel
theorem d_L_law_130 : decode mi_L_law.2.1 130 = .ok (.iload_n 3, 1) := by decide +kernel
theorem d_L_law_131 : decode mi_L_law.2.1 131 = .ok (.iconst 1, 1) := by decide +kernel
theorem d_L_law_132 : decode mi_L_law.2.1 132 = .ok (.iadd, 1) := by decide +kernel
theorem d_L_law_133 : decode mi_L_law.2.1 133 = .ok (.iaload, 1) := by decide +kernel
theorem d_L_law_134 : decode mi_L_law.2.1 134 = .ok (.invokevirtual 22, 3) := by decide +kernel
theorem d_L_law_137 : decode mi_L_law.2.1 137 = .ok (.aload_n 2, 1) := by decide +kernel
theorem d_L_law_138 : decode mi_L_law.2.1 138 = .ok (.aload_n 0, 1) := by decide +kernel
theorem d_L_law_139 : decode mi_L_law.2.1 139 = .ok (.iload_n 3, 1) := by decide +kernel
theorem d_L_law_140 : decode mi_L_law.2.1 140 = .ok (.iconst 1, 1) := by decide +kernel
theorem d_L_law_141 : decode mi_L_law.2.1 141 = .ok (.iadd, 1) := by decide +kernel
theorem d_L_law_142 : decode mi_L_law.2.1 142 = .ok (.iaload, 1) := by decide +kernel
theorem d_L_law_143 : decode mi_L_law.2.1 143 = .ok (.invokevirtual 26, 3) := by decide +kernel
theorem d_L_law_146 : decode mi_L_law.2.1 146 = .ok (.if_icmp .eq 340, 3) := by decide +kernel
theorem d_L_law_149 : decode mi_L_law.2.1 149 = .ok (.iconst 0, 1) := by decide +kernel
theorem d_L_law_150 : decode mi_L_law.2.1 150 = .ok (.ireturn, 1) := by decide +kernel
theorem d_L_law_151 : decode mi_L_law.2.1 151 = .ok (.aload_n 1, 1) := by decide +kernel
theorem d_L_law_152 : decode mi_L_law.2.1 152 = .ok (.aload_n 0, 1) := by decide +kernel
theorem d_L_law_153 : decode mi_L_law.2.1 153 = .ok (.iload_n 3, 1) := by decide +kernel
theorem d_L_law_154 : decode mi_L_law.2.1 154 = .ok (.iconst 1, 1) := by decide +kernel
theorem d_L_law_155 : decode mi_L_law.2.1 155 = .ok (.iadd, 1) := by decide +kernel
theorem d_L_law_156 : decode mi_L_law.2.1 156 = .ok (.iaload, 1) := by decide +kernel
theorem d_L_law_157 : decode mi_L_law.2.1 157 = .ok (.aload_n 0, 1) := by decide +kernel
theorem d_L_law_158 : decode mi_L_law.2.1 158 = .ok (.iload_n 3, 1) := by decide +kernel
theorem d_L_law_159 : decode mi_L_law.2.1 159 = .ok (.iconst 2, 1) := by decide +kernel
theorem d_L_law_160 : decode mi_L_law.2.1 160 = .ok (.iadd, 1) := by decide +kernel
theorem d_L_law_161 : decode mi_L_law.2.1 161 = .ok (.iaload, 1) := by decide +kernel
theorem d_L_law_162 : decode mi_L_law.2.1 162 = .ok (.invokevirtual 27, 3) := by decide +kernel
theorem d_L_law_165 : decode mi_L_law.2.1 165 = .ok (.aload_n 2, 1) := by decide +kernel
theorem d_L_law_166 : decode mi_L_law.2.1 166 = .ok (.aload_n 0, 1) := by decide +kernel
theorem d_L_law_167 : decode mi_L_law.2.1 167 = .ok (.iload_n 3, 1) := by decide +kernel
theorem d_L_law_168 : decode mi_L_law.2.1 168 = .ok (.iconst 1, 1) := by decide +kernel
theorem d_L_law_169 : decode mi_L_law.2.1 169 = .ok (.iadd, 1) := by decide +kernel
theorem d_L_law_170 : decode mi_L_law.2.1 170 = .ok (.iaload, 1) := by decide +kernel
theorem d_L_law_171 : decode mi_L_law.2.1 171 = .ok (.aload_n 0, 1) := by decide +kernel
theorem d_L_law_172 : decode mi_L_law.2.1 172 = .ok (.iload_n 3, 1) := by decide +kernel
theorem d_L_law_173 : decode mi_L_law.2.1 173 = .ok (.iconst 2, 1) := by decide +kernel
theorem d_L_law_174 : decode mi_L_law.2.1 174 = .ok (.iadd, 1) := by decide +kernel
theorem d_L_law_175 : decode mi_L_law.2.1 175 = .ok (.iaload, 1) := by decide +kernel
theorem d_L_law_176 : decode mi_L_law.2.1 176 = .ok (.invokevirtual 31, 3) := by decide +kernel
theorem d_L_law_179 : decode mi_L_law.2.1 179 = .ok (.if_icmp .eq 307, 3) := by decide +kernel
theorem d_L_law_182 : decode mi_L_law.2.1 182 = .ok (.iconst 0, 1) := by decide +kernel
theorem d_L_law_183 : decode mi_L_law.2.1 183 = .ok (.ireturn, 1) := by decide +kernel
theorem d_L_law_184 : decode mi_L_law.2.1 184 = .ok (.aload_n 1, 1) := by decide +kernel
theorem d_L_law_185 : decode mi_L_law.2.1 185 = .ok (.aload_n 0, 1) := by decide +kernel
theorem d_L_law_186 : decode mi_L_law.2.1 186 = .ok (.iload_n 3, 1) := by decide +kernel
theorem d_L_law_187 : decode mi_L_law.2.1 187 = .ok (.iconst 1, 1) := by decide +kernel
theorem d_L_law_188 : decode mi_L_law.2.1 188 = .ok (.iadd, 1) := by decide +kernel
theorem d_L_law_189 : decode mi_L_law.2.1 189 = .ok (.iaload, 1) := by decide +kernel
theorem d_L_law_190 : decode mi_L_law.2.1 190 = .ok (.aload_n 0, 1) := by decide +kernel
theorem d_L_law_191 : decode mi_L_law.2.1 191 = .ok (.iload_n 3, 1) := by decide +kernel
theorem d_L_law_192 : decode mi_L_law.2.1 192 = .ok (.iconst 2, 1) := by decide +kernel
theorem d_L_law_193 : decode mi_L_law.2.1 193 = .ok (.iadd, 1) := by decide +kernel
theorem d_L_law_194 : decode mi_L_law.2.1 194 = .ok (.iaload, 1) := by decide +kernel
theorem d_L_law_195 : decode mi_L_law.2.1 195 = .ok (.i2l, 1) := by decide +kernel
theorem d_L_law_196 : decode mi_L_law.2.1 196 = .ok (.bipush 32, 2) := by decide +kernel
theorem d_L_law_198 : decode mi_L_law.2.1 198 = .ok (.lshl, 1) := by decide +kernel
theorem d_L_law_199 : decode mi_L_law.2.1 199 = .ok (.aload_n 0, 1) := by decide +kernel
theorem d_L_law_200 : decode mi_L_law.2.1 200 = .ok (.iload_n 3, 1) := by decide +kernel
theorem d_L_law_201 : decode mi_L_law.2.1 201 = .ok (.iconst 3, 1) := by decide +kernel
theorem d_L_law_202 : decode mi_L_law.2.1 202 = .ok (.iadd, 1) := by decide +kernel
theorem d_L_law_203 : decode mi_L_law.2.1 203 = .ok (.iaload, 1) := by decide +kernel
theorem d_L_law_204 : decode mi_L_law.2.1 204 = .ok (.i2l, 1) := by decide +kernel
theorem d_L_law_205 : decode mi_L_law.2.1 205 = .ok (.ldc2_w 32, 3) := by decide +kernel
theorem d_L_law_208 : decode mi_L_law.2.1 208 = .ok (.land, 1) := by decide +kernel
theorem d_L_law_209 : decode mi_L_law.2.1 209 = .ok (.lor, 1) := by decide +kernel
theorem d_L_law_210 : decode mi_L_law.2.1 210 = .ok (.invokevirtual 34, 3) := by decide +kernel
theorem d_L_law_213 : decode mi_L_law.2.1 213 = .ok (.aload_n 2, 1) := by decide +kernel
theorem d_L_law_214 : decode mi_L_law.2.1 214 = .ok (.aload_n 0, 1) := by decide +kernel
theorem d_L_law_215 : decode mi_L_law.2.1 215 = .ok (.iload_n 3, 1) := by decide +kernel
theorem d_L_law_216 : decode mi_L_law.2.1 216 = .ok (.iconst 1, 1) := by decide +kernel
theorem d_L_law_217 : decode mi_L_law.2.1 217 = .ok (.iadd, 1) := by decide +kernel
theorem d_L_law_218 : decode mi_L_law.2.1 218 = .ok (.iaload, 1) := by decide +kernel
theorem d_L_law_219 : decode mi_L_law.2.1 219 = .ok (.aload_n 0, 1) := by decide +kernel
theorem d_L_law_220 : decode mi_L_law.2.1 220 = .ok (.iload_n 3, 1) := by decide +kernel
theorem d_L_law_221 : decode mi_L_law.2.1 221 = .ok (.iconst 2, 1) := by decide +kernel
theorem d_L_law_222 : decode mi_L_law.2.1 222 = .ok (.iadd, 1) := by decide +kernel
theorem d_L_law_223 : decode mi_L_law.2.1 223 = .ok (.iaload, 1) := by decide +kernel
theorem d_L_law_224 : decode mi_L_law.2.1 224 = .ok (.i2l, 1) := by decide +kernel
theorem d_L_law_225 : decode mi_L_law.2.1 225 = .ok (.bipush 32, 2) := by decide +kernel
theorem d_L_law_227 : decode mi_L_law.2.1 227 = .ok (.lshl, 1) := by decide +kernel
theorem d_L_law_228 : decode mi_L_law.2.1 228 = .ok (.aload_n 0, 1) := by decide +kernel
theorem d_L_law_229 : decode mi_L_law.2.1 229 = .ok (.iload_n 3, 1) := by decide +kernel
theorem d_L_law_230 : decode mi_L_law.2.1 230 = .ok (.iconst 3, 1) := by decide +kernel
theorem d_L_law_231 : decode mi_L_law.2.1 231 = .ok (.iadd, 1) := by decide +kernel
theorem d_L_law_232 : decode mi_L_law.2.1 232 = .ok (.iaload, 1) := by decide +kernel
theorem d_L_law_233 : decode mi_L_law.2.1 233 = .ok (.i2l, 1) := by decide +kernel
theorem d_L_law_234 : decode mi_L_law.2.1 234 = .ok (.ldc2_w 32, 3) := by decide +kernel
theorem d_L_law_237 : decode mi_L_law.2.1 237 = .ok (.land, 1) := by decide +kernel
theorem d_L_law_238 : decode mi_L_law.2.1 238 = .ok (.lor, 1) := by decide +kernel
theorem d_L_law_239 : decode mi_L_law.2.1 239 = .ok (.invokevirtual 38, 3) := by decide +kernel
theorem d_L_law_242 : decode mi_L_law.2.1 242 = .ok (.if_icmp .eq 244, 3) := by decide +kernel
theorem d_L_law_245 : decode mi_L_law.2.1 245 = .ok (.iconst 0, 1) := by decide +kernel
theorem d_L_law_246 : decode mi_L_law.2.1 246 = .ok (.ireturn, 1) := by decide +kernel
theorem d_L_law_247 : decode mi_L_law.2.1 247 = .ok (.aload_n 1, 1) := by decide +kernel
theorem d_L_law_248 : decode mi_L_law.2.1 248 = .ok (.aload_n 0, 1) := by decide +kernel
theorem d_L_law_249 : decode mi_L_law.2.1 249 = .ok (.iload_n 3, 1) := by decide +kernel
theorem d_L_law_250 : decode mi_L_law.2.1 250 = .ok (.iconst 1, 1) := by decide +kernel
theorem d_L_law_251 : decode mi_L_law.2.1 251 = .ok (.iadd, 1) := by decide +kernel
theorem d_L_law_252 : decode mi_L_law.2.1 252 = .ok (.iaload, 1) := by decide +kernel
theorem d_L_law_253 : decode mi_L_law.2.1 253 = .ok (.aload_n 0, 1) := by decide +kernel
theorem d_L_law_254 : decode mi_L_law.2.1 254 = .ok (.iload_n 3, 1) := by decide +kernel
theorem d_L_law_255 : decode mi_L_law.2.1 255 = .ok (.iconst 2, 1) := by decide +kernel
theorem d_L_law_256 : decode mi_L_law.2.1 256 = .ok (.iadd, 1) := by decide +kernel
theorem d_L_law_257 : decode mi_L_law.2.1 257 = .ok (.iaload, 1) := by decide +kernel
theorem d_L_law_258 : decode mi_L_law.2.1 258 = .ok (.aload_n 0, 1) := by decide +kernel
theorem d_L_law_259 : decode mi_L_law.2.1 259 = .ok (.iload_n 3, 1) := by decide +kernel
theorem d_L_law_260 : decode mi_L_law.2.1 260 = .ok (.iconst 3, 1) := by decide +kernel
theorem d_L_law_261 : decode mi_L_law.2.1 261 = .ok (.iadd, 1) := by decide +kernel
theorem d_L_law_262 : decode mi_L_law.2.1 262 = .ok (.iaload, 1) := by decide +kernel
theorem d_L_law_263 : decode mi_L_law.2.1 263 = .ok (.aload_n 0, 1) := by decide +kernel
theorem d_L_law_264 : decode mi_L_law.2.1 264 = .ok (.iload_n 3, 1) := by decide +kernel
theorem d_L_law_265 : decode mi_L_law.2.1 265 = .ok (.iconst 4, 1) := by decide +kernel
theorem d_L_law_266 : decode mi_L_law.2.1 266 = .ok (.iadd, 1) := by decide +kernel
theorem d_L_law_267 : decode mi_L_law.2.1 267 = .ok (.iaload, 1) := by decide +kernel
theorem d_L_law_268 : decode mi_L_law.2.1 268 = .ok (.i2l, 1) := by decide +kernel
theorem d_L_law_269 : decode mi_L_law.2.1 269 = .ok (.bipush 32, 2) := by decide +kernel
theorem d_L_law_271 : decode mi_L_law.2.1 271 = .ok (.lshl, 1) := by decide +kernel
theorem d_L_law_272 : decode mi_L_law.2.1 272 = .ok (.aload_n 0, 1) := by decide +kernel
theorem d_L_law_273 : decode mi_L_law.2.1 273 = .ok (.iload_n 3, 1) := by decide +kernel
theorem d_L_law_274 : decode mi_L_law.2.1 274 = .ok (.iconst 5, 1) := by decide +kernel
theorem d_L_law_275 : decode mi_L_law.2.1 275 = .ok (.iadd, 1) := by decide +kernel
theorem d_L_law_276 : decode mi_L_law.2.1 276 = .ok (.iaload, 1) := by decide +kernel
theorem d_L_law_277 : decode mi_L_law.2.1 277 = .ok (.i2l, 1) := by decide +kernel
theorem d_L_law_278 : decode mi_L_law.2.1 278 = .ok (.ldc2_w 32, 3) := by decide +kernel
theorem d_L_law_281 : decode mi_L_law.2.1 281 = .ok (.land, 1) := by decide +kernel
theorem d_L_law_282 : decode mi_L_law.2.1 282 = .ok (.lor, 1) := by decide +kernel
theorem d_L_law_283 : decode mi_L_law.2.1 283 = .ok (.aload_n 0, 1) := by decide +kernel
theorem d_L_law_284 : decode mi_L_law.2.1 284 = .ok (.iload_n 3, 1) := by decide +kernel
theorem d_L_law_285 : decode mi_L_law.2.1 285 = .ok (.bipush 6, 2) := by decide +kernel
theorem d_L_law_287 : decode mi_L_law.2.1 287 = .ok (.iadd, 1) := by decide +kernel
theorem d_L_law_288 : decode mi_L_law.2.1 288 = .ok (.iaload, 1) := by decide +kernel
theorem d_L_law_289 : decode mi_L_law.2.1 289 = .ok (.invokevirtual 39, 3) := by decide +kernel
theorem d_L_law_292 : decode mi_L_law.2.1 292 = .ok (.aload_n 2, 1) := by decide +kernel
theorem d_L_law_293 : decode mi_L_law.2.1 293 = .ok (.aload_n 0, 1) := by decide +kernel
theorem d_L_law_294 : decode mi_L_law.2.1 294 = .ok (.iload_n 3, 1) := by decide +kernel
theorem d_L_law_295 : decode mi_L_law.2.1 295 = .ok (.iconst 1, 1) := by decide +kernel
theorem d_L_law_296 : decode mi_L_law.2.1 296 = .ok (.iadd, 1) := by decide +kernel
theorem d_L_law_297 : decode mi_L_law.2.1 297 = .ok (.iaload, 1) := by decide +kernel
theorem d_L_law_298 : decode mi_L_law.2.1 298 = .ok (.aload_n 0, 1) := by decide +kernel
theorem d_L_law_299 : decode mi_L_law.2.1 299 = .ok (.iload_n 3, 1) := by decide +kernel
theorem d_L_law_300 : decode mi_L_law.2.1 300 = .ok (.iconst 2, 1) := by decide +kernel
theorem d_L_law_301 : decode mi_L_law.2.1 301 = .ok (.iadd, 1) := by decide +kernel
theorem d_L_law_302 : decode mi_L_law.2.1 302 = .ok (.iaload, 1) := by decide +kernel
theorem d_L_law_303 : decode mi_L_law.2.1 303 = .ok (.aload_n 0, 1) := by decide +kernel
theorem d_L_law_304 : decode mi_L_law.2.1 304 = .ok (.iload_n 3, 1) := by decide +kernel
theorem d_L_law_305 : decode mi_L_law.2.1 305 = .ok (.iconst 3, 1) := by decide +kernel
theorem d_L_law_306 : decode mi_L_law.2.1 306 = .ok (.iadd, 1) := by decide +kernel
theorem d_L_law_307 : decode mi_L_law.2.1 307 = .ok (.iaload, 1) := by decide +kernel
theorem d_L_law_308 : decode mi_L_law.2.1 308 = .ok (.aload_n 0, 1) := by decide +kernel
theorem d_L_law_309 : decode mi_L_law.2.1 309 = .ok (.iload_n 3, 1) := by decide +kernel
theorem d_L_law_310 : decode mi_L_law.2.1 310 = .ok (.iconst 4, 1) := by decide +kernel
theorem d_L_law_311 : decode mi_L_law.2.1 311 = .ok (.iadd, 1) := by decide +kernel
theorem d_L_law_312 : decode mi_L_law.2.1 312 = .ok (.iaload, 1) := by decide +kernel
theorem d_L_law_313 : decode mi_L_law.2.1 313 = .ok (.i2l, 1) := by decide +kernel
theorem d_L_law_314 : decode mi_L_law.2.1 314 = .ok (.bipush 32, 2) := by decide +kernel
theorem d_L_law_316 : decode mi_L_law.2.1 316 = .ok (.lshl, 1) := by decide +kernel
theorem d_L_law_317 : decode mi_L_law.2.1 317 = .ok (.aload_n 0, 1) := by decide +kernel
theorem d_L_law_318 : decode mi_L_law.2.1 318 = .ok (.iload_n 3, 1) := by decide +kernel
theorem d_L_law_319 : decode mi_L_law.2.1 319 = .ok (.iconst 5, 1) := by decide +kernel
theorem d_L_law_320 : decode mi_L_law.2.1 320 = .ok (.iadd, 1) := by decide +kernel
theorem d_L_law_321 : decode mi_L_law.2.1 321 = .ok (.iaload, 1) := by decide +kernel
theorem d_L_law_322 : decode mi_L_law.2.1 322 = .ok (.i2l, 1) := by decide +kernel
theorem d_L_law_323 : decode mi_L_law.2.1 323 = .ok (.ldc2_w 32, 3) := by decide +kernel
theorem d_L_law_326 : decode mi_L_law.2.1 326 = .ok (.land, 1) := by decide +kernel
theorem d_L_law_327 : decode mi_L_law.2.1 327 = .ok (.lor, 1) := by decide +kernel
theorem d_L_law_328 : decode mi_L_law.2.1 328 = .ok (.aload_n 0, 1) := by decide +kernel
theorem d_L_law_329 : decode mi_L_law.2.1 329 = .ok (.iload_n 3, 1) := by decide +kernel
theorem d_L_law_330 : decode mi_L_law.2.1 330 = .ok (.bipush 6, 2) := by decide +kernel
theorem d_L_law_332 : decode mi_L_law.2.1 332 = .ok (.iadd, 1) := by decide +kernel
theorem d_L_law_333 : decode mi_L_law.2.1 333 = .ok (.iaload, 1) := by decide +kernel
theorem d_L_law_334 : decode mi_L_law.2.1 334 = .ok (.invokevirtual 43, 3) := by decide +kernel
theorem d_L_law_337 : decode mi_L_law.2.1 337 = .ok (.if_icmp .eq 149, 3) := by decide +kernel
theorem d_L_law_340 : decode mi_L_law.2.1 340 = .ok (.iconst 0, 1) := by decide +kernel
theorem d_L_law_341 : decode mi_L_law.2.1 341 = .ok (.ireturn, 1) := by decide +kernel
theorem d_L_law_342 : decode mi_L_law.2.1 342 = .ok (.aload_n 1, 1) := by decide +kernel
theorem d_L_law_343 : decode mi_L_law.2.1 343 = .ok (.invokevirtual 44, 3) := by decide +kernel
theorem d_L_law_346 : decode mi_L_law.2.1 346 = .ok (.aload_n 2, 1) := by decide +kernel
theorem d_L_law_347 : decode mi_L_law.2.1 347 = .ok (.invokevirtual 48, 3) := by decide +kernel
theorem d_L_law_350 : decode mi_L_law.2.1 350 = .ok (.if_icmp .eq 136, 3) := by decide +kernel
theorem d_L_law_353 : decode mi_L_law.2.1 353 = .ok (.iconst 0, 1) := by decide +kernel
theorem d_L_law_354 : decode mi_L_law.2.1 354 = .ok (.ireturn, 1) := by decide +kernel
theorem d_L_law_355 : decode mi_L_law.2.1 355 = .ok (.aload_n 1, 1) := by decide +kernel
theorem d_L_law_356 : decode mi_L_law.2.1 356 = .ok (.invokevirtual 49, 3) := by decide +kernel
theorem d_L_law_359 : decode mi_L_law.2.1 359 = .ok (.aload_n 2, 1) := by decide +kernel
theorem d_L_law_360 : decode mi_L_law.2.1 360 = .ok (.invokevirtual 52, 3) := by decide +kernel
theorem d_L_law_363 : decode mi_L_law.2.1 363 = .ok (.if_icmp .eq 123, 3) := by decide +kernel
theorem d_L_law_366 : decode mi_L_law.2.1 366 = .ok (.iconst 0, 1) := by decide +kernel
theorem d_L_law_367 : decode mi_L_law.2.1 367 = .ok (.ireturn, 1) := by decide +kernel
theorem d_L_law_368 : decode mi_L_law.2.1 368 = .ok (.aload_n 1, 1) := by decide +kernel
theorem d_L_law_369 : decode mi_L_law.2.1 369 = .ok (.aload_n 0, 1) := by decide +kernel
theorem d_L_law_370 : decode mi_L_law.2.1 370 = .ok (.iload_n 3, 1) := by decide +kernel
theorem d_L_law_371 : decode mi_L_law.2.1 371 = .ok (.iconst 1, 1) := by decide +kernel
theorem d_L_law_372 : decode mi_L_law.2.1 372 = .ok (.iadd, 1) := by decide +kernel
theorem d_L_law_373 : decode mi_L_law.2.1 373 = .ok (.iaload, 1) := by decide +kernel
theorem d_L_law_374 : decode mi_L_law.2.1 374 = .ok (.invokevirtual 53, 3) := by decide +kernel
theorem d_L_law_377 : decode mi_L_law.2.1 377 = .ok (.aload_n 2, 1) := by decide +kernel
theorem d_L_law_378 : decode mi_L_law.2.1 378 = .ok (.aload_n 0, 1) := by decide +kernel
theorem d_L_law_379 : decode mi_L_law.2.1 379 = .ok (.iload_n 3, 1) := by decide +kernel
theorem d_L_law_380 : decode mi_L_law.2.1 380 = .ok (.iconst 1, 1) := by decide +kernel
theorem d_L_law_381 : decode mi_L_law.2.1 381 = .ok (.iadd, 1) := by decide +kernel
theorem d_L_law_382 : decode mi_L_law.2.1 382 = .ok (.iaload, 1) := by decide +kernel
theorem d_L_law_383 : decode mi_L_law.2.1 383 = .ok (.invokevirtual 56, 3) := by decide +kernel
theorem d_L_law_386 : decode mi_L_law.2.1 386 = .ok (.if_icmp .eq 100, 3) := by decide +kernel
theorem d_L_law_389 : decode mi_L_law.2.1 389 = .ok (.iconst 0, 1) := by decide +kernel
theorem d_L_law_390 : decode mi_L_law.2.1 390 = .ok (.ireturn, 1) := by decide +kernel
theorem d_L_law_391 : decode mi_L_law.2.1 391 = .ok (.aload_n 1, 1) := by decide +kernel
theorem d_L_law_392 : decode mi_L_law.2.1 392 = .ok (.invokevirtual 57, 3) := by decide +kernel
theorem d_L_law_395 : decode mi_L_law.2.1 395 = .ok (.aload_n 2, 1) := by decide +kernel
theorem d_L_law_396 : decode mi_L_law.2.1 396 = .ok (.invokevirtual 60, 3) := by decide +kernel
theorem d_L_law_399 : decode mi_L_law.2.1 399 = .ok (.if_icmp .eq 87, 3) := by decide +kernel
theorem d_L_law_402 : decode mi_L_law.2.1 402 = .ok (.iconst 0, 1) := by decide +kernel
theorem d_L_law_403 : decode mi_L_law.2.1 403 = .ok (.ireturn, 1) := by decide +kernel
theorem d_L_law_404 : decode mi_L_law.2.1 404 = .ok (.aload_n 1, 1) := by decide +kernel
theorem d_L_law_405 : decode mi_L_law.2.1 405 = .ok (.aload_n 0, 1) := by decide +kernel
theorem d_L_law_406 : decode mi_L_law.2.1 406 = .ok (.iload_n 3, 1) := by decide +kernel
theorem d_L_law_407 : decode mi_L_law.2.1 407 = .ok (.iconst 1, 1) := by decide +kernel
theorem d_L_law_408 : decode mi_L_law.2.1 408 = .ok (.iadd, 1) := by decide +kernel
theorem d_L_law_409 : decode mi_L_law.2.1 409 = .ok (.iaload, 1) := by decide +kernel
theorem d_L_law_410 : decode mi_L_law.2.1 410 = .ok (.invokevirtual 61, 3) := by decide +kernel
theorem d_L_law_413 : decode mi_L_law.2.1 413 = .ok (.aload_n 2, 1) := by decide +kernel
theorem d_L_law_414 : decode mi_L_law.2.1 414 = .ok (.aload_n 0, 1) := by decide +kernel
theorem d_L_law_415 : decode mi_L_law.2.1 415 = .ok (.iload_n 3, 1) := by decide +kernel
theorem d_L_law_416 : decode mi_L_law.2.1 416 = .ok (.iconst 1, 1) := by decide +kernel
theorem d_L_law_417 : decode mi_L_law.2.1 417 = .ok (.iadd, 1) := by decide +kernel
theorem d_L_law_418 : decode mi_L_law.2.1 418 = .ok (.iaload, 1) := by decide +kernel
theorem d_L_law_419 : decode mi_L_law.2.1 419 = .ok (.invokevirtual 64, 3) := by decide +kernel
theorem d_L_law_422 : decode mi_L_law.2.1 422 = .ok (.if_icmp .eq 64, 3) := by decide +kernel
theorem d_L_law_425 : decode mi_L_law.2.1 425 = .ok (.iconst 0, 1) := by decide +kernel
theorem d_L_law_426 : decode mi_L_law.2.1 426 = .ok (.ireturn, 1) := by decide +kernel
theorem d_L_law_427 : decode mi_L_law.2.1 427 = .ok (.aload_n 1, 1) := by decide +kernel
theorem d_L_law_428 : decode mi_L_law.2.1 428 = .ok (.invokevirtual 65, 3) := by decide +kernel
theorem d_L_law_431 : decode mi_L_law.2.1 431 = .ok (.aload_n 2, 1) := by decide +kernel
theorem d_L_law_432 : decode mi_L_law.2.1 432 = .ok (.invokevirtual 68, 3) := by decide +kernel
theorem d_L_law_435 : decode mi_L_law.2.1 435 = .ok (.if_icmp .eq 51, 3) := by decide +kernel
theorem d_L_law_438 : decode mi_L_law.2.1 438 = .ok (.iconst 0, 1) := by decide +kernel
theorem d_L_law_439 : decode mi_L_law.2.1 439 = .ok (.ireturn, 1) := by decide +kernel
theorem d_L_law_440 : decode mi_L_law.2.1 440 = .ok (.aload_n 1, 1) := by decide +kernel
theorem d_L_law_441 : decode mi_L_law.2.1 441 = .ok (.aload_n 0, 1) := by decide +kernel
theorem d_L_law_442 : decode mi_L_law.2.1 442 = .ok (.iload_n 3, 1) := by decide +kernel
theorem d_L_law_443 : decode mi_L_law.2.1 443 = .ok (.iconst 1, 1) := by decide +kernel
theorem d_L_law_444 : decode mi_L_law.2.1 444 = .ok (.iadd, 1) := by decide +kernel
theorem d_L_law_445 : decode mi_L_law.2.1 445 = .ok (.iaload, 1) := by decide +kernel
theorem d_L_law_446 : decode mi_L_law.2.1 446 = .ok (.invokevirtual 69, 3) := by decide +kernel
theorem d_L_law_449 : decode mi_L_law.2.1 449 = .ok (.aload_n 2, 1) := by decide +kernel
theorem d_L_law_450 : decode mi_L_law.2.1 450 = .ok (.aload_n 0, 1) := by decide +kernel
theorem d_L_law_451 : decode mi_L_law.2.1 451 = .ok (.iload_n 3, 1) := by decide +kernel
theorem d_L_law_452 : decode mi_L_law.2.1 452 = .ok (.iconst 1, 1) := by decide +kernel
theorem d_L_law_453 : decode mi_L_law.2.1 453 = .ok (.iadd, 1) := by decide +kernel
theorem d_L_law_454 : decode mi_L_law.2.1 454 = .ok (.iaload, 1) := by decide +kernel
theorem d_L_law_455 : decode mi_L_law.2.1 455 = .ok (.invokevirtual 72, 3) := by decide +kernel
theorem d_L_law_458 : decode mi_L_law.2.1 458 = .ok (.if_icmp .eq 28, 3) := by decide +kernel
theorem d_L_law_461 : decode mi_L_law.2.1 461 = .ok (.iconst 0, 1) := by decide +kernel
theorem d_L_law_462 : decode mi_L_law.2.1 462 = .ok (.ireturn, 1) := by decide +kernel
theorem d_L_law_463 : decode mi_L_law.2.1 463 = .ok (.aload_n 1, 1) := by decide +kernel
theorem d_L_law_464 : decode mi_L_law.2.1 464 = .ok (.aload_n 0, 1) := by decide +kernel
theorem d_L_law_465 : decode mi_L_law.2.1 465 = .ok (.iload_n 3, 1) := by decide +kernel
theorem d_L_law_466 : decode mi_L_law.2.1 466 = .ok (.iconst 1, 1) := by decide +kernel
theorem d_L_law_467 : decode mi_L_law.2.1 467 = .ok (.iadd, 1) := by decide +kernel
theorem d_L_law_468 : decode mi_L_law.2.1 468 = .ok (.iaload, 1) := by decide +kernel
theorem d_L_law_469 : decode mi_L_law.2.1 469 = .ok (.invokevirtual 73, 3) := by decide +kernel
theorem d_L_law_472 : decode mi_L_law.2.1 472 = .ok (.aload_n 2, 1) := by decide +kernel
theorem d_L_law_473 : decode mi_L_law.2.1 473 = .ok (.aload_n 0, 1) := by decide +kernel
theorem d_L_law_474 : decode mi_L_law.2.1 474 = .ok (.iload_n 3, 1) := by decide +kernel
theorem d_L_law_475 : decode mi_L_law.2.1 475 = .ok (.iconst 1, 1) := by decide +kernel
theorem d_L_law_476 : decode mi_L_law.2.1 476 = .ok (.iadd, 1) := by decide +kernel
theorem d_L_law_477 : decode mi_L_law.2.1 477 = .ok (.iaload, 1) := by decide +kernel
theorem d_L_law_478 : decode mi_L_law.2.1 478 = .ok (.invokevirtual 76, 3) := by decide +kernel
theorem d_L_law_481 : decode mi_L_law.2.1 481 = .ok (.if_icmp .eq 5, 3) := by decide +kernel
theorem d_L_law_484 : decode mi_L_law.2.1 484 = .ok (.iconst 0, 1) := by decide +kernel
theorem d_L_law_485 : decode mi_L_law.2.1 485 = .ok (.ireturn, 1) := by decide +kernel
theorem d_L_law_486 : decode mi_L_law.2.1 486 = .ok (.iinc 3 7, 3) := by decide +kernel
theorem d_L_law_489 : decode mi_L_law.2.1 489 = .ok (.goto (-471), 3) := by decide +kernel
theorem d_L_law_492 : decode mi_L_law.2.1 492 = .ok (.iconst 1, 1) := by decide +kernel
theorem d_L_law_493 : decode mi_L_law.2.1 493 = .ok (.ireturn, 1) := by decide +kernel

theorem d_By_init_0 : decode mi_By_init.2.1 0 = .ok (.aload_n 0, 1) := by decide +kernel
theorem d_By_init_1 : decode mi_By_init.2.1 1 = .ok (.invokespecial 1, 3) := by decide +kernel
theorem d_By_init_4 : decode mi_By_init.2.1 4 = .ok (.aload_n 0, 1) := by decide +kernel
theorem d_By_init_5 : decode mi_By_init.2.1 5 = .ok (.iload_n 1, 1) := by decide +kernel
theorem d_By_init_6 : decode mi_By_init.2.1 6 = .ok (.newarray .byte, 2) := by decide +kernel
theorem d_By_init_8 : decode mi_By_init.2.1 8 = .ok (.putfield 7, 3) := by decide +kernel
theorem d_By_init_11 : decode mi_By_init.2.1 11 = .ok (.return_, 1) := by decide +kernel
theorem d_Ch_init_0 : decode mi_Ch_init.2.1 0 = .ok (.aload_n 0, 1) := by decide +kernel
theorem d_Ch_init_1 : decode mi_Ch_init.2.1 1 = .ok (.invokespecial 3, 3) := by decide +kernel
theorem d_Ch_init_4 : decode mi_Ch_init.2.1 4 = .ok (.aload_n 0, 1) := by decide +kernel
theorem d_Ch_init_5 : decode mi_Ch_init.2.1 5 = .ok (.new 9, 3) := by decide +kernel
theorem d_Ch_init_8 : decode mi_Ch_init.2.1 8 = .ok (.dup, 1) := by decide +kernel
theorem d_Ch_init_9 : decode mi_Ch_init.2.1 9 = .ok (.invokespecial 11, 3) := by decide +kernel
theorem d_Ch_init_12 : decode mi_Ch_init.2.1 12 = .ok (.putfield 12, 3) := by decide +kernel
theorem d_Ch_init_15 : decode mi_Ch_init.2.1 15 = .ok (.aload_n 0, 1) := by decide +kernel
theorem d_Ch_init_16 : decode mi_Ch_init.2.1 16 = .ok (.iconst 1, 1) := by decide +kernel
theorem d_Ch_init_17 : decode mi_Ch_init.2.1 17 = .ok (.putfield 18, 3) := by decide +kernel
theorem d_Ch_init_20 : decode mi_Ch_init.2.1 20 = .ok (.return_, 1) := by decide +kernel
theorem d_Me_init_0 : decode mi_Me_init.2.1 0 = .ok (.aload_n 0, 1) := by decide +kernel
theorem d_Me_init_1 : decode mi_Me_init.2.1 1 = .ok (.invokespecial 3, 3) := by decide +kernel
theorem d_Me_init_4 : decode mi_Me_init.2.1 4 = .ok (.aload_n 0, 1) := by decide +kernel
theorem d_Me_init_5 : decode mi_Me_init.2.1 5 = .ok (.new 9, 3) := by decide +kernel
theorem d_Me_init_8 : decode mi_Me_init.2.1 8 = .ok (.dup, 1) := by decide +kernel
theorem d_Me_init_9 : decode mi_Me_init.2.1 9 = .ok (.bipush 64, 2) := by decide +kernel
theorem d_Me_init_11 : decode mi_Me_init.2.1 11 = .ok (.invokespecial 11, 3) := by decide +kernel
theorem d_Me_init_14 : decode mi_Me_init.2.1 14 = .ok (.putfield 14, 3) := by decide +kernel
theorem d_Me_init_17 : decode mi_Me_init.2.1 17 = .ok (.return_, 1) := by decide +kernel
theorem d_It_init_0 : decode mi_It_init.2.1 0 = .ok (.aload_n 0, 1) := by decide +kernel
theorem d_It_init_1 : decode mi_It_init.2.1 1 = .ok (.invokespecial 3, 3) := by decide +kernel
theorem d_It_init_4 : decode mi_It_init.2.1 4 = .ok (.aload_n 0, 1) := by decide +kernel
theorem d_It_init_5 : decode mi_It_init.2.1 5 = .ok (.iconst 4, 1) := by decide +kernel
theorem d_It_init_6 : decode mi_It_init.2.1 6 = .ok (.anewarray 9, 3) := by decide +kernel
theorem d_It_init_9 : decode mi_It_init.2.1 9 = .ok (.putfield 11, 3) := by decide +kernel
theorem d_It_init_12 : decode mi_It_init.2.1 12 = .ok (.aload_n 0, 1) := by decide +kernel
theorem d_It_init_13 : decode mi_It_init.2.1 13 = .ok (.iconst 1, 1) := by decide +kernel
theorem d_It_init_14 : decode mi_It_init.2.1 14 = .ok (.putfield 17, 3) := by decide +kernel
theorem d_It_init_17 : decode mi_It_init.2.1 17 = .ok (.iconst 0, 1) := by decide +kernel
theorem d_It_init_18 : decode mi_It_init.2.1 18 = .ok (.istore_n 1, 1) := by decide +kernel
theorem d_It_init_19 : decode mi_It_init.2.1 19 = .ok (.iload_n 1, 1) := by decide +kernel
theorem d_It_init_20 : decode mi_It_init.2.1 20 = .ok (.iconst 4, 1) := by decide +kernel
theorem d_It_init_21 : decode mi_It_init.2.1 21 = .ok (.if_icmp .ge 22, 3) := by decide +kernel
theorem d_It_init_24 : decode mi_It_init.2.1 24 = .ok (.aload_n 0, 1) := by decide +kernel
theorem d_It_init_25 : decode mi_It_init.2.1 25 = .ok (.getfield 11, 3) := by decide +kernel
theorem d_It_init_28 : decode mi_It_init.2.1 28 = .ok (.iload_n 1, 1) := by decide +kernel
theorem d_It_init_29 : decode mi_It_init.2.1 29 = .ok (.new 9, 3) := by decide +kernel
theorem d_It_init_32 : decode mi_It_init.2.1 32 = .ok (.dup, 1) := by decide +kernel
theorem d_It_init_33 : decode mi_It_init.2.1 33 = .ok (.invokespecial 21, 3) := by decide +kernel
theorem d_It_init_36 : decode mi_It_init.2.1 36 = .ok (.aastore, 1) := by decide +kernel
theorem d_It_init_37 : decode mi_It_init.2.1 37 = .ok (.iinc 1 1, 3) := by decide +kernel
theorem d_It_init_40 : decode mi_It_init.2.1 40 = .ok (.goto (-21), 3) := by decide +kernel
theorem d_It_init_43 : decode mi_It_init.2.1 43 = .ok (.return_, 1) := by decide +kernel
theorem d_By_add_0 : decode mi_By_add.2.1 0 = .ok (.aload_n 0, 1) := by decide +kernel
theorem d_By_add_1 : decode mi_By_add.2.1 1 = .ok (.getfield 13, 3) := by decide +kernel
theorem d_By_add_4 : decode mi_By_add.2.1 4 = .ok (.aload_n 0, 1) := by decide +kernel
theorem d_By_add_5 : decode mi_By_add.2.1 5 = .ok (.getfield 7, 3) := by decide +kernel
theorem d_By_add_8 : decode mi_By_add.2.1 8 = .ok (.arraylength, 1) := by decide +kernel
theorem d_By_add_9 : decode mi_By_add.2.1 9 = .ok (.if_icmp .ge 24, 3) := by decide +kernel
theorem d_By_add_12 : decode mi_By_add.2.1 12 = .ok (.aload_n 0, 1) := by decide +kernel
theorem d_By_add_13 : decode mi_By_add.2.1 13 = .ok (.getfield 7, 3) := by decide +kernel
theorem d_By_add_16 : decode mi_By_add.2.1 16 = .ok (.aload_n 0, 1) := by decide +kernel
theorem d_By_add_17 : decode mi_By_add.2.1 17 = .ok (.getfield 13, 3) := by decide +kernel
theorem d_By_add_20 : decode mi_By_add.2.1 20 = .ok (.iload_n 1, 1) := by decide +kernel
theorem d_By_add_21 : decode mi_By_add.2.1 21 = .ok (.i2b, 1) := by decide +kernel
theorem d_By_add_22 : decode mi_By_add.2.1 22 = .ok (.bastore, 1) := by decide +kernel
theorem d_By_add_23 : decode mi_By_add.2.1 23 = .ok (.aload_n 0, 1) := by decide +kernel
theorem d_By_add_24 : decode mi_By_add.2.1 24 = .ok (.dup, 1) := by decide +kernel
theorem d_By_add_25 : decode mi_By_add.2.1 25 = .ok (.getfield 13, 3) := by decide +kernel
theorem d_By_add_28 : decode mi_By_add.2.1 28 = .ok (.iconst 1, 1) := by decide +kernel
theorem d_By_add_29 : decode mi_By_add.2.1 29 = .ok (.iadd, 1) := by decide +kernel
theorem d_By_add_30 : decode mi_By_add.2.1 30 = .ok (.putfield 13, 3) := by decide +kernel
theorem d_By_add_33 : decode mi_By_add.2.1 33 = .ok (.return_, 1) := by decide +kernel
theorem d_By_addNumber_0 : decode mi_By_addNumber.2.1 0 = .ok (.iconst 0, 1) := by decide +kernel
theorem d_By_addNumber_1 : decode mi_By_addNumber.2.1 1 = .ok (.istore 4, 2) := by decide +kernel
theorem d_By_addNumber_3 : decode mi_By_addNumber.2.1 3 = .ok (.iload 4, 2) := by decide +kernel
theorem d_By_addNumber_5 : decode mi_By_addNumber.2.1 5 = .ok (.iload_n 3, 1) := by decide +kernel
theorem d_By_addNumber_6 : decode mi_By_addNumber.2.1 6 = .ok (.if_icmp .ge 21, 3) := by decide +kernel
theorem d_By_addNumber_9 : decode mi_By_addNumber.2.1 9 = .ok (.aload_n 0, 1) := by decide +kernel
theorem d_By_addNumber_10 : decode mi_By_addNumber.2.1 10 = .ok (.lload_n 1, 1) := by decide +kernel
theorem d_By_addNumber_11 : decode mi_By_addNumber.2.1 11 = .ok (.bipush 8, 2) := by decide +kernel
theorem d_By_addNumber_13 : decode mi_By_addNumber.2.1 13 = .ok (.iload 4, 2) := by decide +kernel
theorem d_By_addNumber_15 : decode mi_By_addNumber.2.1 15 = .ok (.imul, 1) := by decide +kernel
theorem d_By_addNumber_16 : decode mi_By_addNumber.2.1 16 = .ok (.lshr, 1) := by decide +kernel
theorem d_By_addNumber_17 : decode mi_By_addNumber.2.1 17 = .ok (.l2i, 1) := by decide +kernel
theorem d_By_addNumber_18 : decode mi_By_addNumber.2.1 18 = .ok (.invokevirtual 17, 3) := by decide +kernel
theorem d_By_addNumber_21 : decode mi_By_addNumber.2.1 21 = .ok (.iinc 4 1, 3) := by decide +kernel
theorem d_By_addNumber_24 : decode mi_By_addNumber.2.1 24 = .ok (.goto (-21), 3) := by decide +kernel
theorem d_By_addNumber_27 : decode mi_By_addNumber.2.1 27 = .ok (.return_, 1) := by decide +kernel
theorem d_Ch_restart_0 : decode mi_Ch_restart.2.1 0 = .ok (.aload_n 0, 1) := by decide +kernel
theorem d_Ch_restart_1 : decode mi_Ch_restart.2.1 1 = .ok (.iconst 1, 1) := by decide +kernel
theorem d_Ch_restart_2 : decode mi_Ch_restart.2.1 2 = .ok (.putfield 18, 3) := by decide +kernel
theorem d_Ch_restart_5 : decode mi_Ch_restart.2.1 5 = .ok (.aload_n 0, 1) := by decide +kernel
theorem d_Ch_restart_6 : decode mi_Ch_restart.2.1 6 = .ok (.iconst 0, 1) := by decide +kernel
theorem d_Ch_restart_7 : decode mi_Ch_restart.2.1 7 = .ok (.putfield 22, 3) := by decide +kernel
theorem d_Ch_restart_10 : decode mi_Ch_restart.2.1 10 = .ok (.aload_n 0, 1) := by decide +kernel
theorem d_Ch_restart_11 : decode mi_Ch_restart.2.1 11 = .ok (.iconst 0, 1) := by decide +kernel
theorem d_Ch_restart_12 : decode mi_Ch_restart.2.1 12 = .ok (.putfield 25, 3) := by decide +kernel
theorem d_Ch_restart_15 : decode mi_Ch_restart.2.1 15 = .ok (.return_, 1) := by decide +kernel
theorem d_By_clear_0 : decode mi_By_clear.2.1 0 = .ok (.aload_n 0, 1) := by decide +kernel
theorem d_By_clear_1 : decode mi_By_clear.2.1 1 = .ok (.iconst 0, 1) := by decide +kernel
theorem d_By_clear_2 : decode mi_By_clear.2.1 2 = .ok (.putfield 13, 3) := by decide +kernel
theorem d_By_clear_5 : decode mi_By_clear.2.1 5 = .ok (.return_, 1) := by decide +kernel
theorem d_By_isSameAs_0 : decode mi_By_isSameAs.2.1 0 = .ok (.aload_n 0, 1) := by decide +kernel
theorem d_By_isSameAs_1 : decode mi_By_isSameAs.2.1 1 = .ok (.getfield 13, 3) := by decide +kernel
theorem d_By_isSameAs_4 : decode mi_By_isSameAs.2.1 4 = .ok (.aload_n 1, 1) := by decide +kernel
theorem d_By_isSameAs_5 : decode mi_By_isSameAs.2.1 5 = .ok (.getfield 13, 3) := by decide +kernel
theorem d_By_isSameAs_8 : decode mi_By_isSameAs.2.1 8 = .ok (.if_icmp .eq 5, 3) := by decide +kernel
theorem d_By_isSameAs_11 : decode mi_By_isSameAs.2.1 11 = .ok (.iconst 0, 1) := by decide +kernel
theorem d_By_isSameAs_12 : decode mi_By_isSameAs.2.1 12 = .ok (.ireturn, 1) := by decide +kernel
theorem d_By_isSameAs_13 : decode mi_By_isSameAs.2.1 13 = .ok (.iconst 0, 1) := by decide +kernel
theorem d_By_isSameAs_14 : decode mi_By_isSameAs.2.1 14 = .ok (.istore_n 2, 1) := by decide +kernel
theorem d_By_isSameAs_15 : decode mi_By_isSameAs.2.1 15 = .ok (.iload_n 2, 1) := by decide +kernel
theorem d_By_isSameAs_16 : decode mi_By_isSameAs.2.1 16 = .ok (.aload_n 0, 1) := by decide +kernel
theorem d_By_isSameAs_17 : decode mi_By_isSameAs.2.1 17 = .ok (.getfield 13, 3) := by decide +kernel
theorem d_By_isSameAs_20 : decode mi_By_isSameAs.2.1 20 = .ok (.if_icmp .ge 26, 3) := by decide +kernel
theorem d_By_isSameAs_23 : decode mi_By_isSameAs.2.1 23 = .ok (.aload_n 0, 1) := by decide +kernel
theorem d_By_isSameAs_24 : decode mi_By_isSameAs.2.1 24 = .ok (.getfield 7, 3) := by decide +kernel
theorem d_By_isSameAs_27 : decode mi_By_isSameAs.2.1 27 = .ok (.iload_n 2, 1) := by decide +kernel
theorem d_By_isSameAs_28 : decode mi_By_isSameAs.2.1 28 = .ok (.baload, 1) := by decide +kernel
theorem d_By_isSameAs_29 : decode mi_By_isSameAs.2.1 29 = .ok (.aload_n 1, 1) := by decide +kernel
theorem d_By_isSameAs_30 : decode mi_By_isSameAs.2.1 30 = .ok (.getfield 7, 3) := by decide +kernel
theorem d_By_isSameAs_33 : decode mi_By_isSameAs.2.1 33 = .ok (.iload_n 2, 1) := by decide +kernel
theorem d_By_isSameAs_34 : decode mi_By_isSameAs.2.1 34 = .ok (.baload, 1) := by decide +kernel
theorem d_By_isSameAs_35 : decode mi_By_isSameAs.2.1 35 = .ok (.if_icmp .eq 5, 3) := by decide +kernel
theorem d_By_isSameAs_38 : decode mi_By_isSameAs.2.1 38 = .ok (.iconst 0, 1) := by decide +kernel
theorem d_By_isSameAs_39 : decode mi_By_isSameAs.2.1 39 = .ok (.ireturn, 1) := by decide +kernel
theorem d_By_isSameAs_40 : decode mi_By_isSameAs.2.1 40 = .ok (.iinc 2 1, 3) := by decide +kernel
theorem d_By_isSameAs_43 : decode mi_By_isSameAs.2.1 43 = .ok (.goto (-28), 3) := by decide +kernel
theorem d_By_isSameAs_46 : decode mi_By_isSameAs.2.1 46 = .ok (.iconst 1, 1) := by decide +kernel
theorem d_By_isSameAs_47 : decode mi_By_isSameAs.2.1 47 = .ok (.ireturn, 1) := by decide +kernel
theorem d_By_append_0 : decode mi_By_append.2.1 0 = .ok (.aload_n 1, 1) := by decide +kernel
theorem d_By_append_1 : decode mi_By_append.2.1 1 = .ok (.getfield 13, 3) := by decide +kernel
theorem d_By_append_4 : decode mi_By_append.2.1 4 = .ok (.aload_n 0, 1) := by decide +kernel
theorem d_By_append_5 : decode mi_By_append.2.1 5 = .ok (.getfield 7, 3) := by decide +kernel
theorem d_By_append_8 : decode mi_By_append.2.1 8 = .ok (.arraylength, 1) := by decide +kernel
theorem d_By_append_9 : decode mi_By_append.2.1 9 = .ok (.aload_n 0, 1) := by decide +kernel
theorem d_By_append_10 : decode mi_By_append.2.1 10 = .ok (.getfield 13, 3) := by decide +kernel
theorem d_By_append_13 : decode mi_By_append.2.1 13 = .ok (.isub, 1) := by decide +kernel
theorem d_By_append_14 : decode mi_By_append.2.1 14 = .ok (.invokestatic 21, 3) := by decide +kernel
theorem d_By_append_17 : decode mi_By_append.2.1 17 = .ok (.istore_n 2, 1) := by decide +kernel
theorem d_By_append_18 : decode mi_By_append.2.1 18 = .ok (.aload_n 1, 1) := by decide +kernel
theorem d_By_append_19 : decode mi_By_append.2.1 19 = .ok (.getfield 7, 3) := by decide +kernel
theorem d_By_append_22 : decode mi_By_append.2.1 22 = .ok (.iconst 0, 1) := by decide +kernel
theorem d_By_append_23 : decode mi_By_append.2.1 23 = .ok (.aload_n 0, 1) := by decide +kernel
theorem d_By_append_24 : decode mi_By_append.2.1 24 = .ok (.getfield 7, 3) := by decide +kernel
theorem d_By_append_27 : decode mi_By_append.2.1 27 = .ok (.aload_n 0, 1) := by decide +kernel
theorem d_By_append_28 : decode mi_By_append.2.1 28 = .ok (.getfield 13, 3) := by decide +kernel
theorem d_By_append_31 : decode mi_By_append.2.1 31 = .ok (.iload_n 2, 1) := by decide +kernel
theorem d_By_append_32 : decode mi_By_append.2.1 32 = .ok (.invokestatic 27, 3) := by decide +kernel
theorem d_By_append_35 : decode mi_By_append.2.1 35 = .ok (.aload_n 0, 1) := by decide +kernel
theorem d_By_append_36 : decode mi_By_append.2.1 36 = .ok (.dup, 1) := by decide +kernel
theorem d_By_append_37 : decode mi_By_append.2.1 37 = .ok (.getfield 13, 3) := by decide +kernel
theorem d_By_append_40 : decode mi_By_append.2.1 40 = .ok (.iload_n 2, 1) := by decide +kernel
theorem d_By_append_41 : decode mi_By_append.2.1 41 = .ok (.iadd, 1) := by decide +kernel
theorem d_By_append_42 : decode mi_By_append.2.1 42 = .ok (.putfield 13, 3) := by decide +kernel
theorem d_By_append_45 : decode mi_By_append.2.1 45 = .ok (.return_, 1) := by decide +kernel
theorem d_It_addNotice_0 : decode mi_It_addNotice.2.1 0 = .ok (.aload_n 0, 1) := by decide +kernel
theorem d_It_addNotice_1 : decode mi_It_addNotice.2.1 1 = .ok (.getfield 29, 3) := by decide +kernel
theorem d_It_addNotice_4 : decode mi_It_addNotice.2.1 4 = .ok (.aload_n 0, 1) := by decide +kernel
theorem d_It_addNotice_5 : decode mi_It_addNotice.2.1 5 = .ok (.getfield 17, 3) := by decide +kernel
theorem d_It_addNotice_8 : decode mi_It_addNotice.2.1 8 = .ok (.if_icmp .ne 15, 3) := by decide +kernel
theorem d_It_addNotice_11 : decode mi_It_addNotice.2.1 11 = .ok (.aload_n 0, 1) := by decide +kernel
theorem d_It_addNotice_12 : decode mi_It_addNotice.2.1 12 = .ok (.getfield 17, 3) := by decide +kernel
theorem d_It_addNotice_15 : decode mi_It_addNotice.2.1 15 = .ok (.iconst 1, 1) := by decide +kernel
theorem d_It_addNotice_16 : decode mi_It_addNotice.2.1 16 = .ok (.if_icmp .le 7, 3) := by decide +kernel
theorem d_It_addNotice_19 : decode mi_It_addNotice.2.1 19 = .ok (.iconst 1, 1) := by decide +kernel
theorem d_It_addNotice_20 : decode mi_It_addNotice.2.1 20 = .ok (.goto 4, 3) := by decide +kernel
theorem d_It_addNotice_23 : decode mi_It_addNotice.2.1 23 = .ok (.iconst 0, 1) := by decide +kernel
theorem d_It_addNotice_24 : decode mi_It_addNotice.2.1 24 = .ok (.istore_n 2, 1) := by decide +kernel
theorem d_It_addNotice_25 : decode mi_It_addNotice.2.1 25 = .ok (.aload_n 0, 1) := by decide +kernel
theorem d_It_addNotice_26 : decode mi_It_addNotice.2.1 26 = .ok (.getfield 29, 3) := by decide +kernel
theorem d_It_addNotice_29 : decode mi_It_addNotice.2.1 29 = .ok (.aload_n 0, 1) := by decide +kernel
theorem d_It_addNotice_30 : decode mi_It_addNotice.2.1 30 = .ok (.getfield 17, 3) := by decide +kernel
theorem d_It_addNotice_33 : decode mi_It_addNotice.2.1 33 = .ok (.if_icmp .ne 7, 3) := by decide +kernel
theorem d_It_addNotice_36 : decode mi_It_addNotice.2.1 36 = .ok (.aload_n 0, 1) := by decide +kernel
theorem d_It_addNotice_37 : decode mi_It_addNotice.2.1 37 = .ok (.invokevirtual 32, 3) := by decide +kernel
theorem d_It_addNotice_40 : decode mi_It_addNotice.2.1 40 = .ok (.aload_n 0, 1) := by decide +kernel
theorem d_It_addNotice_41 : decode mi_It_addNotice.2.1 41 = .ok (.getfield 11, 3) := by decide +kernel
theorem d_It_addNotice_44 : decode mi_It_addNotice.2.1 44 = .ok (.aload_n 0, 1) := by decide +kernel
theorem d_It_addNotice_45 : decode mi_It_addNotice.2.1 45 = .ok (.getfield 29, 3) := by decide +kernel
theorem d_It_addNotice_48 : decode mi_It_addNotice.2.1 48 = .ok (.aaload, 1) := by decide +kernel
theorem d_It_addNotice_49 : decode mi_It_addNotice.2.1 49 = .ok (.astore_n 3, 1) := by decide +kernel
theorem d_It_addNotice_50 : decode mi_It_addNotice.2.1 50 = .ok (.aload_n 3, 1) := by decide +kernel
theorem d_It_addNotice_51 : decode mi_It_addNotice.2.1 51 = .ok (.getfield 35, 3) := by decide +kernel
theorem d_It_addNotice_54 : decode mi_It_addNotice.2.1 54 = .ok (.invokevirtual 39, 3) := by decide +kernel
theorem d_It_addNotice_57 : decode mi_It_addNotice.2.1 57 = .ok (.aload_n 3, 1) := by decide +kernel
theorem d_It_addNotice_58 : decode mi_It_addNotice.2.1 58 = .ok (.getfield 35, 3) := by decide +kernel
theorem d_It_addNotice_61 : decode mi_It_addNotice.2.1 61 = .ok (.aload_n 1, 1) := by decide +kernel
theorem d_It_addNotice_62 : decode mi_It_addNotice.2.1 62 = .ok (.invokevirtual 44, 3) := by decide +kernel
theorem d_It_addNotice_65 : decode mi_It_addNotice.2.1 65 = .ok (.aload_n 3, 1) := by decide +kernel
theorem d_It_addNotice_66 : decode mi_It_addNotice.2.1 66 = .ok (.iconst 0, 1) := by decide +kernel
theorem d_It_addNotice_67 : decode mi_It_addNotice.2.1 67 = .ok (.putfield 48, 3) := by decide +kernel
theorem d_It_addNotice_70 : decode mi_It_addNotice.2.1 70 = .ok (.aload_n 0, 1) := by decide +kernel
theorem d_It_addNotice_71 : decode mi_It_addNotice.2.1 71 = .ok (.dup, 1) := by decide +kernel
theorem d_It_addNotice_72 : decode mi_It_addNotice.2.1 72 = .ok (.getfield 29, 3) := by decide +kernel
theorem d_It_addNotice_75 : decode mi_It_addNotice.2.1 75 = .ok (.iconst 1, 1) := by decide +kernel
theorem d_It_addNotice_76 : decode mi_It_addNotice.2.1 76 = .ok (.iadd, 1) := by decide +kernel
theorem d_It_addNotice_77 : decode mi_It_addNotice.2.1 77 = .ok (.putfield 29, 3) := by decide +kernel
theorem d_It_addNotice_80 : decode mi_It_addNotice.2.1 80 = .ok (.iload_n 2, 1) := by decide +kernel
theorem d_It_addNotice_81 : decode mi_It_addNotice.2.1 81 = .ok (.ifCond .eq 29, 3) := by decide +kernel
theorem d_It_addNotice_84 : decode mi_It_addNotice.2.1 84 = .ok (.aload_n 0, 1) := by decide +kernel
theorem d_It_addNotice_85 : decode mi_It_addNotice.2.1 85 = .ok (.getfield 11, 3) := by decide +kernel
theorem d_It_addNotice_88 : decode mi_It_addNotice.2.1 88 = .ok (.aload_n 0, 1) := by decide +kernel
theorem d_It_addNotice_89 : decode mi_It_addNotice.2.1 89 = .ok (.getfield 25, 3) := by decide +kernel
theorem d_It_addNotice_92 : decode mi_It_addNotice.2.1 92 = .ok (.ifCond .eq 7, 3) := by decide +kernel
theorem d_It_addNotice_95 : decode mi_It_addNotice.2.1 95 = .ok (.iconst 0, 1) := by decide +kernel
theorem d_It_addNotice_96 : decode mi_It_addNotice.2.1 96 = .ok (.goto 9, 3) := by decide +kernel
theorem d_It_addNotice_99 : decode mi_It_addNotice.2.1 99 = .ok (.aload_n 0, 1) := by decide +kernel
theorem d_It_addNotice_100 : decode mi_It_addNotice.2.1 100 = .ok (.getfield 29, 3) := by decide +kernel
theorem d_It_addNotice_103 : decode mi_It_addNotice.2.1 103 = .ok (.iconst 1, 1) := by decide +kernel
theorem d_It_addNotice_104 : decode mi_It_addNotice.2.1 104 = .ok (.isub, 1) := by decide +kernel
theorem d_It_addNotice_105 : decode mi_It_addNotice.2.1 105 = .ok (.aaload, 1) := by decide +kernel
theorem d_It_addNotice_106 : decode mi_It_addNotice.2.1 106 = .ok (.iconst 1, 1) := by decide +kernel
theorem d_It_addNotice_107 : decode mi_It_addNotice.2.1 107 = .ok (.putfield 48, 3) := by decide +kernel
theorem d_It_addNotice_110 : decode mi_It_addNotice.2.1 110 = .ok (.return_, 1) := by decide +kernel
theorem d_It_discard_0 : decode mi_It_discard.2.1 0 = .ok (.aload_n 0, 1) := by decide +kernel
theorem d_It_discard_1 : decode mi_It_discard.2.1 1 = .ok (.getfield 25, 3) := by decide +kernel
theorem d_It_discard_4 : decode mi_It_discard.2.1 4 = .ok (.ifCond .eq 11, 3) := by decide +kernel
theorem d_It_discard_7 : decode mi_It_discard.2.1 7 = .ok (.aload_n 0, 1) := by decide +kernel
theorem d_It_discard_8 : decode mi_It_discard.2.1 8 = .ok (.invokevirtual 51, 3) := by decide +kernel
theorem d_It_discard_11 : decode mi_It_discard.2.1 11 = .ok (.pop, 1) := by decide +kernel
theorem d_It_discard_12 : decode mi_It_discard.2.1 12 = .ok (.goto 13, 3) := by decide +kernel
theorem d_It_discard_15 : decode mi_It_discard.2.1 15 = .ok (.aload_n 0, 1) := by decide +kernel
theorem d_It_discard_16 : decode mi_It_discard.2.1 16 = .ok (.dup, 1) := by decide +kernel
theorem d_It_discard_17 : decode mi_It_discard.2.1 17 = .ok (.getfield 29, 3) := by decide +kernel
theorem d_It_discard_20 : decode mi_It_discard.2.1 20 = .ok (.iconst 1, 1) := by decide +kernel
theorem d_It_discard_21 : decode mi_It_discard.2.1 21 = .ok (.isub, 1) := by decide +kernel
theorem d_It_discard_22 : decode mi_It_discard.2.1 22 = .ok (.putfield 29, 3) := by decide +kernel
theorem d_It_discard_25 : decode mi_It_discard.2.1 25 = .ok (.return_, 1) := by decide +kernel
theorem d_It_removeFirst_0 : decode mi_It_removeFirst.2.1 0 = .ok (.aload_n 0, 1) := by decide +kernel
theorem d_It_removeFirst_1 : decode mi_It_removeFirst.2.1 1 = .ok (.getfield 11, 3) := by decide +kernel
theorem d_It_removeFirst_4 : decode mi_It_removeFirst.2.1 4 = .ok (.iconst 0, 1) := by decide +kernel
theorem d_It_removeFirst_5 : decode mi_It_removeFirst.2.1 5 = .ok (.aaload, 1) := by decide +kernel
theorem d_It_removeFirst_6 : decode mi_It_removeFirst.2.1 6 = .ok (.astore_n 1, 1) := by decide +kernel
theorem d_It_removeFirst_7 : decode mi_It_removeFirst.2.1 7 = .ok (.iconst 1, 1) := by decide +kernel
theorem d_It_removeFirst_8 : decode mi_It_removeFirst.2.1 8 = .ok (.istore_n 2, 1) := by decide +kernel
theorem d_It_removeFirst_9 : decode mi_It_removeFirst.2.1 9 = .ok (.iload_n 2, 1) := by decide +kernel
theorem d_It_removeFirst_10 : decode mi_It_removeFirst.2.1 10 = .ok (.aload_n 0, 1) := by decide +kernel
theorem d_It_removeFirst_11 : decode mi_It_removeFirst.2.1 11 = .ok (.getfield 29, 3) := by decide +kernel
theorem d_It_removeFirst_14 : decode mi_It_removeFirst.2.1 14 = .ok (.if_icmp .ge 23, 3) := by decide +kernel
theorem d_It_removeFirst_17 : decode mi_It_removeFirst.2.1 17 = .ok (.aload_n 0, 1) := by decide +kernel
theorem d_It_removeFirst_18 : decode mi_It_removeFirst.2.1 18 = .ok (.getfield 11, 3) := by decide +kernel
theorem d_It_removeFirst_21 : decode mi_It_removeFirst.2.1 21 = .ok (.iload_n 2, 1) := by decide +kernel
theorem d_It_removeFirst_22 : decode mi_It_removeFirst.2.1 22 = .ok (.iconst 1, 1) := by decide +kernel
theorem d_It_removeFirst_23 : decode mi_It_removeFirst.2.1 23 = .ok (.isub, 1) := by decide +kernel
theorem d_It_removeFirst_24 : decode mi_It_removeFirst.2.1 24 = .ok (.aload_n 0, 1) := by decide +kernel
theorem d_It_removeFirst_25 : decode mi_It_removeFirst.2.1 25 = .ok (.getfield 11, 3) := by decide +kernel
theorem d_It_removeFirst_28 : decode mi_It_removeFirst.2.1 28 = .ok (.iload_n 2, 1) := by decide +kernel
theorem d_It_removeFirst_29 : decode mi_It_removeFirst.2.1 29 = .ok (.aaload, 1) := by decide +kernel
theorem d_It_removeFirst_30 : decode mi_It_removeFirst.2.1 30 = .ok (.aastore, 1) := by decide +kernel
theorem d_It_removeFirst_31 : decode mi_It_removeFirst.2.1 31 = .ok (.iinc 2 1, 3) := by decide +kernel
theorem d_It_removeFirst_34 : decode mi_It_removeFirst.2.1 34 = .ok (.goto (-25), 3) := by decide +kernel
theorem d_It_removeFirst_37 : decode mi_It_removeFirst.2.1 37 = .ok (.aload_n 0, 1) := by decide +kernel
theorem d_It_removeFirst_38 : decode mi_It_removeFirst.2.1 38 = .ok (.dup, 1) := by decide +kernel
theorem d_It_removeFirst_39 : decode mi_It_removeFirst.2.1 39 = .ok (.getfield 29, 3) := by decide +kernel
theorem d_It_removeFirst_42 : decode mi_It_removeFirst.2.1 42 = .ok (.iconst 1, 1) := by decide +kernel
theorem d_It_removeFirst_43 : decode mi_It_removeFirst.2.1 43 = .ok (.isub, 1) := by decide +kernel
theorem d_It_removeFirst_44 : decode mi_It_removeFirst.2.1 44 = .ok (.putfield 29, 3) := by decide +kernel
theorem d_It_removeFirst_47 : decode mi_It_removeFirst.2.1 47 = .ok (.aload_n 0, 1) := by decide +kernel
theorem d_It_removeFirst_48 : decode mi_It_removeFirst.2.1 48 = .ok (.getfield 11, 3) := by decide +kernel
theorem d_It_removeFirst_51 : decode mi_It_removeFirst.2.1 51 = .ok (.aload_n 0, 1) := by decide +kernel
theorem d_It_removeFirst_52 : decode mi_It_removeFirst.2.1 52 = .ok (.getfield 29, 3) := by decide +kernel
theorem d_It_removeFirst_55 : decode mi_It_removeFirst.2.1 55 = .ok (.aload_n 1, 1) := by decide +kernel
theorem d_It_removeFirst_56 : decode mi_It_removeFirst.2.1 56 = .ok (.aastore, 1) := by decide +kernel
theorem d_It_removeFirst_57 : decode mi_It_removeFirst.2.1 57 = .ok (.aload_n 1, 1) := by decide +kernel
theorem d_It_removeFirst_58 : decode mi_It_removeFirst.2.1 58 = .ok (.areturn, 1) := by decide +kernel
theorem d_Ch_mustClose_0 : decode mi_Ch_mustClose.2.1 0 = .ok (.aload_n 0, 1) := by decide +kernel
theorem d_Ch_mustClose_1 : decode mi_Ch_mustClose.2.1 1 = .ok (.getfield 22, 3) := by decide +kernel
theorem d_Ch_mustClose_4 : decode mi_Ch_mustClose.2.1 4 = .ok (.ifCond .eq 13, 3) := by decide +kernel
theorem d_Ch_mustClose_7 : decode mi_Ch_mustClose.2.1 7 = .ok (.aload_n 0, 1) := by decide +kernel
theorem d_Ch_mustClose_8 : decode mi_Ch_mustClose.2.1 8 = .ok (.iload_n 2, 1) := by decide +kernel
theorem d_Ch_mustClose_9 : decode mi_Ch_mustClose.2.1 9 = .ok (.invokevirtual 28, 3) := by decide +kernel
theorem d_Ch_mustClose_12 : decode mi_Ch_mustClose.2.1 12 = .ok (.ifCond .ne 5, 3) := by decide +kernel
theorem d_Ch_mustClose_15 : decode mi_Ch_mustClose.2.1 15 = .ok (.iconst 1, 1) := by decide +kernel
theorem d_Ch_mustClose_16 : decode mi_Ch_mustClose.2.1 16 = .ok (.ireturn, 1) := by decide +kernel
theorem d_Ch_mustClose_17 : decode mi_Ch_mustClose.2.1 17 = .ok (.aload_n 0, 1) := by decide +kernel
theorem d_Ch_mustClose_18 : decode mi_Ch_mustClose.2.1 18 = .ok (.getfield 25, 3) := by decide +kernel
theorem d_Ch_mustClose_21 : decode mi_Ch_mustClose.2.1 21 = .ok (.ifCond .eq 13, 3) := by decide +kernel
theorem d_Ch_mustClose_24 : decode mi_Ch_mustClose.2.1 24 = .ok (.iload_n 3, 1) := by decide +kernel
theorem d_Ch_mustClose_25 : decode mi_Ch_mustClose.2.1 25 = .ok (.aload_n 0, 1) := by decide +kernel
theorem d_Ch_mustClose_26 : decode mi_Ch_mustClose.2.1 26 = .ok (.getfield 32, 3) := by decide +kernel
theorem d_Ch_mustClose_29 : decode mi_Ch_mustClose.2.1 29 = .ok (.if_icmp .eq 5, 3) := by decide +kernel
theorem d_Ch_mustClose_32 : decode mi_Ch_mustClose.2.1 32 = .ok (.iconst 1, 1) := by decide +kernel
theorem d_Ch_mustClose_33 : decode mi_Ch_mustClose.2.1 33 = .ok (.ireturn, 1) := by decide +kernel
theorem d_Ch_mustClose_34 : decode mi_Ch_mustClose.2.1 34 = .ok (.iload_n 1, 1) := by decide +kernel
theorem d_Ch_mustClose_35 : decode mi_Ch_mustClose.2.1 35 = .ok (.iconst 2, 1) := by decide +kernel
theorem d_Ch_mustClose_36 : decode mi_Ch_mustClose.2.1 36 = .ok (.if_icmp .eq 41, 3) := by decide +kernel
theorem d_Ch_mustClose_39 : decode mi_Ch_mustClose.2.1 39 = .ok (.aload_n 0, 1) := by decide +kernel
theorem d_Ch_mustClose_40 : decode mi_Ch_mustClose.2.1 40 = .ok (.getfield 25, 3) := by decide +kernel
theorem d_Ch_mustClose_43 : decode mi_Ch_mustClose.2.1 43 = .ok (.ifCond .eq 34, 3) := by decide +kernel
theorem d_Ch_mustClose_46 : decode mi_Ch_mustClose.2.1 46 = .ok (.aload_n 0, 1) := by decide +kernel
theorem d_Ch_mustClose_47 : decode mi_Ch_mustClose.2.1 47 = .ok (.getfield 12, 3) := by decide +kernel
theorem d_Ch_mustClose_50 : decode mi_Ch_mustClose.2.1 50 = .ok (.getfield 36, 3) := by decide +kernel
theorem d_Ch_mustClose_53 : decode mi_Ch_mustClose.2.1 53 = .ok (.getfield 40, 3) := by decide +kernel
theorem d_Ch_mustClose_56 : decode mi_Ch_mustClose.2.1 56 = .ok (.iload 4, 2) := by decide +kernel
theorem d_Ch_mustClose_58 : decode mi_Ch_mustClose.2.1 58 = .ok (.iadd, 1) := by decide +kernel
theorem d_Ch_mustClose_59 : decode mi_Ch_mustClose.2.1 59 = .ok (.bipush 64, 2) := by decide +kernel
theorem d_Ch_mustClose_61 : decode mi_Ch_mustClose.2.1 61 = .ok (.if_icmp .gt 12, 3) := by decide +kernel
theorem d_Ch_mustClose_64 : decode mi_Ch_mustClose.2.1 64 = .ok (.aload_n 0, 1) := by decide +kernel
theorem d_Ch_mustClose_65 : decode mi_Ch_mustClose.2.1 65 = .ok (.getfield 45, 3) := by decide +kernel
theorem d_Ch_mustClose_68 : decode mi_Ch_mustClose.2.1 68 = .ok (.bipush 12, 2) := by decide +kernel
theorem d_Ch_mustClose_70 : decode mi_Ch_mustClose.2.1 70 = .ok (.if_icmp .ne 7, 3) := by decide +kernel
theorem d_Ch_mustClose_73 : decode mi_Ch_mustClose.2.1 73 = .ok (.iconst 1, 1) := by decide +kernel
theorem d_Ch_mustClose_74 : decode mi_Ch_mustClose.2.1 74 = .ok (.goto 4, 3) := by decide +kernel
theorem d_Ch_mustClose_77 : decode mi_Ch_mustClose.2.1 77 = .ok (.iconst 0, 1) := by decide +kernel
theorem d_Ch_mustClose_78 : decode mi_Ch_mustClose.2.1 78 = .ok (.ireturn, 1) := by decide +kernel
theorem d_Ch_isNext_0 : decode mi_Ch_isNext.2.1 0 = .ok (.iload_n 1, 1) := by decide +kernel
theorem d_Ch_isNext_1 : decode mi_Ch_isNext.2.1 1 = .ok (.aload_n 0, 1) := by decide +kernel
theorem d_Ch_isNext_2 : decode mi_Ch_isNext.2.1 2 = .ok (.getfield 48, 3) := by decide +kernel
theorem d_Ch_isNext_5 : decode mi_Ch_isNext.2.1 5 = .ok (.iconst 1, 1) := by decide +kernel
theorem d_Ch_isNext_6 : decode mi_Ch_isNext.2.1 6 = .ok (.iadd, 1) := by decide +kernel
theorem d_Ch_isNext_7 : decode mi_Ch_isNext.2.1 7 = .ok (.if_icmp .eq 23, 3) := by decide +kernel
theorem d_Ch_isNext_10 : decode mi_Ch_isNext.2.1 10 = .ok (.aload_n 0, 1) := by decide +kernel
theorem d_Ch_isNext_11 : decode mi_Ch_isNext.2.1 11 = .ok (.getfield 48, 3) := by decide +kernel
theorem d_Ch_isNext_14 : decode mi_Ch_isNext.2.1 14 = .ok (.sipush 1000, 3) := by decide +kernel
theorem d_Ch_isNext_17 : decode mi_Ch_isNext.2.1 17 = .ok (.if_icmp .lt 17, 3) := by decide +kernel
theorem d_Ch_isNext_20 : decode mi_Ch_isNext.2.1 20 = .ok (.iload_n 1, 1) := by decide +kernel
theorem d_Ch_isNext_21 : decode mi_Ch_isNext.2.1 21 = .ok (.ifCond .lt 13, 3) := by decide +kernel
theorem d_Ch_isNext_24 : decode mi_Ch_isNext.2.1 24 = .ok (.iload_n 1, 1) := by decide +kernel
theorem d_Ch_isNext_25 : decode mi_Ch_isNext.2.1 25 = .ok (.bipush 9, 2) := by decide +kernel
theorem d_Ch_isNext_27 : decode mi_Ch_isNext.2.1 27 = .ok (.if_icmp .gt 7, 3) := by decide +kernel
theorem d_Ch_isNext_30 : decode mi_Ch_isNext.2.1 30 = .ok (.iconst 1, 1) := by decide +kernel
theorem d_Ch_isNext_31 : decode mi_Ch_isNext.2.1 31 = .ok (.goto 4, 3) := by decide +kernel
theorem d_Ch_isNext_34 : decode mi_Ch_isNext.2.1 34 = .ok (.iconst 0, 1) := by decide +kernel
theorem d_Ch_isNext_35 : decode mi_Ch_isNext.2.1 35 = .ok (.ireturn, 1) := by decide +kernel
theorem d_Ch_close_0 : decode mi_Ch_close.2.1 0 = .ok (.aload_n 0, 1) := by decide +kernel
theorem d_Ch_close_1 : decode mi_Ch_close.2.1 1 = .ok (.iconst 0, 1) := by decide +kernel
theorem d_Ch_close_2 : decode mi_Ch_close.2.1 2 = .ok (.putfield 18, 3) := by decide +kernel
theorem d_Ch_close_5 : decode mi_Ch_close.2.1 5 = .ok (.aload_n 0, 1) := by decide +kernel
theorem d_Ch_close_6 : decode mi_Ch_close.2.1 6 = .ok (.iconst 0, 1) := by decide +kernel
theorem d_Ch_close_7 : decode mi_Ch_close.2.1 7 = .ok (.putfield 25, 3) := by decide +kernel
theorem d_Ch_close_10 : decode mi_Ch_close.2.1 10 = .ok (.return_, 1) := by decide +kernel
theorem d_Ch_take_0 : decode mi_Ch_take.2.1 0 = .ok (.aload_n 0, 1) := by decide +kernel
theorem d_Ch_take_1 : decode mi_Ch_take.2.1 1 = .ok (.iconst 1, 1) := by decide +kernel
theorem d_Ch_take_2 : decode mi_Ch_take.2.1 2 = .ok (.putfield 22, 3) := by decide +kernel
theorem d_Ch_take_5 : decode mi_Ch_take.2.1 5 = .ok (.aload_n 0, 1) := by decide +kernel
theorem d_Ch_take_6 : decode mi_Ch_take.2.1 6 = .ok (.iload_n 2, 1) := by decide +kernel
theorem d_Ch_take_7 : decode mi_Ch_take.2.1 7 = .ok (.putfield 48, 3) := by decide +kernel
theorem d_Ch_take_10 : decode mi_Ch_take.2.1 10 = .ok (.iload_n 1, 1) := by decide +kernel
theorem d_Ch_take_11 : decode mi_Ch_take.2.1 11 = .ok (.iconst 2, 1) := by decide +kernel
theorem d_Ch_take_12 : decode mi_Ch_take.2.1 12 = .ok (.if_icmp .ne 9, 3) := by decide +kernel
theorem d_Ch_take_15 : decode mi_Ch_take.2.1 15 = .ok (.aload_n 0, 1) := by decide +kernel
theorem d_Ch_take_16 : decode mi_Ch_take.2.1 16 = .ok (.iconst 0, 1) := by decide +kernel
theorem d_Ch_take_17 : decode mi_Ch_take.2.1 17 = .ok (.putfield 25, 3) := by decide +kernel
theorem d_Ch_take_20 : decode mi_Ch_take.2.1 20 = .ok (.return_, 1) := by decide +kernel
theorem d_Ch_take_21 : decode mi_Ch_take.2.1 21 = .ok (.aload_n 0, 1) := by decide +kernel
theorem d_Ch_take_22 : decode mi_Ch_take.2.1 22 = .ok (.getfield 25, 3) := by decide +kernel
theorem d_Ch_take_25 : decode mi_Ch_take.2.1 25 = .ok (.ifCond .ne 23, 3) := by decide +kernel
theorem d_Ch_take_28 : decode mi_Ch_take.2.1 28 = .ok (.aload_n 0, 1) := by decide +kernel
theorem d_Ch_take_29 : decode mi_Ch_take.2.1 29 = .ok (.getfield 12, 3) := by decide +kernel
theorem d_Ch_take_32 : decode mi_Ch_take.2.1 32 = .ok (.getfield 36, 3) := by decide +kernel
theorem d_Ch_take_35 : decode mi_Ch_take.2.1 35 = .ok (.invokevirtual 51, 3) := by decide +kernel
theorem d_Ch_take_38 : decode mi_Ch_take.2.1 38 = .ok (.aload_n 0, 1) := by decide +kernel
theorem d_Ch_take_39 : decode mi_Ch_take.2.1 39 = .ok (.iload_n 3, 1) := by decide +kernel
theorem d_Ch_take_40 : decode mi_Ch_take.2.1 40 = .ok (.putfield 32, 3) := by decide +kernel
theorem d_Ch_take_43 : decode mi_Ch_take.2.1 43 = .ok (.aload_n 0, 1) := by decide +kernel
theorem d_Ch_take_44 : decode mi_Ch_take.2.1 44 = .ok (.iconst 0, 1) := by decide +kernel
theorem d_Ch_take_45 : decode mi_Ch_take.2.1 45 = .ok (.putfield 45, 3) := by decide +kernel
theorem d_Ch_take_48 : decode mi_Ch_take.2.1 48 = .ok (.aload_n 0, 1) := by decide +kernel
theorem d_Ch_take_49 : decode mi_Ch_take.2.1 49 = .ok (.getfield 12, 3) := by decide +kernel
theorem d_Ch_take_52 : decode mi_Ch_take.2.1 52 = .ok (.getfield 36, 3) := by decide +kernel
theorem d_Ch_take_55 : decode mi_Ch_take.2.1 55 = .ok (.lload 4, 2) := by decide +kernel
theorem d_Ch_take_57 : decode mi_Ch_take.2.1 57 = .ok (.iload 6, 2) := by decide +kernel
theorem d_Ch_take_59 : decode mi_Ch_take.2.1 59 = .ok (.invokevirtual 54, 3) := by decide +kernel
theorem d_Ch_take_62 : decode mi_Ch_take.2.1 62 = .ok (.aload_n 0, 1) := by decide +kernel
theorem d_Ch_take_63 : decode mi_Ch_take.2.1 63 = .ok (.dup, 1) := by decide +kernel
theorem d_Ch_take_64 : decode mi_Ch_take.2.1 64 = .ok (.getfield 45, 3) := by decide +kernel
theorem d_Ch_take_67 : decode mi_Ch_take.2.1 67 = .ok (.iconst 1, 1) := by decide +kernel
theorem d_Ch_take_68 : decode mi_Ch_take.2.1 68 = .ok (.iadd, 1) := by decide +kernel
theorem d_Ch_take_69 : decode mi_Ch_take.2.1 69 = .ok (.putfield 45, 3) := by decide +kernel
theorem d_Ch_take_72 : decode mi_Ch_take.2.1 72 = .ok (.aload_n 0, 1) := by decide +kernel
theorem d_Ch_take_73 : decode mi_Ch_take.2.1 73 = .ok (.iload_n 1, 1) := by decide +kernel
theorem d_Ch_take_74 : decode mi_Ch_take.2.1 74 = .ok (.ifCond .ne 7, 3) := by decide +kernel
theorem d_Ch_take_77 : decode mi_Ch_take.2.1 77 = .ok (.iconst 1, 1) := by decide +kernel
theorem d_Ch_take_78 : decode mi_Ch_take.2.1 78 = .ok (.goto 4, 3) := by decide +kernel
theorem d_Ch_take_81 : decode mi_Ch_take.2.1 81 = .ok (.iconst 0, 1) := by decide +kernel
theorem d_Ch_take_82 : decode mi_Ch_take.2.1 82 = .ok (.putfield 25, 3) := by decide +kernel
theorem d_Ch_take_85 : decode mi_Ch_take.2.1 85 = .ok (.return_, 1) := by decide +kernel
theorem d_Me_startReading_0 : decode mi_Me_startReading.2.1 0 = .ok (.aload_n 0, 1) := by decide +kernel
theorem d_Me_startReading_1 : decode mi_Me_startReading.2.1 1 = .ok (.iconst 0, 1) := by decide +kernel
theorem d_Me_startReading_2 : decode mi_Me_startReading.2.1 2 = .ok (.putfield 20, 3) := by decide +kernel
theorem d_Me_startReading_5 : decode mi_Me_startReading.2.1 5 = .ok (.aload_n 0, 1) := by decide +kernel
theorem d_Me_startReading_6 : decode mi_Me_startReading.2.1 6 = .ok (.iconst 1, 1) := by decide +kernel
theorem d_Me_startReading_7 : decode mi_Me_startReading.2.1 7 = .ok (.putfield 24, 3) := by decide +kernel
theorem d_Me_startReading_10 : decode mi_Me_startReading.2.1 10 = .ok (.return_, 1) := by decide +kernel
theorem d_Me_left_0 : decode mi_Me_left.2.1 0 = .ok (.aload_n 0, 1) := by decide +kernel
theorem d_Me_left_1 : decode mi_Me_left.2.1 1 = .ok (.getfield 14, 3) := by decide +kernel
theorem d_Me_left_4 : decode mi_Me_left.2.1 4 = .ok (.getfield 28, 3) := by decide +kernel
theorem d_Me_left_7 : decode mi_Me_left.2.1 7 = .ok (.aload_n 0, 1) := by decide +kernel
theorem d_Me_left_8 : decode mi_Me_left.2.1 8 = .ok (.getfield 20, 3) := by decide +kernel
theorem d_Me_left_11 : decode mi_Me_left.2.1 11 = .ok (.isub, 1) := by decide +kernel
theorem d_Me_left_12 : decode mi_Me_left.2.1 12 = .ok (.ireturn, 1) := by decide +kernel
theorem d_Me_readByte_0 : decode mi_Me_readByte.2.1 0 = .ok (.aload_n 0, 1) := by decide +kernel
theorem d_Me_readByte_1 : decode mi_Me_readByte.2.1 1 = .ok (.getfield 20, 3) := by decide +kernel
theorem d_Me_readByte_4 : decode mi_Me_readByte.2.1 4 = .ok (.aload_n 0, 1) := by decide +kernel
theorem d_Me_readByte_5 : decode mi_Me_readByte.2.1 5 = .ok (.getfield 14, 3) := by decide +kernel
theorem d_Me_readByte_8 : decode mi_Me_readByte.2.1 8 = .ok (.getfield 28, 3) := by decide +kernel
theorem d_Me_readByte_11 : decode mi_Me_readByte.2.1 11 = .ok (.if_icmp .lt 10, 3) := by decide +kernel
theorem d_Me_readByte_14 : decode mi_Me_readByte.2.1 14 = .ok (.aload_n 0, 1) := by decide +kernel
theorem d_Me_readByte_15 : decode mi_Me_readByte.2.1 15 = .ok (.iconst 0, 1) := by decide +kernel
theorem d_Me_readByte_16 : decode mi_Me_readByte.2.1 16 = .ok (.putfield 24, 3) := by decide +kernel
theorem d_Me_readByte_19 : decode mi_Me_readByte.2.1 19 = .ok (.iconst 0, 1) := by decide +kernel
theorem d_Me_readByte_20 : decode mi_Me_readByte.2.1 20 = .ok (.ireturn, 1) := by decide +kernel
theorem d_Me_readByte_21 : decode mi_Me_readByte.2.1 21 = .ok (.aload_n 0, 1) := by decide +kernel
theorem d_Me_readByte_22 : decode mi_Me_readByte.2.1 22 = .ok (.dup, 1) := by decide +kernel
theorem d_Me_readByte_23 : decode mi_Me_readByte.2.1 23 = .ok (.getfield 20, 3) := by decide +kernel
theorem d_Me_readByte_26 : decode mi_Me_readByte.2.1 26 = .ok (.iconst 1, 1) := by decide +kernel
theorem d_Me_readByte_27 : decode mi_Me_readByte.2.1 27 = .ok (.iadd, 1) := by decide +kernel
theorem d_Me_readByte_28 : decode mi_Me_readByte.2.1 28 = .ok (.putfield 20, 3) := by decide +kernel
theorem d_Me_readByte_31 : decode mi_Me_readByte.2.1 31 = .ok (.aload_n 0, 1) := by decide +kernel
theorem d_Me_readByte_32 : decode mi_Me_readByte.2.1 32 = .ok (.getfield 14, 3) := by decide +kernel
theorem d_Me_readByte_35 : decode mi_Me_readByte.2.1 35 = .ok (.getfield 35, 3) := by decide +kernel
theorem d_Me_readByte_38 : decode mi_Me_readByte.2.1 38 = .ok (.aload_n 0, 1) := by decide +kernel
theorem d_Me_readByte_39 : decode mi_Me_readByte.2.1 39 = .ok (.getfield 20, 3) := by decide +kernel
theorem d_Me_readByte_42 : decode mi_Me_readByte.2.1 42 = .ok (.iconst 1, 1) := by decide +kernel
theorem d_Me_readByte_43 : decode mi_Me_readByte.2.1 43 = .ok (.isub, 1) := by decide +kernel
theorem d_Me_readByte_44 : decode mi_Me_readByte.2.1 44 = .ok (.baload, 1) := by decide +kernel
theorem d_Me_readByte_45 : decode mi_Me_readByte.2.1 45 = .ok (.sipush 255, 3) := by decide +kernel
theorem d_Me_readByte_48 : decode mi_Me_readByte.2.1 48 = .ok (.iand, 1) := by decide +kernel
theorem d_Me_readByte_49 : decode mi_Me_readByte.2.1 49 = .ok (.ireturn, 1) := by decide +kernel
theorem d_Me_readName_0 : decode mi_Me_readName.2.1 0 = .ok (.aload_n 0, 1) := by decide +kernel
theorem d_Me_readName_1 : decode mi_Me_readName.2.1 1 = .ok (.invokevirtual 39, 3) := by decide +kernel
theorem d_Me_readName_4 : decode mi_Me_readName.2.1 4 = .ok (.istore_n 1, 1) := by decide +kernel
theorem d_Me_readName_5 : decode mi_Me_readName.2.1 5 = .ok (.iload_n 1, 1) := by decide +kernel
theorem d_Me_readName_6 : decode mi_Me_readName.2.1 6 = .ok (.ifCond .ne 8, 3) := by decide +kernel
theorem d_Me_readName_9 : decode mi_Me_readName.2.1 9 = .ok (.aload_n 0, 1) := by decide +kernel
theorem d_Me_readName_10 : decode mi_Me_readName.2.1 10 = .ok (.invokevirtual 39, 3) := by decide +kernel
theorem d_Me_readName_13 : decode mi_Me_readName.2.1 13 = .ok (.ireturn, 1) := by decide +kernel
theorem d_Me_readName_14 : decode mi_Me_readName.2.1 14 = .ok (.iload_n 1, 1) := by decide +kernel
theorem d_Me_readName_15 : decode mi_Me_readName.2.1 15 = .ok (.iconst 1, 1) := by decide +kernel
theorem d_Me_readName_16 : decode mi_Me_readName.2.1 16 = .ok (.if_icmp .eq 10, 3) := by decide +kernel
theorem d_Me_readName_19 : decode mi_Me_readName.2.1 19 = .ok (.aload_n 0, 1) := by decide +kernel
theorem d_Me_readName_20 : decode mi_Me_readName.2.1 20 = .ok (.iconst 0, 1) := by decide +kernel
theorem d_Me_readName_21 : decode mi_Me_readName.2.1 21 = .ok (.putfield 24, 3) := by decide +kernel
theorem d_Me_readName_24 : decode mi_Me_readName.2.1 24 = .ok (.iconst (-1), 1) := by decide +kernel
theorem d_Me_readName_25 : decode mi_Me_readName.2.1 25 = .ok (.ireturn, 1) := by decide +kernel
theorem d_Me_readName_26 : decode mi_Me_readName.2.1 26 = .ok (.aload_n 0, 1) := by decide +kernel
theorem d_Me_readName_27 : decode mi_Me_readName.2.1 27 = .ok (.invokevirtual 39, 3) := by decide +kernel
theorem d_Me_readName_30 : decode mi_Me_readName.2.1 30 = .ok (.istore_n 2, 1) := by decide +kernel
theorem d_Me_readName_31 : decode mi_Me_readName.2.1 31 = .ok (.aload_n 0, 1) := by decide +kernel
theorem d_Me_readName_32 : decode mi_Me_readName.2.1 32 = .ok (.invokevirtual 39, 3) := by decide +kernel
theorem d_Me_readName_35 : decode mi_Me_readName.2.1 35 = .ok (.aload_n 0, 1) := by decide +kernel
theorem d_Me_readName_36 : decode mi_Me_readName.2.1 36 = .ok (.invokevirtual 39, 3) := by decide +kernel
theorem d_Me_readName_39 : decode mi_Me_readName.2.1 39 = .ok (.bipush 8, 2) := by decide +kernel
theorem d_Me_readName_41 : decode mi_Me_readName.2.1 41 = .ok (.ishl, 1) := by decide +kernel
theorem d_Me_readName_42 : decode mi_Me_readName.2.1 42 = .ok (.ior, 1) := by decide +kernel
theorem d_Me_readName_43 : decode mi_Me_readName.2.1 43 = .ok (.istore_n 3, 1) := by decide +kernel
theorem d_Me_readName_44 : decode mi_Me_readName.2.1 44 = .ok (.iload_n 2, 1) := by decide +kernel
theorem d_Me_readName_45 : decode mi_Me_readName.2.1 45 = .ok (.ifCond .ne 7, 3) := by decide +kernel
theorem d_Me_readName_48 : decode mi_Me_readName.2.1 48 = .ok (.iload_n 3, 1) := by decide +kernel
theorem d_Me_readName_49 : decode mi_Me_readName.2.1 49 = .ok (.goto 4, 3) := by decide +kernel
theorem d_Me_readName_52 : decode mi_Me_readName.2.1 52 = .ok (.iconst (-1), 1) := by decide +kernel
theorem d_Me_readName_53 : decode mi_Me_readName.2.1 53 = .ok (.ireturn, 1) := by decide +kernel
theorem d_Me_isReadWhole_0 : decode mi_Me_isReadWhole.2.1 0 = .ok (.aload_n 0, 1) := by decide +kernel
theorem d_Me_isReadWhole_1 : decode mi_Me_isReadWhole.2.1 1 = .ok (.getfield 24, 3) := by decide +kernel
theorem d_Me_isReadWhole_4 : decode mi_Me_isReadWhole.2.1 4 = .ok (.ifCond .eq 14, 3) := by decide +kernel
theorem d_Me_isReadWhole_7 : decode mi_Me_isReadWhole.2.1 7 = .ok (.aload_n 0, 1) := by decide +kernel
theorem d_Me_isReadWhole_8 : decode mi_Me_isReadWhole.2.1 8 = .ok (.invokevirtual 31, 3) := by decide +kernel
theorem d_Me_isReadWhole_11 : decode mi_Me_isReadWhole.2.1 11 = .ok (.ifCond .ne 7, 3) := by decide +kernel
theorem d_Me_isReadWhole_14 : decode mi_Me_isReadWhole.2.1 14 = .ok (.iconst 1, 1) := by decide +kernel
theorem d_Me_isReadWhole_15 : decode mi_Me_isReadWhole.2.1 15 = .ok (.goto 4, 3) := by decide +kernel
theorem d_Me_isReadWhole_18 : decode mi_Me_isReadWhole.2.1 18 = .ok (.iconst 0, 1) := by decide +kernel
theorem d_Me_isReadWhole_19 : decode mi_Me_isReadWhole.2.1 19 = .ok (.ireturn, 1) := by decide +kernel
theorem d_Me_readValue_0 : decode mi_Me_readValue.2.1 0 = .ok (.aload_n 0, 1) := by decide +kernel
theorem d_Me_readValue_1 : decode mi_Me_readValue.2.1 1 = .ok (.invokevirtual 39, 3) := by decide +kernel
theorem d_Me_readValue_4 : decode mi_Me_readValue.2.1 4 = .ok (.istore_n 3, 1) := by decide +kernel
theorem d_Me_readValue_5 : decode mi_Me_readValue.2.1 5 = .ok (.aload_n 1, 1) := by decide +kernel
theorem d_Me_readValue_6 : decode mi_Me_readValue.2.1 6 = .ok (.iload_n 3, 1) := by decide +kernel
theorem d_Me_readValue_7 : decode mi_Me_readValue.2.1 7 = .ok (.invokevirtual 42, 3) := by decide +kernel
theorem d_Me_readValue_10 : decode mi_Me_readValue.2.1 10 = .ok (.iload_n 3, 1) := by decide +kernel
theorem d_Me_readValue_11 : decode mi_Me_readValue.2.1 11 = .ok (.lookupswitch 117 #[(0, 57), (1, 60), (6, 79), (8, 88), (12, 98), (152, 106)], 57) := by decide +kernel
theorem d_Me_readValue_68 : decode mi_Me_readValue.2.1 68 = .ok (.goto 65, 3) := by decide +kernel
theorem d_Me_readValue_71 : decode mi_Me_readValue.2.1 71 = .ok (.aload_n 1, 1) := by decide +kernel
theorem d_Me_readValue_72 : decode mi_Me_readValue.2.1 72 = .ok (.aload_n 0, 1) := by decide +kernel
theorem d_Me_readValue_73 : decode mi_Me_readValue.2.1 73 = .ok (.invokevirtual 39, 3) := by decide +kernel
theorem d_Me_readValue_76 : decode mi_Me_readValue.2.1 76 = .ok (.ifCond .ne 7, 3) := by decide +kernel
theorem d_Me_readValue_79 : decode mi_Me_readValue.2.1 79 = .ok (.iconst 0, 1) := by decide +kernel
theorem d_Me_readValue_80 : decode mi_Me_readValue.2.1 80 = .ok (.goto 4, 3) := by decide +kernel
theorem d_Me_readValue_83 : decode mi_Me_readValue.2.1 83 = .ok (.iconst 1, 1) := by decide +kernel
theorem d_Me_readValue_84 : decode mi_Me_readValue.2.1 84 = .ok (.invokevirtual 42, 3) := by decide +kernel
theorem d_Me_readValue_87 : decode mi_Me_readValue.2.1 87 = .ok (.goto 46, 3) := by decide +kernel
theorem d_Me_readValue_90 : decode mi_Me_readValue.2.1 90 = .ok (.aload_n 0, 1) := by decide +kernel
theorem d_Me_readValue_91 : decode mi_Me_readValue.2.1 91 = .ok (.aload_n 1, 1) := by decide +kernel
theorem d_Me_readValue_92 : decode mi_Me_readValue.2.1 92 = .ok (.iconst 4, 1) := by decide +kernel
theorem d_Me_readValue_93 : decode mi_Me_readValue.2.1 93 = .ok (.invokevirtual 45, 3) := by decide +kernel
theorem d_Me_readValue_96 : decode mi_Me_readValue.2.1 96 = .ok (.goto 37, 3) := by decide +kernel
theorem d_Me_readValue_99 : decode mi_Me_readValue.2.1 99 = .ok (.aload_n 0, 1) := by decide +kernel
theorem d_Me_readValue_100 : decode mi_Me_readValue.2.1 100 = .ok (.aload_n 1, 1) := by decide +kernel
theorem d_Me_readValue_101 : decode mi_Me_readValue.2.1 101 = .ok (.bipush 8, 2) := by decide +kernel
theorem d_Me_readValue_103 : decode mi_Me_readValue.2.1 103 = .ok (.invokevirtual 45, 3) := by decide +kernel
theorem d_Me_readValue_106 : decode mi_Me_readValue.2.1 106 = .ok (.goto 27, 3) := by decide +kernel
theorem d_Me_readValue_109 : decode mi_Me_readValue.2.1 109 = .ok (.aload_n 0, 1) := by decide +kernel
theorem d_Me_readValue_110 : decode mi_Me_readValue.2.1 110 = .ok (.aload_n 1, 1) := by decide +kernel
theorem d_Me_readValue_111 : decode mi_Me_readValue.2.1 111 = .ok (.invokevirtual 49, 3) := by decide +kernel
theorem d_Me_readValue_114 : decode mi_Me_readValue.2.1 114 = .ok (.goto 19, 3) := by decide +kernel
theorem d_Me_readValue_117 : decode mi_Me_readValue.2.1 117 = .ok (.aload_n 0, 1) := by decide +kernel
theorem d_Me_readValue_118 : decode mi_Me_readValue.2.1 118 = .ok (.aload_n 1, 1) := by decide +kernel
theorem d_Me_readValue_119 : decode mi_Me_readValue.2.1 119 = .ok (.iload_n 2, 1) := by decide +kernel
theorem d_Me_readValue_120 : decode mi_Me_readValue.2.1 120 = .ok (.iconst 1, 1) := by decide +kernel
theorem d_Me_readValue_121 : decode mi_Me_readValue.2.1 121 = .ok (.iadd, 1) := by decide +kernel
theorem d_Me_readValue_122 : decode mi_Me_readValue.2.1 122 = .ok (.invokevirtual 53, 3) := by decide +kernel
theorem d_Me_readValue_125 : decode mi_Me_readValue.2.1 125 = .ok (.goto 8, 3) := by decide +kernel
theorem d_Me_readValue_128 : decode mi_Me_readValue.2.1 128 = .ok (.aload_n 0, 1) := by decide +kernel
theorem d_Me_readValue_129 : decode mi_Me_readValue.2.1 129 = .ok (.iconst 0, 1) := by decide +kernel
theorem d_Me_readValue_130 : decode mi_Me_readValue.2.1 130 = .ok (.putfield 24, 3) := by decide +kernel
theorem d_Me_readValue_133 : decode mi_Me_readValue.2.1 133 = .ok (.return_, 1) := by decide +kernel
theorem d_Me_moveBytes_0 : decode mi_Me_moveBytes.2.1 0 = .ok (.iconst 0, 1) := by decide +kernel
theorem d_Me_moveBytes_1 : decode mi_Me_moveBytes.2.1 1 = .ok (.istore_n 3, 1) := by decide +kernel
theorem d_Me_moveBytes_2 : decode mi_Me_moveBytes.2.1 2 = .ok (.iload_n 3, 1) := by decide +kernel
theorem d_Me_moveBytes_3 : decode mi_Me_moveBytes.2.1 3 = .ok (.iload_n 2, 1) := by decide +kernel
theorem d_Me_moveBytes_4 : decode mi_Me_moveBytes.2.1 4 = .ok (.if_icmp .ge 17, 3) := by decide +kernel
theorem d_Me_moveBytes_7 : decode mi_Me_moveBytes.2.1 7 = .ok (.aload_n 1, 1) := by decide +kernel
theorem d_Me_moveBytes_8 : decode mi_Me_moveBytes.2.1 8 = .ok (.aload_n 0, 1) := by decide +kernel
theorem d_Me_moveBytes_9 : decode mi_Me_moveBytes.2.1 9 = .ok (.invokevirtual 39, 3) := by decide +kernel
theorem d_Me_moveBytes_12 : decode mi_Me_moveBytes.2.1 12 = .ok (.invokevirtual 42, 3) := by decide +kernel
theorem d_Me_moveBytes_15 : decode mi_Me_moveBytes.2.1 15 = .ok (.iinc 3 1, 3) := by decide +kernel
theorem d_Me_moveBytes_18 : decode mi_Me_moveBytes.2.1 18 = .ok (.goto (-16), 3) := by decide +kernel
theorem d_Me_moveBytes_21 : decode mi_Me_moveBytes.2.1 21 = .ok (.return_, 1) := by decide +kernel
theorem d_Me_readText_0 : decode mi_Me_readText.2.1 0 = .ok (.aload_n 0, 1) := by decide +kernel
theorem d_Me_readText_1 : decode mi_Me_readText.2.1 1 = .ok (.invokevirtual 56, 3) := by decide +kernel
theorem d_Me_readText_4 : decode mi_Me_readText.2.1 4 = .ok (.istore_n 2, 1) := by decide +kernel
theorem d_Me_readText_5 : decode mi_Me_readText.2.1 5 = .ok (.aload_n 1, 1) := by decide +kernel
theorem d_Me_readText_6 : decode mi_Me_readText.2.1 6 = .ok (.iload_n 2, 1) := by decide +kernel
theorem d_Me_readText_7 : decode mi_Me_readText.2.1 7 = .ok (.i2l, 1) := by decide +kernel
theorem d_Me_readText_8 : decode mi_Me_readText.2.1 8 = .ok (.iconst 4, 1) := by decide +kernel
theorem d_Me_readText_9 : decode mi_Me_readText.2.1 9 = .ok (.invokevirtual 59, 3) := by decide +kernel
theorem d_Me_readText_12 : decode mi_Me_readText.2.1 12 = .ok (.iload_n 2, 1) := by decide +kernel
theorem d_Me_readText_13 : decode mi_Me_readText.2.1 13 = .ok (.iconst (-1), 1) := by decide +kernel
theorem d_Me_readText_14 : decode mi_Me_readText.2.1 14 = .ok (.if_icmp .lt 11, 3) := by decide +kernel
theorem d_Me_readText_17 : decode mi_Me_readText.2.1 17 = .ok (.iload_n 2, 1) := by decide +kernel
theorem d_Me_readText_18 : decode mi_Me_readText.2.1 18 = .ok (.aload_n 0, 1) := by decide +kernel
theorem d_Me_readText_19 : decode mi_Me_readText.2.1 19 = .ok (.invokevirtual 31, 3) := by decide +kernel
theorem d_Me_readText_22 : decode mi_Me_readText.2.1 22 = .ok (.if_icmp .le 9, 3) := by decide +kernel
theorem d_Me_readText_25 : decode mi_Me_readText.2.1 25 = .ok (.aload_n 0, 1) := by decide +kernel
theorem d_Me_readText_26 : decode mi_Me_readText.2.1 26 = .ok (.iconst 0, 1) := by decide +kernel
theorem d_Me_readText_27 : decode mi_Me_readText.2.1 27 = .ok (.putfield 24, 3) := by decide +kernel
theorem d_Me_readText_30 : decode mi_Me_readText.2.1 30 = .ok (.return_, 1) := by decide +kernel
theorem d_Me_readText_31 : decode mi_Me_readText.2.1 31 = .ok (.aload_n 0, 1) := by decide +kernel
theorem d_Me_readText_32 : decode mi_Me_readText.2.1 32 = .ok (.aload_n 1, 1) := by decide +kernel
theorem d_Me_readText_33 : decode mi_Me_readText.2.1 33 = .ok (.iload_n 2, 1) := by decide +kernel
theorem d_Me_readText_34 : decode mi_Me_readText.2.1 34 = .ok (.invokevirtual 45, 3) := by decide +kernel
theorem d_Me_readText_37 : decode mi_Me_readText.2.1 37 = .ok (.return_, 1) := by decide +kernel
theorem d_Me_readNumber_0 : decode mi_Me_readNumber.2.1 0 = .ok (.aload_n 0, 1) := by decide +kernel
theorem d_Me_readNumber_1 : decode mi_Me_readNumber.2.1 1 = .ok (.invokevirtual 39, 3) := by decide +kernel
theorem d_Me_readNumber_4 : decode mi_Me_readNumber.2.1 4 = .ok (.aload_n 0, 1) := by decide +kernel
theorem d_Me_readNumber_5 : decode mi_Me_readNumber.2.1 5 = .ok (.invokevirtual 39, 3) := by decide +kernel
theorem d_Me_readNumber_8 : decode mi_Me_readNumber.2.1 8 = .ok (.bipush 8, 2) := by decide +kernel
theorem d_Me_readNumber_10 : decode mi_Me_readNumber.2.1 10 = .ok (.ishl, 1) := by decide +kernel
theorem d_Me_readNumber_11 : decode mi_Me_readNumber.2.1 11 = .ok (.ior, 1) := by decide +kernel
theorem d_Me_readNumber_12 : decode mi_Me_readNumber.2.1 12 = .ok (.istore_n 1, 1) := by decide +kernel
theorem d_Me_readNumber_13 : decode mi_Me_readNumber.2.1 13 = .ok (.iload_n 1, 1) := by decide +kernel
theorem d_Me_readNumber_14 : decode mi_Me_readNumber.2.1 14 = .ok (.aload_n 0, 1) := by decide +kernel
theorem d_Me_readNumber_15 : decode mi_Me_readNumber.2.1 15 = .ok (.invokevirtual 39, 3) := by decide +kernel
theorem d_Me_readNumber_18 : decode mi_Me_readNumber.2.1 18 = .ok (.bipush 16, 2) := by decide +kernel
theorem d_Me_readNumber_20 : decode mi_Me_readNumber.2.1 20 = .ok (.ishl, 1) := by decide +kernel
theorem d_Me_readNumber_21 : decode mi_Me_readNumber.2.1 21 = .ok (.ior, 1) := by decide +kernel
theorem d_Me_readNumber_22 : decode mi_Me_readNumber.2.1 22 = .ok (.aload_n 0, 1) := by decide +kernel
theorem d_Me_readNumber_23 : decode mi_Me_readNumber.2.1 23 = .ok (.invokevirtual 39, 3) := by decide +kernel
theorem d_Me_readNumber_26 : decode mi_Me_readNumber.2.1 26 = .ok (.bipush 24, 2) := by decide +kernel
theorem d_Me_readNumber_28 : decode mi_Me_readNumber.2.1 28 = .ok (.ishl, 1) := by decide +kernel
theorem d_Me_readNumber_29 : decode mi_Me_readNumber.2.1 29 = .ok (.ior, 1) := by decide +kernel
theorem d_Me_readNumber_30 : decode mi_Me_readNumber.2.1 30 = .ok (.ireturn, 1) := by decide +kernel
theorem d_Me_readList_0 : decode mi_Me_readList.2.1 0 = .ok (.aload_n 0, 1) := by decide +kernel
theorem d_Me_readList_1 : decode mi_Me_readList.2.1 1 = .ok (.invokevirtual 56, 3) := by decide +kernel
theorem d_Me_readList_4 : decode mi_Me_readList.2.1 4 = .ok (.istore_n 3, 1) := by decide +kernel
theorem d_Me_readList_5 : decode mi_Me_readList.2.1 5 = .ok (.aload_n 1, 1) := by decide +kernel
theorem d_Me_readList_6 : decode mi_Me_readList.2.1 6 = .ok (.iload_n 3, 1) := by decide +kernel
theorem d_Me_readList_7 : decode mi_Me_readList.2.1 7 = .ok (.i2l, 1) := by decide +kernel
theorem d_Me_readList_8 : decode mi_Me_readList.2.1 8 = .ok (.iconst 4, 1) := by decide +kernel
theorem d_Me_readList_9 : decode mi_Me_readList.2.1 9 = .ok (.invokevirtual 59, 3) := by decide +kernel
theorem d_Me_readList_12 : decode mi_Me_readList.2.1 12 = .ok (.iload_n 2, 1) := by decide +kernel
theorem d_Me_readList_13 : decode mi_Me_readList.2.1 13 = .ok (.iconst 3, 1) := by decide +kernel
theorem d_Me_readList_14 : decode mi_Me_readList.2.1 14 = .ok (.if_icmp .gt 15, 3) := by decide +kernel
theorem d_Me_readList_17 : decode mi_Me_readList.2.1 17 = .ok (.iload_n 3, 1) := by decide +kernel
theorem d_Me_readList_18 : decode mi_Me_readList.2.1 18 = .ok (.ifCond .lt 11, 3) := by decide +kernel
theorem d_Me_readList_21 : decode mi_Me_readList.2.1 21 = .ok (.iload_n 3, 1) := by decide +kernel
theorem d_Me_readList_22 : decode mi_Me_readList.2.1 22 = .ok (.aload_n 0, 1) := by decide +kernel
theorem d_Me_readList_23 : decode mi_Me_readList.2.1 23 = .ok (.invokevirtual 31, 3) := by decide +kernel
theorem d_Me_readList_26 : decode mi_Me_readList.2.1 26 = .ok (.if_icmp .le 9, 3) := by decide +kernel
theorem d_Me_readList_29 : decode mi_Me_readList.2.1 29 = .ok (.aload_n 0, 1) := by decide +kernel
theorem d_Me_readList_30 : decode mi_Me_readList.2.1 30 = .ok (.iconst 0, 1) := by decide +kernel
theorem d_Me_readList_31 : decode mi_Me_readList.2.1 31 = .ok (.putfield 24, 3) := by decide +kernel
theorem d_Me_readList_34 : decode mi_Me_readList.2.1 34 = .ok (.return_, 1) := by decide +kernel
theorem d_Me_readList_35 : decode mi_Me_readList.2.1 35 = .ok (.iconst 0, 1) := by decide +kernel
theorem d_Me_readList_36 : decode mi_Me_readList.2.1 36 = .ok (.istore 4, 2) := by decide +kernel
theorem d_Me_readList_38 : decode mi_Me_readList.2.1 38 = .ok (.iload 4, 2) := by decide +kernel
theorem d_Me_readList_40 : decode mi_Me_readList.2.1 40 = .ok (.iload_n 3, 1) := by decide +kernel
theorem d_Me_readList_41 : decode mi_Me_readList.2.1 41 = .ok (.if_icmp .ge 22, 3) := by decide +kernel
theorem d_Me_readList_44 : decode mi_Me_readList.2.1 44 = .ok (.aload_n 0, 1) := by decide +kernel
theorem d_Me_readList_45 : decode mi_Me_readList.2.1 45 = .ok (.getfield 24, 3) := by decide +kernel
theorem d_Me_readList_48 : decode mi_Me_readList.2.1 48 = .ok (.ifCond .eq 15, 3) := by decide +kernel
theorem d_Me_readList_51 : decode mi_Me_readList.2.1 51 = .ok (.aload_n 0, 1) := by decide +kernel
theorem d_Me_readList_52 : decode mi_Me_readList.2.1 52 = .ok (.aload_n 1, 1) := by decide +kernel
theorem d_Me_readList_53 : decode mi_Me_readList.2.1 53 = .ok (.iload_n 2, 1) := by decide +kernel
theorem d_Me_readList_54 : decode mi_Me_readList.2.1 54 = .ok (.invokevirtual 63, 3) := by decide +kernel
theorem d_Me_readList_57 : decode mi_Me_readList.2.1 57 = .ok (.iinc 4 1, 3) := by decide +kernel
theorem d_Me_readList_60 : decode mi_Me_readList.2.1 60 = .ok (.goto (-22), 3) := by decide +kernel
theorem d_Me_readList_63 : decode mi_Me_readList.2.1 63 = .ok (.return_, 1) := by decide +kernel
theorem d_By_at_0 : decode mi_By_at.2.1 0 = .ok (.iload_n 1, 1) := by decide +kernel
theorem d_By_at_1 : decode mi_By_at.2.1 1 = .ok (.ifCond .lt 24, 3) := by decide +kernel
theorem d_By_at_4 : decode mi_By_at.2.1 4 = .ok (.iload_n 1, 1) := by decide +kernel
theorem d_By_at_5 : decode mi_By_at.2.1 5 = .ok (.aload_n 0, 1) := by decide +kernel
theorem d_By_at_6 : decode mi_By_at.2.1 6 = .ok (.getfield 13, 3) := by decide +kernel
theorem d_By_at_9 : decode mi_By_at.2.1 9 = .ok (.if_icmp .ge 16, 3) := by decide +kernel
theorem d_By_at_12 : decode mi_By_at.2.1 12 = .ok (.aload_n 0, 1) := by decide +kernel
theorem d_By_at_13 : decode mi_By_at.2.1 13 = .ok (.getfield 7, 3) := by decide +kernel
theorem d_By_at_16 : decode mi_By_at.2.1 16 = .ok (.iload_n 1, 1) := by decide +kernel
theorem d_By_at_17 : decode mi_By_at.2.1 17 = .ok (.baload, 1) := by decide +kernel
theorem d_By_at_18 : decode mi_By_at.2.1 18 = .ok (.sipush 255, 3) := by decide +kernel
theorem d_By_at_21 : decode mi_By_at.2.1 21 = .ok (.iand, 1) := by decide +kernel
theorem d_By_at_22 : decode mi_By_at.2.1 22 = .ok (.goto 4, 3) := by decide +kernel
theorem d_By_at_25 : decode mi_By_at.2.1 25 = .ok (.iconst 0, 1) := by decide +kernel
theorem d_By_at_26 : decode mi_By_at.2.1 26 = .ok (.ireturn, 1) := by decide +kernel
theorem d_By_set_0 : decode mi_By_set.2.1 0 = .ok (.iload_n 1, 1) := by decide +kernel
theorem d_By_set_1 : decode mi_By_set.2.1 1 = .ok (.ifCond .lt 19, 3) := by decide +kernel
theorem d_By_set_4 : decode mi_By_set.2.1 4 = .ok (.iload_n 1, 1) := by decide +kernel
theorem d_By_set_5 : decode mi_By_set.2.1 5 = .ok (.aload_n 0, 1) := by decide +kernel
theorem d_By_set_6 : decode mi_By_set.2.1 6 = .ok (.getfield 13, 3) := by decide +kernel
theorem d_By_set_9 : decode mi_By_set.2.1 9 = .ok (.if_icmp .ge 11, 3) := by decide +kernel
theorem d_By_set_12 : decode mi_By_set.2.1 12 = .ok (.aload_n 0, 1) := by decide +kernel
theorem d_By_set_13 : decode mi_By_set.2.1 13 = .ok (.getfield 7, 3) := by decide +kernel
theorem d_By_set_16 : decode mi_By_set.2.1 16 = .ok (.iload_n 1, 1) := by decide +kernel
theorem d_By_set_17 : decode mi_By_set.2.1 17 = .ok (.iload_n 2, 1) := by decide +kernel
theorem d_By_set_18 : decode mi_By_set.2.1 18 = .ok (.i2b, 1) := by decide +kernel
theorem d_By_set_19 : decode mi_By_set.2.1 19 = .ok (.bastore, 1) := by decide +kernel
theorem d_By_set_20 : decode mi_By_set.2.1 20 = .ok (.return_, 1) := by decide +kernel
theorem d_It_watch_0 : decode mi_It_watch.2.1 0 = .ok (.aload_n 0, 1) := by decide +kernel
theorem d_It_watch_1 : decode mi_It_watch.2.1 1 = .ok (.iload_n 1, 1) := by decide +kernel
theorem d_It_watch_2 : decode mi_It_watch.2.1 2 = .ok (.putfield 22, 3) := by decide +kernel
theorem d_It_watch_5 : decode mi_It_watch.2.1 5 = .ok (.aload_n 0, 1) := by decide +kernel
theorem d_It_watch_6 : decode mi_It_watch.2.1 6 = .ok (.iload_n 2, 1) := by decide +kernel
theorem d_It_watch_7 : decode mi_It_watch.2.1 7 = .ok (.putfield 17, 3) := by decide +kernel
theorem d_It_watch_10 : decode mi_It_watch.2.1 10 = .ok (.aload_n 0, 1) := by decide +kernel
theorem d_It_watch_11 : decode mi_It_watch.2.1 11 = .ok (.iload_n 3, 1) := by decide +kernel
theorem d_It_watch_12 : decode mi_It_watch.2.1 12 = .ok (.putfield 25, 3) := by decide +kernel
theorem d_It_watch_15 : decode mi_It_watch.2.1 15 = .ok (.aload_n 0, 1) := by decide +kernel
theorem d_It_watch_16 : decode mi_It_watch.2.1 16 = .ok (.iconst 0, 1) := by decide +kernel
theorem d_It_watch_17 : decode mi_It_watch.2.1 17 = .ok (.putfield 29, 3) := by decide +kernel
theorem d_It_watch_20 : decode mi_It_watch.2.1 20 = .ok (.return_, 1) := by decide +kernel

/-! the instructions, by a program -/
theorem d_G_init_0 : decode b_G_init 0 = .ok (.aload_n 0, 1) := by decide +kernel
theorem d_G_init_1 : decode b_G_init 1 = .ok (.invokespecial 3, 3) := by decide +kernel
theorem d_G_init_4 : decode b_G_init 4 = .ok (.aload_n 0, 1) := by decide +kernel
theorem d_G_init_5 : decode b_G_init 5 = .ok (.bipush 8, 2) := by decide +kernel
theorem d_G_init_7 : decode b_G_init 7 = .ok (.newarray .int, 2) := by decide +kernel
theorem d_G_init_9 : decode b_G_init 9 = .ok (.putfield 9, 3) := by decide +kernel
theorem d_G_init_12 : decode b_G_init 12 = .ok (.aload_n 0, 1) := by decide +kernel
theorem d_G_init_13 : decode b_G_init 13 = .ok (.bipush 16, 2) := by decide +kernel
theorem d_G_init_15 : decode b_G_init 15 = .ok (.newarray .int, 2) := by decide +kernel
theorem d_G_init_17 : decode b_G_init 17 = .ok (.putfield 13, 3) := by decide +kernel
theorem d_G_init_20 : decode b_G_init 20 = .ok (.aload_n 0, 1) := by decide +kernel
theorem d_G_init_21 : decode b_G_init 21 = .ok (.bipush 16, 2) := by decide +kernel
theorem d_G_init_23 : decode b_G_init 23 = .ok (.newarray .boolean, 2) := by decide +kernel
theorem d_G_init_25 : decode b_G_init 25 = .ok (.putfield 16, 3) := by decide +kernel
theorem d_G_init_28 : decode b_G_init 28 = .ok (.aload_n 0, 1) := by decide +kernel
theorem d_G_init_29 : decode b_G_init 29 = .ok (.sipush 512, 3) := by decide +kernel
theorem d_G_init_32 : decode b_G_init 32 = .ok (.newarray .int, 2) := by decide +kernel
theorem d_G_init_34 : decode b_G_init 34 = .ok (.putfield 20, 3) := by decide +kernel
theorem d_G_init_37 : decode b_G_init 37 = .ok (.aload_n 0, 1) := by decide +kernel
theorem d_G_init_38 : decode b_G_init 38 = .ok (.sipush 512, 3) := by decide +kernel
theorem d_G_init_41 : decode b_G_init 41 = .ok (.newarray .int, 2) := by decide +kernel
theorem d_G_init_43 : decode b_G_init 43 = .ok (.putfield 23, 3) := by decide +kernel
theorem d_G_init_46 : decode b_G_init 46 = .ok (.aload_n 0, 1) := by decide +kernel
theorem d_G_init_47 : decode b_G_init 47 = .ok (.sipush 512, 3) := by decide +kernel
theorem d_G_init_50 : decode b_G_init 50 = .ok (.newarray .int, 2) := by decide +kernel
theorem d_G_init_52 : decode b_G_init 52 = .ok (.putfield 26, 3) := by decide +kernel
theorem d_G_init_55 : decode b_G_init 55 = .ok (.aload_n 0, 1) := by decide +kernel
theorem d_G_init_56 : decode b_G_init 56 = .ok (.sipush 512, 3) := by decide +kernel
theorem d_G_init_59 : decode b_G_init 59 = .ok (.newarray .boolean, 2) := by decide +kernel
theorem d_G_init_61 : decode b_G_init 61 = .ok (.putfield 29, 3) := by decide +kernel
theorem d_G_init_64 : decode b_G_init 64 = .ok (.aload_n 0, 1) := by decide +kernel
theorem d_G_init_65 : decode b_G_init 65 = .ok (.sipush 512, 3) := by decide +kernel
theorem d_G_init_68 : decode b_G_init 68 = .ok (.newarray .boolean, 2) := by decide +kernel
theorem d_G_init_70 : decode b_G_init 70 = .ok (.putfield 32, 3) := by decide +kernel
theorem d_G_init_73 : decode b_G_init 73 = .ok (.aload_n 0, 1) := by decide +kernel
theorem d_G_init_74 : decode b_G_init 74 = .ok (.sipush 256, 3) := by decide +kernel
theorem d_G_init_77 : decode b_G_init 77 = .ok (.newarray .int, 2) := by decide +kernel
theorem d_G_init_79 : decode b_G_init 79 = .ok (.putfield 35, 3) := by decide +kernel
theorem d_G_init_82 : decode b_G_init 82 = .ok (.aload_n 0, 1) := by decide +kernel
theorem d_G_init_83 : decode b_G_init 83 = .ok (.iconst 0, 1) := by decide +kernel
theorem d_G_init_84 : decode b_G_init 84 = .ok (.putfield 38, 3) := by decide +kernel
theorem d_G_init_87 : decode b_G_init 87 = .ok (.aload_n 0, 1) := by decide +kernel
theorem d_G_init_88 : decode b_G_init 88 = .ok (.iconst 0, 1) := by decide +kernel
theorem d_G_init_89 : decode b_G_init 89 = .ok (.putfield 42, 3) := by decide +kernel
theorem d_G_init_92 : decode b_G_init 92 = .ok (.aload_n 0, 1) := by decide +kernel
theorem d_G_init_93 : decode b_G_init 93 = .ok (.iconst 0, 1) := by decide +kernel
theorem d_G_init_94 : decode b_G_init 94 = .ok (.putfield 45, 3) := by decide +kernel
theorem d_G_init_97 : decode b_G_init 97 = .ok (.aload_n 0, 1) := by decide +kernel
theorem d_G_init_98 : decode b_G_init 98 = .ok (.getfield 23, 3) := by decide +kernel
theorem d_G_init_101 : decode b_G_init 101 = .ok (.iconst (-1), 1) := by decide +kernel
theorem d_G_init_102 : decode b_G_init 102 = .ok (.invokestatic 48, 3) := by decide +kernel
theorem d_G_init_105 : decode b_G_init 105 = .ok (.return_, 1) := by decide +kernel
theorem d_A_fill1_0 : decode b_A_fill1 0 = .ok (.iconst 0, 1) := by decide +kernel
theorem d_A_fill1_1 : decode b_A_fill1 1 = .ok (.istore_n 2, 1) := by decide +kernel
theorem d_A_fill1_2 : decode b_A_fill1 2 = .ok (.aload_n 0, 1) := by decide +kernel
theorem d_A_fill1_3 : decode b_A_fill1 3 = .ok (.arraylength, 1) := by decide +kernel
theorem d_A_fill1_4 : decode b_A_fill1 4 = .ok (.istore_n 3, 1) := by decide +kernel
theorem d_A_fill1_5 : decode b_A_fill1 5 = .ok (.iload_n 2, 1) := by decide +kernel
theorem d_A_fill1_6 : decode b_A_fill1 6 = .ok (.iload_n 3, 1) := by decide +kernel
theorem d_A_fill1_7 : decode b_A_fill1 7 = .ok (.if_icmp .ge 13, 3) := by decide +kernel
theorem d_A_fill1_10 : decode b_A_fill1 10 = .ok (.aload_n 0, 1) := by decide +kernel
theorem d_A_fill1_11 : decode b_A_fill1 11 = .ok (.iload_n 2, 1) := by decide +kernel
theorem d_A_fill1_12 : decode b_A_fill1 12 = .ok (.iload_n 1, 1) := by decide +kernel
theorem d_A_fill1_13 : decode b_A_fill1 13 = .ok (.iastore, 1) := by decide +kernel
theorem d_A_fill1_14 : decode b_A_fill1 14 = .ok (.iinc 2 1, 3) := by decide +kernel
theorem d_A_fill1_17 : decode b_A_fill1 17 = .ok (.goto (-12), 3) := by decide +kernel
theorem d_A_fill1_20 : decode b_A_fill1 20 = .ok (.return_, 1) := by decide +kernel
theorem d_G_collect_0 : decode b_G_collect 0 = .ok (.aload_n 0, 1) := by decide +kernel
theorem d_G_collect_1 : decode b_G_collect 1 = .ok (.invokevirtual 65, 3) := by decide +kernel
theorem d_G_collect_4 : decode b_G_collect 4 = .ok (.ireturn, 1) := by decide +kernel
theorem d_G_collectNow_0 : decode b_G_collectNow 0 = .ok (.aload_n 0, 1) := by decide +kernel
theorem d_G_collectNow_1 : decode b_G_collectNow 1 = .ok (.dup, 1) := by decide +kernel
theorem d_G_collectNow_2 : decode b_G_collectNow 2 = .ok (.getfield 45, 3) := by decide +kernel
theorem d_G_collectNow_5 : decode b_G_collectNow 5 = .ok (.iconst 1, 1) := by decide +kernel
theorem d_G_collectNow_6 : decode b_G_collectNow 6 = .ok (.iadd, 1) := by decide +kernel
theorem d_G_collectNow_7 : decode b_G_collectNow 7 = .ok (.putfield 45, 3) := by decide +kernel
theorem d_G_collectNow_10 : decode b_G_collectNow 10 = .ok (.aload_n 0, 1) := by decide +kernel
theorem d_G_collectNow_11 : decode b_G_collectNow 11 = .ok (.invokevirtual 136, 3) := by decide +kernel
theorem d_G_collectNow_14 : decode b_G_collectNow 14 = .ok (.aload_n 0, 1) := by decide +kernel
theorem d_G_collectNow_15 : decode b_G_collectNow 15 = .ok (.invokevirtual 139, 3) := by decide +kernel
theorem d_G_collectNow_18 : decode b_G_collectNow 18 = .ok (.aload_n 0, 1) := by decide +kernel
theorem d_G_collectNow_19 : decode b_G_collectNow 19 = .ok (.invokevirtual 142, 3) := by decide +kernel
theorem d_G_collectNow_22 : decode b_G_collectNow 22 = .ok (.aload_n 0, 1) := by decide +kernel
theorem d_G_collectNow_23 : decode b_G_collectNow 23 = .ok (.getfield 42, 3) := by decide +kernel
theorem d_G_collectNow_26 : decode b_G_collectNow 26 = .ok (.istore_n 1, 1) := by decide +kernel
theorem d_G_collectNow_27 : decode b_G_collectNow 27 = .ok (.aload_n 0, 1) := by decide +kernel
theorem d_G_collectNow_28 : decode b_G_collectNow 28 = .ok (.invokevirtual 145, 3) := by decide +kernel
theorem d_G_collectNow_31 : decode b_G_collectNow 31 = .ok (.aload_n 0, 1) := by decide +kernel
theorem d_G_collectNow_32 : decode b_G_collectNow 32 = .ok (.invokevirtual 148, 3) := by decide +kernel
theorem d_G_collectNow_35 : decode b_G_collectNow 35 = .ok (.iload_n 1, 1) := by decide +kernel
theorem d_G_collectNow_36 : decode b_G_collectNow 36 = .ok (.aload_n 0, 1) := by decide +kernel
theorem d_G_collectNow_37 : decode b_G_collectNow 37 = .ok (.getfield 42, 3) := by decide +kernel
theorem d_G_collectNow_40 : decode b_G_collectNow 40 = .ok (.isub, 1) := by decide +kernel
theorem d_G_collectNow_41 : decode b_G_collectNow 41 = .ok (.ireturn, 1) := by decide +kernel
theorem d_G_forgetMarks_0 : decode b_G_forgetMarks 0 = .ok (.iconst 0, 1) := by decide +kernel
theorem d_G_forgetMarks_1 : decode b_G_forgetMarks 1 = .ok (.istore_n 1, 1) := by decide +kernel
theorem d_G_forgetMarks_2 : decode b_G_forgetMarks 2 = .ok (.iload_n 1, 1) := by decide +kernel
theorem d_G_forgetMarks_3 : decode b_G_forgetMarks 3 = .ok (.bipush 16, 2) := by decide +kernel
theorem d_G_forgetMarks_5 : decode b_G_forgetMarks 5 = .ok (.if_icmp .ge 16, 3) := by decide +kernel
theorem d_G_forgetMarks_8 : decode b_G_forgetMarks 8 = .ok (.aload_n 0, 1) := by decide +kernel
theorem d_G_forgetMarks_9 : decode b_G_forgetMarks 9 = .ok (.getfield 16, 3) := by decide +kernel
theorem d_G_forgetMarks_12 : decode b_G_forgetMarks 12 = .ok (.iload_n 1, 1) := by decide +kernel
theorem d_G_forgetMarks_13 : decode b_G_forgetMarks 13 = .ok (.iconst 0, 1) := by decide +kernel
theorem d_G_forgetMarks_14 : decode b_G_forgetMarks 14 = .ok (.bastore, 1) := by decide +kernel
theorem d_G_forgetMarks_15 : decode b_G_forgetMarks 15 = .ok (.iinc 1 1, 3) := by decide +kernel
theorem d_G_forgetMarks_18 : decode b_G_forgetMarks 18 = .ok (.goto (-16), 3) := by decide +kernel
theorem d_G_forgetMarks_21 : decode b_G_forgetMarks 21 = .ok (.iconst 0, 1) := by decide +kernel
theorem d_G_forgetMarks_22 : decode b_G_forgetMarks 22 = .ok (.istore_n 1, 1) := by decide +kernel
theorem d_G_forgetMarks_23 : decode b_G_forgetMarks 23 = .ok (.iload_n 1, 1) := by decide +kernel
theorem d_G_forgetMarks_24 : decode b_G_forgetMarks 24 = .ok (.sipush 512, 3) := by decide +kernel
theorem d_G_forgetMarks_27 : decode b_G_forgetMarks 27 = .ok (.if_icmp .ge 16, 3) := by decide +kernel
theorem d_G_forgetMarks_30 : decode b_G_forgetMarks 30 = .ok (.aload_n 0, 1) := by decide +kernel
theorem d_G_forgetMarks_31 : decode b_G_forgetMarks 31 = .ok (.getfield 32, 3) := by decide +kernel
theorem d_G_forgetMarks_34 : decode b_G_forgetMarks 34 = .ok (.iload_n 1, 1) := by decide +kernel
theorem d_G_forgetMarks_35 : decode b_G_forgetMarks 35 = .ok (.iconst 0, 1) := by decide +kernel
theorem d_G_forgetMarks_36 : decode b_G_forgetMarks 36 = .ok (.bastore, 1) := by decide +kernel
theorem d_G_forgetMarks_37 : decode b_G_forgetMarks 37 = .ok (.iinc 1 1, 3) := by decide +kernel
theorem d_G_forgetMarks_40 : decode b_G_forgetMarks 40 = .ok (.goto (-17), 3) := by decide +kernel
theorem d_G_forgetMarks_43 : decode b_G_forgetMarks 43 = .ok (.aload_n 0, 1) := by decide +kernel
theorem d_G_forgetMarks_44 : decode b_G_forgetMarks 44 = .ok (.iconst 0, 1) := by decide +kernel
theorem d_G_forgetMarks_45 : decode b_G_forgetMarks 45 = .ok (.putfield 38, 3) := by decide +kernel
theorem d_G_forgetMarks_48 : decode b_G_forgetMarks 48 = .ok (.return_, 1) := by decide +kernel
theorem d_G_lookAtRoots_0 : decode b_G_lookAtRoots 0 = .ok (.iconst 0, 1) := by decide +kernel
theorem d_G_lookAtRoots_1 : decode b_G_lookAtRoots 1 = .ok (.istore_n 1, 1) := by decide +kernel
theorem d_G_lookAtRoots_2 : decode b_G_lookAtRoots 2 = .ok (.iload_n 1, 1) := by decide +kernel
theorem d_G_lookAtRoots_3 : decode b_G_lookAtRoots 3 = .ok (.bipush 8, 2) := by decide +kernel
theorem d_G_lookAtRoots_5 : decode b_G_lookAtRoots 5 = .ok (.if_icmp .ge 19, 3) := by decide +kernel
theorem d_G_lookAtRoots_8 : decode b_G_lookAtRoots 8 = .ok (.aload_n 0, 1) := by decide +kernel
theorem d_G_lookAtRoots_9 : decode b_G_lookAtRoots 9 = .ok (.aload_n 0, 1) := by decide +kernel
theorem d_G_lookAtRoots_10 : decode b_G_lookAtRoots 10 = .ok (.getfield 9, 3) := by decide +kernel
theorem d_G_lookAtRoots_13 : decode b_G_lookAtRoots 13 = .ok (.iload_n 1, 1) := by decide +kernel
theorem d_G_lookAtRoots_14 : decode b_G_lookAtRoots 14 = .ok (.iaload, 1) := by decide +kernel
theorem d_G_lookAtRoots_15 : decode b_G_lookAtRoots 15 = .ok (.invokevirtual 151, 3) := by decide +kernel
theorem d_G_lookAtRoots_18 : decode b_G_lookAtRoots 18 = .ok (.iinc 1 1, 3) := by decide +kernel
theorem d_G_lookAtRoots_21 : decode b_G_lookAtRoots 21 = .ok (.goto (-19), 3) := by decide +kernel
theorem d_G_lookAtRoots_24 : decode b_G_lookAtRoots 24 = .ok (.return_, 1) := by decide +kernel
theorem d_G_lookAt_0 : decode b_G_lookAt 0 = .ok (.iload_n 1, 1) := by decide +kernel
theorem d_G_lookAt_1 : decode b_G_lookAt 1 = .ok (.invokestatic 113, 3) := by decide +kernel
theorem d_G_lookAt_4 : decode b_G_lookAt 4 = .ok (.ifCond .ne 4, 3) := by decide +kernel
theorem d_G_lookAt_7 : decode b_G_lookAt 7 = .ok (.return_, 1) := by decide +kernel
theorem d_G_lookAt_8 : decode b_G_lookAt 8 = .ok (.aload_n 0, 1) := by decide +kernel
theorem d_G_lookAt_9 : decode b_G_lookAt 9 = .ok (.iload_n 1, 1) := by decide +kernel
theorem d_G_lookAt_10 : decode b_G_lookAt 10 = .ok (.invokevirtual 95, 3) := by decide +kernel
theorem d_G_lookAt_13 : decode b_G_lookAt 13 = .ok (.istore_n 2, 1) := by decide +kernel
theorem d_G_lookAt_14 : decode b_G_lookAt 14 = .ok (.iload_n 1, 1) := by decide +kernel
theorem d_G_lookAt_15 : decode b_G_lookAt 15 = .ok (.sipush 4096, 3) := by decide +kernel
theorem d_G_lookAt_18 : decode b_G_lookAt 18 = .ok (.isub, 1) := by decide +kernel
theorem d_G_lookAt_19 : decode b_G_lookAt 19 = .ok (.bipush 32, 2) := by decide +kernel
theorem d_G_lookAt_21 : decode b_G_lookAt 21 = .ok (.idiv, 1) := by decide +kernel
theorem d_G_lookAt_22 : decode b_G_lookAt 22 = .ok (.istore_n 3, 1) := by decide +kernel
theorem d_G_lookAt_23 : decode b_G_lookAt 23 = .ok (.iload_n 2, 1) := by decide +kernel
theorem d_G_lookAt_24 : decode b_G_lookAt 24 = .ok (.iconst (-1), 1) := by decide +kernel
theorem d_G_lookAt_25 : decode b_G_lookAt 25 = .ok (.if_icmp .eq 11, 3) := by decide +kernel
theorem d_G_lookAt_28 : decode b_G_lookAt 28 = .ok (.aload_n 0, 1) := by decide +kernel
theorem d_G_lookAt_29 : decode b_G_lookAt 29 = .ok (.iload_n 2, 1) := by decide +kernel
theorem d_G_lookAt_30 : decode b_G_lookAt 30 = .ok (.invokevirtual 157, 3) := by decide +kernel
theorem d_G_lookAt_33 : decode b_G_lookAt 33 = .ok (.goto 19, 3) := by decide +kernel
theorem d_G_lookAt_36 : decode b_G_lookAt 36 = .ok (.aload_n 0, 1) := by decide +kernel
theorem d_G_lookAt_37 : decode b_G_lookAt 37 = .ok (.getfield 13, 3) := by decide +kernel
theorem d_G_lookAt_40 : decode b_G_lookAt 40 = .ok (.iload_n 3, 1) := by decide +kernel
theorem d_G_lookAt_41 : decode b_G_lookAt 41 = .ok (.iaload, 1) := by decide +kernel
theorem d_G_lookAt_42 : decode b_G_lookAt 42 = .ok (.ifCond .ne 10, 3) := by decide +kernel
theorem d_G_lookAt_45 : decode b_G_lookAt 45 = .ok (.aload_n 0, 1) := by decide +kernel
theorem d_G_lookAt_46 : decode b_G_lookAt 46 = .ok (.getfield 16, 3) := by decide +kernel
theorem d_G_lookAt_49 : decode b_G_lookAt 49 = .ok (.iload_n 3, 1) := by decide +kernel
theorem d_G_lookAt_50 : decode b_G_lookAt 50 = .ok (.iconst 1, 1) := by decide +kernel
theorem d_G_lookAt_51 : decode b_G_lookAt 51 = .ok (.bastore, 1) := by decide +kernel
theorem d_G_lookAt_52 : decode b_G_lookAt 52 = .ok (.return_, 1) := by decide +kernel
theorem d_G_isAddress_0 : decode b_G_isAddress 0 = .ok (.iload_n 0, 1) := by decide +kernel
theorem d_G_isAddress_1 : decode b_G_isAddress 1 = .ok (.sipush 4096, 3) := by decide +kernel
theorem d_G_isAddress_4 : decode b_G_isAddress 4 = .ok (.if_icmp .lt 14, 3) := by decide +kernel
theorem d_G_isAddress_7 : decode b_G_isAddress 7 = .ok (.iload_n 0, 1) := by decide +kernel
theorem d_G_isAddress_8 : decode b_G_isAddress 8 = .ok (.sipush 4608, 3) := by decide +kernel
theorem d_G_isAddress_11 : decode b_G_isAddress 11 = .ok (.if_icmp .ge 7, 3) := by decide +kernel
theorem d_G_isAddress_14 : decode b_G_isAddress 14 = .ok (.iconst 1, 1) := by decide +kernel
theorem d_G_isAddress_15 : decode b_G_isAddress 15 = .ok (.goto 4, 3) := by decide +kernel
theorem d_G_isAddress_18 : decode b_G_isAddress 18 = .ok (.iconst 0, 1) := by decide +kernel
theorem d_G_isAddress_19 : decode b_G_isAddress 19 = .ok (.ireturn, 1) := by decide +kernel
theorem d_G_startAt_0 : decode b_G_startAt 0 = .ok (.iload_n 1, 1) := by decide +kernel
theorem d_G_startAt_1 : decode b_G_startAt 1 = .ok (.invokestatic 113, 3) := by decide +kernel
theorem d_G_startAt_4 : decode b_G_startAt 4 = .ok (.ifCond .eq 16, 3) := by decide +kernel
theorem d_G_startAt_7 : decode b_G_startAt 7 = .ok (.aload_n 0, 1) := by decide +kernel
theorem d_G_startAt_8 : decode b_G_startAt 8 = .ok (.getfield 23, 3) := by decide +kernel
theorem d_G_startAt_11 : decode b_G_startAt 11 = .ok (.iload_n 1, 1) := by decide +kernel
theorem d_G_startAt_12 : decode b_G_startAt 12 = .ok (.sipush 4096, 3) := by decide +kernel
theorem d_G_startAt_15 : decode b_G_startAt 15 = .ok (.isub, 1) := by decide +kernel
theorem d_G_startAt_16 : decode b_G_startAt 16 = .ok (.iaload, 1) := by decide +kernel
theorem d_G_startAt_17 : decode b_G_startAt 17 = .ok (.goto 4, 3) := by decide +kernel
theorem d_G_startAt_20 : decode b_G_startAt 20 = .ok (.iconst (-1), 1) := by decide +kernel
theorem d_G_startAt_21 : decode b_G_startAt 21 = .ok (.ireturn, 1) := by decide +kernel
theorem d_G_mark_0 : decode b_G_mark 0 = .ok (.aload_n 0, 1) := by decide +kernel
theorem d_G_mark_1 : decode b_G_mark 1 = .ok (.getfield 32, 3) := by decide +kernel
theorem d_G_mark_4 : decode b_G_mark 4 = .ok (.iload_n 1, 1) := by decide +kernel
theorem d_G_mark_5 : decode b_G_mark 5 = .ok (.baload, 1) := by decide +kernel
theorem d_G_mark_6 : decode b_G_mark 6 = .ok (.ifCond .ne 40, 3) := by decide +kernel
theorem d_G_mark_9 : decode b_G_mark 9 = .ok (.aload_n 0, 1) := by decide +kernel
theorem d_G_mark_10 : decode b_G_mark 10 = .ok (.getfield 38, 3) := by decide +kernel
theorem d_G_mark_13 : decode b_G_mark 13 = .ok (.sipush 256, 3) := by decide +kernel
theorem d_G_mark_16 : decode b_G_mark 16 = .ok (.if_icmp .ge 30, 3) := by decide +kernel
theorem d_G_mark_19 : decode b_G_mark 19 = .ok (.aload_n 0, 1) := by decide +kernel
theorem d_G_mark_20 : decode b_G_mark 20 = .ok (.getfield 32, 3) := by decide +kernel
theorem d_G_mark_23 : decode b_G_mark 23 = .ok (.iload_n 1, 1) := by decide +kernel
theorem d_G_mark_24 : decode b_G_mark 24 = .ok (.iconst 1, 1) := by decide +kernel
theorem d_G_mark_25 : decode b_G_mark 25 = .ok (.bastore, 1) := by decide +kernel
theorem d_G_mark_26 : decode b_G_mark 26 = .ok (.aload_n 0, 1) := by decide +kernel
theorem d_G_mark_27 : decode b_G_mark 27 = .ok (.getfield 35, 3) := by decide +kernel
theorem d_G_mark_30 : decode b_G_mark 30 = .ok (.aload_n 0, 1) := by decide +kernel
theorem d_G_mark_31 : decode b_G_mark 31 = .ok (.getfield 38, 3) := by decide +kernel
theorem d_G_mark_34 : decode b_G_mark 34 = .ok (.iload_n 1, 1) := by decide +kernel
theorem d_G_mark_35 : decode b_G_mark 35 = .ok (.iastore, 1) := by decide +kernel
theorem d_G_mark_36 : decode b_G_mark 36 = .ok (.aload_n 0, 1) := by decide +kernel
theorem d_G_mark_37 : decode b_G_mark 37 = .ok (.dup, 1) := by decide +kernel
theorem d_G_mark_38 : decode b_G_mark 38 = .ok (.getfield 38, 3) := by decide +kernel
theorem d_G_mark_41 : decode b_G_mark 41 = .ok (.iconst 1, 1) := by decide +kernel
theorem d_G_mark_42 : decode b_G_mark 42 = .ok (.iadd, 1) := by decide +kernel
theorem d_G_mark_43 : decode b_G_mark 43 = .ok (.putfield 38, 3) := by decide +kernel
theorem d_G_mark_46 : decode b_G_mark 46 = .ok (.return_, 1) := by decide +kernel
theorem d_G_lookAtMarkedObjects_0 : decode b_G_lookAtMarkedObjects 0 = .ok (.iconst 0, 1) := by decide +kernel
theorem d_G_lookAtMarkedObjects_1 : decode b_G_lookAtMarkedObjects 1 = .ok (.istore_n 1, 1) := by decide +kernel
theorem d_G_lookAtMarkedObjects_2 : decode b_G_lookAtMarkedObjects 2 = .ok (.iload_n 1, 1) := by decide +kernel
theorem d_G_lookAtMarkedObjects_3 : decode b_G_lookAtMarkedObjects 3 = .ok (.sipush 256, 3) := by decide +kernel
theorem d_G_lookAtMarkedObjects_6 : decode b_G_lookAtMarkedObjects 6 = .ok (.if_icmp .ge 44, 3) := by decide +kernel
theorem d_G_lookAtMarkedObjects_9 : decode b_G_lookAtMarkedObjects 9 = .ok (.iload_n 1, 1) := by decide +kernel
theorem d_G_lookAtMarkedObjects_10 : decode b_G_lookAtMarkedObjects 10 = .ok (.aload_n 0, 1) := by decide +kernel
theorem d_G_lookAtMarkedObjects_11 : decode b_G_lookAtMarkedObjects 11 = .ok (.getfield 38, 3) := by decide +kernel
theorem d_G_lookAtMarkedObjects_14 : decode b_G_lookAtMarkedObjects 14 = .ok (.if_icmp .ge 36, 3) := by decide +kernel
theorem d_G_lookAtMarkedObjects_17 : decode b_G_lookAtMarkedObjects 17 = .ok (.aload_n 0, 1) := by decide +kernel
theorem d_G_lookAtMarkedObjects_18 : decode b_G_lookAtMarkedObjects 18 = .ok (.getfield 35, 3) := by decide +kernel
theorem d_G_lookAtMarkedObjects_21 : decode b_G_lookAtMarkedObjects 21 = .ok (.iload_n 1, 1) := by decide +kernel
theorem d_G_lookAtMarkedObjects_22 : decode b_G_lookAtMarkedObjects 22 = .ok (.iaload, 1) := by decide +kernel
theorem d_G_lookAtMarkedObjects_23 : decode b_G_lookAtMarkedObjects 23 = .ok (.istore_n 2, 1) := by decide +kernel
theorem d_G_lookAtMarkedObjects_24 : decode b_G_lookAtMarkedObjects 24 = .ok (.aload_n 0, 1) := by decide +kernel
theorem d_G_lookAtMarkedObjects_25 : decode b_G_lookAtMarkedObjects 25 = .ok (.getfield 29, 3) := by decide +kernel
theorem d_G_lookAtMarkedObjects_28 : decode b_G_lookAtMarkedObjects 28 = .ok (.iload_n 2, 1) := by decide +kernel
theorem d_G_lookAtMarkedObjects_29 : decode b_G_lookAtMarkedObjects 29 = .ok (.baload, 1) := by decide +kernel
theorem d_G_lookAtMarkedObjects_30 : decode b_G_lookAtMarkedObjects 30 = .ok (.ifCond .ne 14, 3) := by decide +kernel
theorem d_G_lookAtMarkedObjects_33 : decode b_G_lookAtMarkedObjects 33 = .ok (.aload_n 0, 1) := by decide +kernel
theorem d_G_lookAtMarkedObjects_34 : decode b_G_lookAtMarkedObjects 34 = .ok (.iload_n 2, 1) := by decide +kernel
theorem d_G_lookAtMarkedObjects_35 : decode b_G_lookAtMarkedObjects 35 = .ok (.aload_n 0, 1) := by decide +kernel
theorem d_G_lookAtMarkedObjects_36 : decode b_G_lookAtMarkedObjects 36 = .ok (.getfield 26, 3) := by decide +kernel
theorem d_G_lookAtMarkedObjects_39 : decode b_G_lookAtMarkedObjects 39 = .ok (.iload_n 2, 1) := by decide +kernel
theorem d_G_lookAtMarkedObjects_40 : decode b_G_lookAtMarkedObjects 40 = .ok (.iaload, 1) := by decide +kernel
theorem d_G_lookAtMarkedObjects_41 : decode b_G_lookAtMarkedObjects 41 = .ok (.invokevirtual 154, 3) := by decide +kernel
theorem d_G_lookAtMarkedObjects_44 : decode b_G_lookAtMarkedObjects 44 = .ok (.iinc 1 1, 3) := by decide +kernel
theorem d_G_lookAtMarkedObjects_47 : decode b_G_lookAtMarkedObjects 47 = .ok (.goto (-45), 3) := by decide +kernel
theorem d_G_lookAtMarkedObjects_50 : decode b_G_lookAtMarkedObjects 50 = .ok (.return_, 1) := by decide +kernel
theorem d_G_lookAtWords_0 : decode b_G_lookAtWords 0 = .ok (.iconst 0, 1) := by decide +kernel
theorem d_G_lookAtWords_1 : decode b_G_lookAtWords 1 = .ok (.istore_n 3, 1) := by decide +kernel
theorem d_G_lookAtWords_2 : decode b_G_lookAtWords 2 = .ok (.iload_n 3, 1) := by decide +kernel
theorem d_G_lookAtWords_3 : decode b_G_lookAtWords 3 = .ok (.iload_n 2, 1) := by decide +kernel
theorem d_G_lookAtWords_4 : decode b_G_lookAtWords 4 = .ok (.if_icmp .ge 21, 3) := by decide +kernel
theorem d_G_lookAtWords_7 : decode b_G_lookAtWords 7 = .ok (.aload_n 0, 1) := by decide +kernel
theorem d_G_lookAtWords_8 : decode b_G_lookAtWords 8 = .ok (.aload_n 0, 1) := by decide +kernel
theorem d_G_lookAtWords_9 : decode b_G_lookAtWords 9 = .ok (.getfield 20, 3) := by decide +kernel
theorem d_G_lookAtWords_12 : decode b_G_lookAtWords 12 = .ok (.iload_n 1, 1) := by decide +kernel
theorem d_G_lookAtWords_13 : decode b_G_lookAtWords 13 = .ok (.iload_n 3, 1) := by decide +kernel
theorem d_G_lookAtWords_14 : decode b_G_lookAtWords 14 = .ok (.iadd, 1) := by decide +kernel
theorem d_G_lookAtWords_15 : decode b_G_lookAtWords 15 = .ok (.iaload, 1) := by decide +kernel
theorem d_G_lookAtWords_16 : decode b_G_lookAtWords 16 = .ok (.invokevirtual 151, 3) := by decide +kernel
theorem d_G_lookAtWords_19 : decode b_G_lookAtWords 19 = .ok (.iinc 3 1, 3) := by decide +kernel
theorem d_G_lookAtWords_22 : decode b_G_lookAtWords 22 = .ok (.goto (-20), 3) := by decide +kernel
theorem d_G_lookAtWords_25 : decode b_G_lookAtWords 25 = .ok (.return_, 1) := by decide +kernel
theorem d_G_giveUpUnmarkedObjects_0 : decode b_G_giveUpUnmarkedObjects 0 = .ok (.iconst 0, 1) := by decide +kernel
theorem d_G_giveUpUnmarkedObjects_1 : decode b_G_giveUpUnmarkedObjects 1 = .ok (.istore_n 1, 1) := by decide +kernel
theorem d_G_giveUpUnmarkedObjects_2 : decode b_G_giveUpUnmarkedObjects 2 = .ok (.iload_n 1, 1) := by decide +kernel
theorem d_G_giveUpUnmarkedObjects_3 : decode b_G_giveUpUnmarkedObjects 3 = .ok (.sipush 512, 3) := by decide +kernel
theorem d_G_giveUpUnmarkedObjects_6 : decode b_G_giveUpUnmarkedObjects 6 = .ok (.if_icmp .ge 39, 3) := by decide +kernel
theorem d_G_giveUpUnmarkedObjects_9 : decode b_G_giveUpUnmarkedObjects 9 = .ok (.aload_n 0, 1) := by decide +kernel
theorem d_G_giveUpUnmarkedObjects_10 : decode b_G_giveUpUnmarkedObjects 10 = .ok (.getfield 23, 3) := by decide +kernel
theorem d_G_giveUpUnmarkedObjects_13 : decode b_G_giveUpUnmarkedObjects 13 = .ok (.iload_n 1, 1) := by decide +kernel
theorem d_G_giveUpUnmarkedObjects_14 : decode b_G_giveUpUnmarkedObjects 14 = .ok (.iaload, 1) := by decide +kernel
theorem d_G_giveUpUnmarkedObjects_15 : decode b_G_giveUpUnmarkedObjects 15 = .ok (.iload_n 1, 1) := by decide +kernel
theorem d_G_giveUpUnmarkedObjects_16 : decode b_G_giveUpUnmarkedObjects 16 = .ok (.if_icmp .ne 23, 3) := by decide +kernel
theorem d_G_giveUpUnmarkedObjects_19 : decode b_G_giveUpUnmarkedObjects 19 = .ok (.aload_n 0, 1) := by decide +kernel
theorem d_G_giveUpUnmarkedObjects_20 : decode b_G_giveUpUnmarkedObjects 20 = .ok (.getfield 32, 3) := by decide +kernel
theorem d_G_giveUpUnmarkedObjects_23 : decode b_G_giveUpUnmarkedObjects 23 = .ok (.iload_n 1, 1) := by decide +kernel
theorem d_G_giveUpUnmarkedObjects_24 : decode b_G_giveUpUnmarkedObjects 24 = .ok (.baload, 1) := by decide +kernel
theorem d_G_giveUpUnmarkedObjects_25 : decode b_G_giveUpUnmarkedObjects 25 = .ok (.ifCond .ne 14, 3) := by decide +kernel
theorem d_G_giveUpUnmarkedObjects_28 : decode b_G_giveUpUnmarkedObjects 28 = .ok (.aload_n 0, 1) := by decide +kernel
theorem d_G_giveUpUnmarkedObjects_29 : decode b_G_giveUpUnmarkedObjects 29 = .ok (.iload_n 1, 1) := by decide +kernel
theorem d_G_giveUpUnmarkedObjects_30 : decode b_G_giveUpUnmarkedObjects 30 = .ok (.aload_n 0, 1) := by decide +kernel
theorem d_G_giveUpUnmarkedObjects_31 : decode b_G_giveUpUnmarkedObjects 31 = .ok (.getfield 26, 3) := by decide +kernel
theorem d_G_giveUpUnmarkedObjects_34 : decode b_G_giveUpUnmarkedObjects 34 = .ok (.iload_n 1, 1) := by decide +kernel
theorem d_G_giveUpUnmarkedObjects_35 : decode b_G_giveUpUnmarkedObjects 35 = .ok (.iaload, 1) := by decide +kernel
theorem d_G_giveUpUnmarkedObjects_36 : decode b_G_giveUpUnmarkedObjects 36 = .ok (.invokevirtual 160, 3) := by decide +kernel
theorem d_G_giveUpUnmarkedObjects_39 : decode b_G_giveUpUnmarkedObjects 39 = .ok (.iinc 1 1, 3) := by decide +kernel
theorem d_G_giveUpUnmarkedObjects_42 : decode b_G_giveUpUnmarkedObjects 42 = .ok (.goto (-40), 3) := by decide +kernel
theorem d_G_giveUpUnmarkedObjects_45 : decode b_G_giveUpUnmarkedObjects 45 = .ok (.return_, 1) := by decide +kernel
theorem d_G_giveUp_0 : decode b_G_giveUp 0 = .ok (.aload_n 0, 1) := by decide +kernel
theorem d_G_giveUp_1 : decode b_G_giveUp 1 = .ok (.getfield 20, 3) := by decide +kernel
theorem d_G_giveUp_4 : decode b_G_giveUp 4 = .ok (.iload_n 1, 1) := by decide +kernel
theorem d_G_giveUp_5 : decode b_G_giveUp 5 = .ok (.iload_n 1, 1) := by decide +kernel
theorem d_G_giveUp_6 : decode b_G_giveUp 6 = .ok (.iload_n 2, 1) := by decide +kernel
theorem d_G_giveUp_7 : decode b_G_giveUp 7 = .ok (.iadd, 1) := by decide +kernel
theorem d_G_giveUp_8 : decode b_G_giveUp 8 = .ok (.iconst 0, 1) := by decide +kernel
theorem d_G_giveUp_9 : decode b_G_giveUp 9 = .ok (.invokestatic 133, 3) := by decide +kernel
theorem d_G_giveUp_12 : decode b_G_giveUp 12 = .ok (.aload_n 0, 1) := by decide +kernel
theorem d_G_giveUp_13 : decode b_G_giveUp 13 = .ok (.getfield 23, 3) := by decide +kernel
theorem d_G_giveUp_16 : decode b_G_giveUp 16 = .ok (.iload_n 1, 1) := by decide +kernel
theorem d_G_giveUp_17 : decode b_G_giveUp 17 = .ok (.iload_n 1, 1) := by decide +kernel
theorem d_G_giveUp_18 : decode b_G_giveUp 18 = .ok (.iload_n 2, 1) := by decide +kernel
theorem d_G_giveUp_19 : decode b_G_giveUp 19 = .ok (.iadd, 1) := by decide +kernel
theorem d_G_giveUp_20 : decode b_G_giveUp 20 = .ok (.iconst (-1), 1) := by decide +kernel
theorem d_G_giveUp_21 : decode b_G_giveUp 21 = .ok (.invokestatic 133, 3) := by decide +kernel
theorem d_G_giveUp_24 : decode b_G_giveUp 24 = .ok (.aload_n 0, 1) := by decide +kernel
theorem d_G_giveUp_25 : decode b_G_giveUp 25 = .ok (.dup, 1) := by decide +kernel
theorem d_G_giveUp_26 : decode b_G_giveUp 26 = .ok (.getfield 42, 3) := by decide +kernel
theorem d_G_giveUp_29 : decode b_G_giveUp 29 = .ok (.iconst 1, 1) := by decide +kernel
theorem d_G_giveUp_30 : decode b_G_giveUp 30 = .ok (.isub, 1) := by decide +kernel
theorem d_G_giveUp_31 : decode b_G_giveUp 31 = .ok (.putfield 42, 3) := by decide +kernel
theorem d_G_giveUp_34 : decode b_G_giveUp 34 = .ok (.return_, 1) := by decide +kernel
theorem d_A_fill3_0 : decode b_A_fill3 0 = .ok (.aload_n 0, 1) := by decide +kernel
theorem d_A_fill3_1 : decode b_A_fill3 1 = .ok (.arraylength, 1) := by decide +kernel
theorem d_A_fill3_2 : decode b_A_fill3 2 = .ok (.iload_n 1, 1) := by decide +kernel
theorem d_A_fill3_3 : decode b_A_fill3 3 = .ok (.iload_n 2, 1) := by decide +kernel
theorem d_A_fill3_4 : decode b_A_fill3 4 = .ok (.invokestatic 13, 3) := by decide +kernel
theorem d_A_fill3_7 : decode b_A_fill3 7 = .ok (.iload_n 1, 1) := by decide +kernel
theorem d_A_fill3_8 : decode b_A_fill3 8 = .ok (.istore 4, 2) := by decide +kernel
theorem d_A_fill3_10 : decode b_A_fill3 10 = .ok (.iload 4, 2) := by decide +kernel
theorem d_A_fill3_12 : decode b_A_fill3 12 = .ok (.iload_n 2, 1) := by decide +kernel
theorem d_A_fill3_13 : decode b_A_fill3 13 = .ok (.if_icmp .ge 14, 3) := by decide +kernel
theorem d_A_fill3_16 : decode b_A_fill3 16 = .ok (.aload_n 0, 1) := by decide +kernel
theorem d_A_fill3_17 : decode b_A_fill3 17 = .ok (.iload 4, 2) := by decide +kernel
theorem d_A_fill3_19 : decode b_A_fill3 19 = .ok (.iload_n 3, 1) := by decide +kernel
theorem d_A_fill3_20 : decode b_A_fill3 20 = .ok (.iastore, 1) := by decide +kernel
theorem d_A_fill3_21 : decode b_A_fill3 21 = .ok (.iinc 4 1, 3) := by decide +kernel
theorem d_A_fill3_24 : decode b_A_fill3 24 = .ok (.goto (-14), 3) := by decide +kernel
theorem d_A_fill3_27 : decode b_A_fill3 27 = .ok (.return_, 1) := by decide +kernel
theorem d_A_rangeCheck_0 : decode b_A_rangeCheck 0 = .ok (.iload_n 1, 1) := by decide +kernel
theorem d_A_rangeCheck_1 : decode b_A_rangeCheck 1 = .ok (.iload_n 2, 1) := by decide +kernel
theorem d_A_rangeCheck_2 : decode b_A_rangeCheck 2 = .ok (.if_icmp .le 44, 3) := by decide +kernel
theorem d_A_rangeCheck_5 : decode b_A_rangeCheck 5 = .ok (.new 43, 3) := by decide +kernel
theorem d_A_rangeCheck_8 : decode b_A_rangeCheck 8 = .ok (.dup, 1) := by decide +kernel
theorem d_A_rangeCheck_9 : decode b_A_rangeCheck 9 = .ok (.new 45, 3) := by decide +kernel
theorem d_A_rangeCheck_12 : decode b_A_rangeCheck 12 = .ok (.dup, 1) := by decide +kernel
theorem d_A_rangeCheck_13 : decode b_A_rangeCheck 13 = .ok (.invokespecial 47, 3) := by decide +kernel
theorem d_A_rangeCheck_16 : decode b_A_rangeCheck 16 = .ok (.ldc 48, 2) := by decide +kernel
theorem d_A_rangeCheck_18 : decode b_A_rangeCheck 18 = .ok (.invokevirtual 50, 3) := by decide +kernel
theorem d_A_rangeCheck_21 : decode b_A_rangeCheck 21 = .ok (.iload_n 1, 1) := by decide +kernel
theorem d_A_rangeCheck_22 : decode b_A_rangeCheck 22 = .ok (.invokevirtual 54, 3) := by decide +kernel
theorem d_A_rangeCheck_25 : decode b_A_rangeCheck 25 = .ok (.ldc 57, 2) := by decide +kernel
theorem d_A_rangeCheck_27 : decode b_A_rangeCheck 27 = .ok (.invokevirtual 50, 3) := by decide +kernel
theorem d_A_rangeCheck_30 : decode b_A_rangeCheck 30 = .ok (.iload_n 2, 1) := by decide +kernel
theorem d_A_rangeCheck_31 : decode b_A_rangeCheck 31 = .ok (.invokevirtual 54, 3) := by decide +kernel
theorem d_A_rangeCheck_34 : decode b_A_rangeCheck 34 = .ok (.ldc 59, 2) := by decide +kernel
theorem d_A_rangeCheck_36 : decode b_A_rangeCheck 36 = .ok (.invokevirtual 50, 3) := by decide +kernel
theorem d_A_rangeCheck_39 : decode b_A_rangeCheck 39 = .ok (.invokevirtual 61, 3) := by decide +kernel
theorem d_A_rangeCheck_42 : decode b_A_rangeCheck 42 = .ok (.invokespecial 65, 3) := by decide +kernel
theorem d_A_rangeCheck_45 : decode b_A_rangeCheck 45 = .ok (.athrow, 1) := by decide +kernel
theorem d_A_rangeCheck_46 : decode b_A_rangeCheck 46 = .ok (.iload_n 1, 1) := by decide +kernel
theorem d_A_rangeCheck_47 : decode b_A_rangeCheck 47 = .ok (.ifCond .ge 12, 3) := by decide +kernel
theorem d_A_rangeCheck_50 : decode b_A_rangeCheck 50 = .ok (.new 68, 3) := by decide +kernel
theorem d_A_rangeCheck_53 : decode b_A_rangeCheck 53 = .ok (.dup, 1) := by decide +kernel
theorem d_A_rangeCheck_54 : decode b_A_rangeCheck 54 = .ok (.iload_n 1, 1) := by decide +kernel
theorem d_A_rangeCheck_55 : decode b_A_rangeCheck 55 = .ok (.invokespecial 70, 3) := by decide +kernel
theorem d_A_rangeCheck_58 : decode b_A_rangeCheck 58 = .ok (.athrow, 1) := by decide +kernel
theorem d_A_rangeCheck_59 : decode b_A_rangeCheck 59 = .ok (.iload_n 2, 1) := by decide +kernel
theorem d_A_rangeCheck_60 : decode b_A_rangeCheck 60 = .ok (.iload_n 0, 1) := by decide +kernel
theorem d_A_rangeCheck_61 : decode b_A_rangeCheck 61 = .ok (.if_icmp .le 12, 3) := by decide +kernel
theorem d_A_rangeCheck_64 : decode b_A_rangeCheck 64 = .ok (.new 68, 3) := by decide +kernel
theorem d_A_rangeCheck_67 : decode b_A_rangeCheck 67 = .ok (.dup, 1) := by decide +kernel
theorem d_A_rangeCheck_68 : decode b_A_rangeCheck 68 = .ok (.iload_n 2, 1) := by decide +kernel
theorem d_A_rangeCheck_69 : decode b_A_rangeCheck 69 = .ok (.invokespecial 70, 3) := by decide +kernel
theorem d_A_rangeCheck_72 : decode b_A_rangeCheck 72 = .ok (.athrow, 1) := by decide +kernel
theorem d_A_rangeCheck_73 : decode b_A_rangeCheck 73 = .ok (.return_, 1) := by decide +kernel
theorem d_G_freeBlocksWithoutObjects_0 : decode b_G_freeBlocksWithoutObjects 0 = .ok (.iconst 0, 1) := by decide +kernel
theorem d_G_freeBlocksWithoutObjects_1 : decode b_G_freeBlocksWithoutObjects 1 = .ok (.istore_n 1, 1) := by decide +kernel
theorem d_G_freeBlocksWithoutObjects_2 : decode b_G_freeBlocksWithoutObjects 2 = .ok (.iload_n 1, 1) := by decide +kernel
theorem d_G_freeBlocksWithoutObjects_3 : decode b_G_freeBlocksWithoutObjects 3 = .ok (.bipush 16, 2) := by decide +kernel
theorem d_G_freeBlocksWithoutObjects_5 : decode b_G_freeBlocksWithoutObjects 5 = .ok (.if_icmp .ge 26, 3) := by decide +kernel
theorem d_G_freeBlocksWithoutObjects_8 : decode b_G_freeBlocksWithoutObjects 8 = .ok (.aload_n 0, 1) := by decide +kernel
theorem d_G_freeBlocksWithoutObjects_9 : decode b_G_freeBlocksWithoutObjects 9 = .ok (.iload_n 1, 1) := by decide +kernel
theorem d_G_freeBlocksWithoutObjects_10 : decode b_G_freeBlocksWithoutObjects 10 = .ok (.invokevirtual 105, 3) := by decide +kernel
theorem d_G_freeBlocksWithoutObjects_13 : decode b_G_freeBlocksWithoutObjects 13 = .ok (.bipush 32, 2) := by decide +kernel
theorem d_G_freeBlocksWithoutObjects_15 : decode b_G_freeBlocksWithoutObjects 15 = .ok (.if_icmp .ne 10, 3) := by decide +kernel
theorem d_G_freeBlocksWithoutObjects_18 : decode b_G_freeBlocksWithoutObjects 18 = .ok (.aload_n 0, 1) := by decide +kernel
theorem d_G_freeBlocksWithoutObjects_19 : decode b_G_freeBlocksWithoutObjects 19 = .ok (.getfield 13, 3) := by decide +kernel
theorem d_G_freeBlocksWithoutObjects_22 : decode b_G_freeBlocksWithoutObjects 22 = .ok (.iload_n 1, 1) := by decide +kernel
theorem d_G_freeBlocksWithoutObjects_23 : decode b_G_freeBlocksWithoutObjects 23 = .ok (.iconst 0, 1) := by decide +kernel
theorem d_G_freeBlocksWithoutObjects_24 : decode b_G_freeBlocksWithoutObjects 24 = .ok (.iastore, 1) := by decide +kernel
theorem d_G_freeBlocksWithoutObjects_25 : decode b_G_freeBlocksWithoutObjects 25 = .ok (.iinc 1 1, 3) := by decide +kernel
theorem d_G_freeBlocksWithoutObjects_28 : decode b_G_freeBlocksWithoutObjects 28 = .ok (.goto (-26), 3) := by decide +kernel
theorem d_G_freeBlocksWithoutObjects_31 : decode b_G_freeBlocksWithoutObjects 31 = .ok (.return_, 1) := by decide +kernel
theorem d_G_wordsInNoObject_0 : decode b_G_wordsInNoObject 0 = .ok (.iconst 0, 1) := by decide +kernel
theorem d_G_wordsInNoObject_1 : decode b_G_wordsInNoObject 1 = .ok (.istore_n 2, 1) := by decide +kernel
theorem d_G_wordsInNoObject_2 : decode b_G_wordsInNoObject 2 = .ok (.iconst 0, 1) := by decide +kernel
theorem d_G_wordsInNoObject_3 : decode b_G_wordsInNoObject 3 = .ok (.istore_n 3, 1) := by decide +kernel
theorem d_G_wordsInNoObject_4 : decode b_G_wordsInNoObject 4 = .ok (.iload_n 3, 1) := by decide +kernel
theorem d_G_wordsInNoObject_5 : decode b_G_wordsInNoObject 5 = .ok (.bipush 32, 2) := by decide +kernel
theorem d_G_wordsInNoObject_7 : decode b_G_wordsInNoObject 7 = .ok (.if_icmp .ge 27, 3) := by decide +kernel
theorem d_G_wordsInNoObject_10 : decode b_G_wordsInNoObject 10 = .ok (.aload_n 0, 1) := by decide +kernel
theorem d_G_wordsInNoObject_11 : decode b_G_wordsInNoObject 11 = .ok (.getfield 23, 3) := by decide +kernel
theorem d_G_wordsInNoObject_14 : decode b_G_wordsInNoObject 14 = .ok (.iload_n 1, 1) := by decide +kernel
theorem d_G_wordsInNoObject_15 : decode b_G_wordsInNoObject 15 = .ok (.bipush 32, 2) := by decide +kernel
theorem d_G_wordsInNoObject_17 : decode b_G_wordsInNoObject 17 = .ok (.imul, 1) := by decide +kernel
theorem d_G_wordsInNoObject_18 : decode b_G_wordsInNoObject 18 = .ok (.iload_n 3, 1) := by decide +kernel
theorem d_G_wordsInNoObject_19 : decode b_G_wordsInNoObject 19 = .ok (.iadd, 1) := by decide +kernel
theorem d_G_wordsInNoObject_20 : decode b_G_wordsInNoObject 20 = .ok (.iaload, 1) := by decide +kernel
theorem d_G_wordsInNoObject_21 : decode b_G_wordsInNoObject 21 = .ok (.iconst (-1), 1) := by decide +kernel
theorem d_G_wordsInNoObject_22 : decode b_G_wordsInNoObject 22 = .ok (.if_icmp .ne 6, 3) := by decide +kernel
theorem d_G_wordsInNoObject_25 : decode b_G_wordsInNoObject 25 = .ok (.iinc 2 1, 3) := by decide +kernel
theorem d_G_wordsInNoObject_28 : decode b_G_wordsInNoObject 28 = .ok (.iinc 3 1, 3) := by decide +kernel
theorem d_G_wordsInNoObject_31 : decode b_G_wordsInNoObject 31 = .ok (.goto (-27), 3) := by decide +kernel
theorem d_G_wordsInNoObject_34 : decode b_G_wordsInNoObject 34 = .ok (.iload_n 2, 1) := by decide +kernel
theorem d_G_wordsInNoObject_35 : decode b_G_wordsInNoObject 35 = .ok (.ireturn, 1) := by decide +kernel
theorem d_G_base_0 : decode b_G_base 0 = .ok (.aload_n 0, 1) := by decide +kernel
theorem d_G_base_1 : decode b_G_base 1 = .ok (.iload_n 1, 1) := by decide +kernel
theorem d_G_base_2 : decode b_G_base 2 = .ok (.invokevirtual 95, 3) := by decide +kernel
theorem d_G_base_5 : decode b_G_base 5 = .ok (.istore_n 2, 1) := by decide +kernel
theorem d_G_base_6 : decode b_G_base 6 = .ok (.iload_n 2, 1) := by decide +kernel
theorem d_G_base_7 : decode b_G_base 7 = .ok (.iconst (-1), 1) := by decide +kernel
theorem d_G_base_8 : decode b_G_base 8 = .ok (.if_icmp .ne 7, 3) := by decide +kernel
theorem d_G_base_11 : decode b_G_base 11 = .ok (.iconst (-1), 1) := by decide +kernel
theorem d_G_base_12 : decode b_G_base 12 = .ok (.goto 8, 3) := by decide +kernel
theorem d_G_base_15 : decode b_G_base 15 = .ok (.sipush 4096, 3) := by decide +kernel
theorem d_G_base_18 : decode b_G_base 18 = .ok (.iload_n 2, 1) := by decide +kernel
theorem d_G_base_19 : decode b_G_base 19 = .ok (.iadd, 1) := by decide +kernel
theorem d_G_base_20 : decode b_G_base 20 = .ok (.ireturn, 1) := by decide +kernel
theorem d_G_size_0 : decode b_G_size 0 = .ok (.aload_n 0, 1) := by decide +kernel
theorem d_G_size_1 : decode b_G_size 1 = .ok (.iload_n 1, 1) := by decide +kernel
theorem d_G_size_2 : decode b_G_size 2 = .ok (.invokevirtual 95, 3) := by decide +kernel
theorem d_G_size_5 : decode b_G_size 5 = .ok (.istore_n 2, 1) := by decide +kernel
theorem d_G_size_6 : decode b_G_size 6 = .ok (.iload_n 2, 1) := by decide +kernel
theorem d_G_size_7 : decode b_G_size 7 = .ok (.iconst (-1), 1) := by decide +kernel
theorem d_G_size_8 : decode b_G_size 8 = .ok (.if_icmp .ne 7, 3) := by decide +kernel
theorem d_G_size_11 : decode b_G_size 11 = .ok (.iconst 0, 1) := by decide +kernel
theorem d_G_size_12 : decode b_G_size 12 = .ok (.goto 9, 3) := by decide +kernel
theorem d_G_size_15 : decode b_G_size 15 = .ok (.aload_n 0, 1) := by decide +kernel
theorem d_G_size_16 : decode b_G_size 16 = .ok (.getfield 26, 3) := by decide +kernel
theorem d_G_size_19 : decode b_G_size 19 = .ok (.iload_n 2, 1) := by decide +kernel
theorem d_G_size_20 : decode b_G_size 20 = .ok (.iaload, 1) := by decide +kernel
theorem d_G_size_21 : decode b_G_size 21 = .ok (.ireturn, 1) := by decide +kernel
theorem d_G_silent_0 : decode b_G_silent 0 = .ok (.aload_n 0, 1) := by decide +kernel
theorem d_G_silent_1 : decode b_G_silent 1 = .ok (.iload_n 1, 1) := by decide +kernel
theorem d_G_silent_2 : decode b_G_silent 2 = .ok (.invokevirtual 95, 3) := by decide +kernel
theorem d_G_silent_5 : decode b_G_silent 5 = .ok (.istore_n 2, 1) := by decide +kernel
theorem d_G_silent_6 : decode b_G_silent 6 = .ok (.iload_n 2, 1) := by decide +kernel
theorem d_G_silent_7 : decode b_G_silent 7 = .ok (.iconst (-1), 1) := by decide +kernel
theorem d_G_silent_8 : decode b_G_silent 8 = .ok (.if_icmp .eq 16, 3) := by decide +kernel
theorem d_G_silent_11 : decode b_G_silent 11 = .ok (.aload_n 0, 1) := by decide +kernel
theorem d_G_silent_12 : decode b_G_silent 12 = .ok (.getfield 29, 3) := by decide +kernel
theorem d_G_silent_15 : decode b_G_silent 15 = .ok (.iload_n 2, 1) := by decide +kernel
theorem d_G_silent_16 : decode b_G_silent 16 = .ok (.baload, 1) := by decide +kernel
theorem d_G_silent_17 : decode b_G_silent 17 = .ok (.ifCond .eq 7, 3) := by decide +kernel
theorem d_G_silent_20 : decode b_G_silent 20 = .ok (.iconst 1, 1) := by decide +kernel
theorem d_G_silent_21 : decode b_G_silent 21 = .ok (.goto 4, 3) := by decide +kernel
theorem d_G_silent_24 : decode b_G_silent 24 = .ok (.iconst 0, 1) := by decide +kernel
theorem d_G_silent_25 : decode b_G_silent 25 = .ok (.ireturn, 1) := by decide +kernel
theorem d_G_block_0 : decode b_G_block 0 = .ok (.iload_n 1, 1) := by decide +kernel
theorem d_G_block_1 : decode b_G_block 1 = .ok (.invokestatic 98, 3) := by decide +kernel
theorem d_G_block_4 : decode b_G_block 4 = .ok (.ifCond .ne 5, 3) := by decide +kernel
theorem d_G_block_7 : decode b_G_block 7 = .ok (.iconst (-1), 1) := by decide +kernel
theorem d_G_block_8 : decode b_G_block 8 = .ok (.ireturn, 1) := by decide +kernel
theorem d_G_block_9 : decode b_G_block 9 = .ok (.aload_n 0, 1) := by decide +kernel
theorem d_G_block_10 : decode b_G_block 10 = .ok (.getfield 16, 3) := by decide +kernel
theorem d_G_block_13 : decode b_G_block 13 = .ok (.iload_n 1, 1) := by decide +kernel
theorem d_G_block_14 : decode b_G_block 14 = .ok (.baload, 1) := by decide +kernel
theorem d_G_block_15 : decode b_G_block 15 = .ok (.ifCond .eq 15, 3) := by decide +kernel
theorem d_G_block_18 : decode b_G_block 18 = .ok (.aload_n 0, 1) := by decide +kernel
theorem d_G_block_19 : decode b_G_block 19 = .ok (.getfield 13, 3) := by decide +kernel
theorem d_G_block_22 : decode b_G_block 22 = .ok (.iload_n 1, 1) := by decide +kernel
theorem d_G_block_23 : decode b_G_block 23 = .ok (.iaload, 1) := by decide +kernel
theorem d_G_block_24 : decode b_G_block 24 = .ok (.bipush 64, 2) := by decide +kernel
theorem d_G_block_26 : decode b_G_block 26 = .ok (.iadd, 1) := by decide +kernel
theorem d_G_block_27 : decode b_G_block 27 = .ok (.goto 9, 3) := by decide +kernel
theorem d_G_block_30 : decode b_G_block 30 = .ok (.aload_n 0, 1) := by decide +kernel
theorem d_G_block_31 : decode b_G_block 31 = .ok (.getfield 13, 3) := by decide +kernel
theorem d_G_block_34 : decode b_G_block 34 = .ok (.iload_n 1, 1) := by decide +kernel
theorem d_G_block_35 : decode b_G_block 35 = .ok (.iaload, 1) := by decide +kernel
theorem d_G_block_36 : decode b_G_block 36 = .ok (.ireturn, 1) := by decide +kernel
theorem d_G_isBlock_0 : decode b_G_isBlock 0 = .ok (.iload_n 0, 1) := by decide +kernel
theorem d_G_isBlock_1 : decode b_G_isBlock 1 = .ok (.ifCond .lt 13, 3) := by decide +kernel
theorem d_G_isBlock_4 : decode b_G_isBlock 4 = .ok (.iload_n 0, 1) := by decide +kernel
theorem d_G_isBlock_5 : decode b_G_isBlock 5 = .ok (.bipush 16, 2) := by decide +kernel
theorem d_G_isBlock_7 : decode b_G_isBlock 7 = .ok (.if_icmp .ge 7, 3) := by decide +kernel
theorem d_G_isBlock_10 : decode b_G_isBlock 10 = .ok (.iconst 1, 1) := by decide +kernel
theorem d_G_isBlock_11 : decode b_G_isBlock 11 = .ok (.goto 4, 3) := by decide +kernel
theorem d_G_isBlock_14 : decode b_G_isBlock 14 = .ok (.iconst 0, 1) := by decide +kernel
theorem d_G_isBlock_15 : decode b_G_isBlock 15 = .ok (.ireturn, 1) := by decide +kernel
theorem d_G_empty_0 : decode b_G_empty 0 = .ok (.iload_n 1, 1) := by decide +kernel
theorem d_G_empty_1 : decode b_G_empty 1 = .ok (.invokestatic 98, 3) := by decide +kernel
theorem d_G_empty_4 : decode b_G_empty 4 = .ok (.ifCond .eq 11, 3) := by decide +kernel
theorem d_G_empty_7 : decode b_G_empty 7 = .ok (.aload_n 0, 1) := by decide +kernel
theorem d_G_empty_8 : decode b_G_empty 8 = .ok (.iload_n 1, 1) := by decide +kernel
theorem d_G_empty_9 : decode b_G_empty 9 = .ok (.invokevirtual 102, 3) := by decide +kernel
theorem d_G_empty_12 : decode b_G_empty 12 = .ok (.ifCond .ne 5, 3) := by decide +kernel
theorem d_G_empty_15 : decode b_G_empty 15 = .ok (.iconst 0, 1) := by decide +kernel
theorem d_G_empty_16 : decode b_G_empty 16 = .ok (.ireturn, 1) := by decide +kernel
theorem d_G_empty_17 : decode b_G_empty 17 = .ok (.aload_n 0, 1) := by decide +kernel
theorem d_G_empty_18 : decode b_G_empty 18 = .ok (.iload_n 1, 1) := by decide +kernel
theorem d_G_empty_19 : decode b_G_empty 19 = .ok (.invokevirtual 105, 3) := by decide +kernel
theorem d_G_empty_22 : decode b_G_empty 22 = .ok (.aload_n 0, 1) := by decide +kernel
theorem d_G_empty_23 : decode b_G_empty 23 = .ok (.getfield 13, 3) := by decide +kernel
theorem d_G_empty_26 : decode b_G_empty 26 = .ok (.iload_n 1, 1) := by decide +kernel
theorem d_G_empty_27 : decode b_G_empty 27 = .ok (.iaload, 1) := by decide +kernel
theorem d_G_empty_28 : decode b_G_empty 28 = .ok (.idiv, 1) := by decide +kernel
theorem d_G_empty_29 : decode b_G_empty 29 = .ok (.ireturn, 1) := by decide +kernel
theorem d_G_isSplit_0 : decode b_G_isSplit 0 = .ok (.aload_n 0, 1) := by decide +kernel
theorem d_G_isSplit_1 : decode b_G_isSplit 1 = .ok (.getfield 13, 3) := by decide +kernel
theorem d_G_isSplit_4 : decode b_G_isSplit 4 = .ok (.iload_n 1, 1) := by decide +kernel
theorem d_G_isSplit_5 : decode b_G_isSplit 5 = .ok (.iaload, 1) := by decide +kernel
theorem d_G_isSplit_6 : decode b_G_isSplit 6 = .ok (.iconst 2, 1) := by decide +kernel
theorem d_G_isSplit_7 : decode b_G_isSplit 7 = .ok (.if_icmp .lt 18, 3) := by decide +kernel
theorem d_G_isSplit_10 : decode b_G_isSplit 10 = .ok (.aload_n 0, 1) := by decide +kernel
theorem d_G_isSplit_11 : decode b_G_isSplit 11 = .ok (.getfield 13, 3) := by decide +kernel
theorem d_G_isSplit_14 : decode b_G_isSplit 14 = .ok (.iload_n 1, 1) := by decide +kernel
theorem d_G_isSplit_15 : decode b_G_isSplit 15 = .ok (.iaload, 1) := by decide +kernel
theorem d_G_isSplit_16 : decode b_G_isSplit 16 = .ok (.bipush 16, 2) := by decide +kernel
theorem d_G_isSplit_18 : decode b_G_isSplit 18 = .ok (.if_icmp .gt 7, 3) := by decide +kernel
theorem d_G_isSplit_21 : decode b_G_isSplit 21 = .ok (.iconst 1, 1) := by decide +kernel
theorem d_G_isSplit_22 : decode b_G_isSplit 22 = .ok (.goto 4, 3) := by decide +kernel
theorem d_G_isSplit_25 : decode b_G_isSplit 25 = .ok (.iconst 0, 1) := by decide +kernel
theorem d_G_isSplit_26 : decode b_G_isSplit 26 = .ok (.ireturn, 1) := by decide +kernel
theorem d_G_objects_0 : decode b_G_objects 0 = .ok (.aload_n 0, 1) := by decide +kernel
theorem d_G_objects_1 : decode b_G_objects 1 = .ok (.getfield 42, 3) := by decide +kernel
theorem d_G_objects_4 : decode b_G_objects 4 = .ok (.ireturn, 1) := by decide +kernel
theorem d_G_collections_0 : decode b_G_collections 0 = .ok (.aload_n 0, 1) := by decide +kernel
theorem d_G_collections_1 : decode b_G_collections 1 = .ok (.getfield 45, 3) := by decide +kernel
theorem d_G_collections_4 : decode b_G_collections 4 = .ok (.ireturn, 1) := by decide +kernel
theorem d_G_allocate_0 : decode b_G_allocate 0 = .ok (.iload_n 1, 1) := by decide +kernel
theorem d_G_allocate_1 : decode b_G_allocate 1 = .ok (.iconst 1, 1) := by decide +kernel
theorem d_G_allocate_2 : decode b_G_allocate 2 = .ok (.if_icmp .lt 10, 3) := by decide +kernel
theorem d_G_allocate_5 : decode b_G_allocate 5 = .ok (.iload_n 1, 1) := by decide +kernel
theorem d_G_allocate_6 : decode b_G_allocate 6 = .ok (.sipush 128, 3) := by decide +kernel
theorem d_G_allocate_9 : decode b_G_allocate 9 = .ok (.if_icmp .le 13, 3) := by decide +kernel
theorem d_G_allocate_12 : decode b_G_allocate 12 = .ok (.new 54, 3) := by decide +kernel
theorem d_G_allocate_15 : decode b_G_allocate 15 = .ok (.dup, 1) := by decide +kernel
theorem d_G_allocate_16 : decode b_G_allocate 16 = .ok (.ldc 56, 2) := by decide +kernel
theorem d_G_allocate_18 : decode b_G_allocate 18 = .ok (.invokespecial 58, 3) := by decide +kernel
theorem d_G_allocate_21 : decode b_G_allocate 21 = .ok (.athrow, 1) := by decide +kernel
theorem d_G_allocate_22 : decode b_G_allocate 22 = .ok (.aload_n 0, 1) := by decide +kernel
theorem d_G_allocate_23 : decode b_G_allocate 23 = .ok (.iload_n 1, 1) := by decide +kernel
theorem d_G_allocate_24 : decode b_G_allocate 24 = .ok (.iconst 0, 1) := by decide +kernel
theorem d_G_allocate_25 : decode b_G_allocate 25 = .ok (.invokevirtual 61, 3) := by decide +kernel
theorem d_G_allocate_28 : decode b_G_allocate 28 = .ok (.istore_n 3, 1) := by decide +kernel
theorem d_G_allocate_29 : decode b_G_allocate 29 = .ok (.iload_n 3, 1) := by decide +kernel
theorem d_G_allocate_30 : decode b_G_allocate 30 = .ok (.iconst (-1), 1) := by decide +kernel
theorem d_G_allocate_31 : decode b_G_allocate 31 = .ok (.if_icmp .ne 15, 3) := by decide +kernel
theorem d_G_allocate_34 : decode b_G_allocate 34 = .ok (.aload_n 0, 1) := by decide +kernel
theorem d_G_allocate_35 : decode b_G_allocate 35 = .ok (.invokevirtual 65, 3) := by decide +kernel
theorem d_G_allocate_38 : decode b_G_allocate 38 = .ok (.pop, 1) := by decide +kernel
theorem d_G_allocate_39 : decode b_G_allocate 39 = .ok (.aload_n 0, 1) := by decide +kernel
theorem d_G_allocate_40 : decode b_G_allocate 40 = .ok (.iload_n 1, 1) := by decide +kernel
theorem d_G_allocate_41 : decode b_G_allocate 41 = .ok (.iconst 0, 1) := by decide +kernel
theorem d_G_allocate_42 : decode b_G_allocate 42 = .ok (.invokevirtual 61, 3) := by decide +kernel
theorem d_G_allocate_45 : decode b_G_allocate 45 = .ok (.istore_n 3, 1) := by decide +kernel
theorem d_G_allocate_46 : decode b_G_allocate 46 = .ok (.iload_n 3, 1) := by decide +kernel
theorem d_G_allocate_47 : decode b_G_allocate 47 = .ok (.iconst (-1), 1) := by decide +kernel
theorem d_G_allocate_48 : decode b_G_allocate 48 = .ok (.if_icmp .ne 10, 3) := by decide +kernel
theorem d_G_allocate_51 : decode b_G_allocate 51 = .ok (.aload_n 0, 1) := by decide +kernel
theorem d_G_allocate_52 : decode b_G_allocate 52 = .ok (.iload_n 1, 1) := by decide +kernel
theorem d_G_allocate_53 : decode b_G_allocate 53 = .ok (.iconst 1, 1) := by decide +kernel
theorem d_G_allocate_54 : decode b_G_allocate 54 = .ok (.invokevirtual 61, 3) := by decide +kernel
theorem d_G_allocate_57 : decode b_G_allocate 57 = .ok (.istore_n 3, 1) := by decide +kernel
theorem d_G_allocate_58 : decode b_G_allocate 58 = .ok (.iload_n 3, 1) := by decide +kernel
theorem d_G_allocate_59 : decode b_G_allocate 59 = .ok (.iconst (-1), 1) := by decide +kernel
theorem d_G_allocate_60 : decode b_G_allocate 60 = .ok (.if_icmp .ne 13, 3) := by decide +kernel
theorem d_G_allocate_63 : decode b_G_allocate 63 = .ok (.new 69, 3) := by decide +kernel
theorem d_G_allocate_66 : decode b_G_allocate 66 = .ok (.dup, 1) := by decide +kernel
theorem d_G_allocate_67 : decode b_G_allocate 67 = .ok (.ldc 71, 2) := by decide +kernel
theorem d_G_allocate_69 : decode b_G_allocate 69 = .ok (.invokespecial 73, 3) := by decide +kernel
theorem d_G_allocate_72 : decode b_G_allocate 72 = .ok (.athrow, 1) := by decide +kernel
theorem d_G_allocate_73 : decode b_G_allocate 73 = .ok (.iload_n 1, 1) := by decide +kernel
theorem d_G_allocate_74 : decode b_G_allocate 74 = .ok (.bipush 16, 2) := by decide +kernel
theorem d_G_allocate_76 : decode b_G_allocate 76 = .ok (.if_icmp .gt 16, 3) := by decide +kernel
theorem d_G_allocate_79 : decode b_G_allocate 79 = .ok (.aload_n 0, 1) := by decide +kernel
theorem d_G_allocate_80 : decode b_G_allocate 80 = .ok (.iload_n 3, 1) := by decide +kernel
theorem d_G_allocate_81 : decode b_G_allocate 81 = .ok (.iload_n 1, 1) := by decide +kernel
theorem d_G_allocate_82 : decode b_G_allocate 82 = .ok (.invokestatic 74, 3) := by decide +kernel
theorem d_G_allocate_85 : decode b_G_allocate 85 = .ok (.iload_n 2, 1) := by decide +kernel
theorem d_G_allocate_86 : decode b_G_allocate 86 = .ok (.invokevirtual 78, 3) := by decide +kernel
theorem d_G_allocate_89 : decode b_G_allocate 89 = .ok (.goto 13, 3) := by decide +kernel
theorem d_G_allocate_92 : decode b_G_allocate 92 = .ok (.aload_n 0, 1) := by decide +kernel
theorem d_G_allocate_93 : decode b_G_allocate 93 = .ok (.iload_n 3, 1) := by decide +kernel
theorem d_G_allocate_94 : decode b_G_allocate 94 = .ok (.iload_n 1, 1) := by decide +kernel
theorem d_G_allocate_95 : decode b_G_allocate 95 = .ok (.invokestatic 82, 3) := by decide +kernel
theorem d_G_allocate_98 : decode b_G_allocate 98 = .ok (.iload_n 2, 1) := by decide +kernel
theorem d_G_allocate_99 : decode b_G_allocate 99 = .ok (.invokevirtual 85, 3) := by decide +kernel
theorem d_G_allocate_102 : decode b_G_allocate 102 = .ok (.sipush 4096, 3) := by decide +kernel
theorem d_G_allocate_105 : decode b_G_allocate 105 = .ok (.iload_n 3, 1) := by decide +kernel
theorem d_G_allocate_106 : decode b_G_allocate 106 = .ok (.iadd, 1) := by decide +kernel
theorem d_G_allocate_107 : decode b_G_allocate 107 = .ok (.ireturn, 1) := by decide +kernel
theorem d_G_findRoom_0 : decode b_G_findRoom 0 = .ok (.iload_n 1, 1) := by decide +kernel
theorem d_G_findRoom_1 : decode b_G_findRoom 1 = .ok (.bipush 16, 2) := by decide +kernel
theorem d_G_findRoom_3 : decode b_G_findRoom 3 = .ok (.if_icmp .le 13, 3) := by decide +kernel
theorem d_G_findRoom_6 : decode b_G_findRoom 6 = .ok (.aload_n 0, 1) := by decide +kernel
theorem d_G_findRoom_7 : decode b_G_findRoom 7 = .ok (.iload_n 1, 1) := by decide +kernel
theorem d_G_findRoom_8 : decode b_G_findRoom 8 = .ok (.invokestatic 82, 3) := by decide +kernel
theorem d_G_findRoom_11 : decode b_G_findRoom 11 = .ok (.iload_n 2, 1) := by decide +kernel
theorem d_G_findRoom_12 : decode b_G_findRoom 12 = .ok (.invokevirtual 120, 3) := by decide +kernel
theorem d_G_findRoom_15 : decode b_G_findRoom 15 = .ok (.ireturn, 1) := by decide +kernel
theorem d_G_findRoom_16 : decode b_G_findRoom 16 = .ok (.aload_n 0, 1) := by decide +kernel
theorem d_G_findRoom_17 : decode b_G_findRoom 17 = .ok (.iload_n 1, 1) := by decide +kernel
theorem d_G_findRoom_18 : decode b_G_findRoom 18 = .ok (.invokestatic 74, 3) := by decide +kernel
theorem d_G_findRoom_21 : decode b_G_findRoom 21 = .ok (.invokevirtual 123, 3) := by decide +kernel
theorem d_G_findRoom_24 : decode b_G_findRoom 24 = .ok (.istore_n 3, 1) := by decide +kernel
theorem d_G_findRoom_25 : decode b_G_findRoom 25 = .ok (.iload_n 3, 1) := by decide +kernel
theorem d_G_findRoom_26 : decode b_G_findRoom 26 = .ok (.iconst (-1), 1) := by decide +kernel
theorem d_G_findRoom_27 : decode b_G_findRoom 27 = .ok (.if_icmp .eq 7, 3) := by decide +kernel
theorem d_G_findRoom_30 : decode b_G_findRoom 30 = .ok (.iload_n 3, 1) := by decide +kernel
theorem d_G_findRoom_31 : decode b_G_findRoom 31 = .ok (.goto 9, 3) := by decide +kernel
theorem d_G_findRoom_34 : decode b_G_findRoom 34 = .ok (.aload_n 0, 1) := by decide +kernel
theorem d_G_findRoom_35 : decode b_G_findRoom 35 = .ok (.iconst 1, 1) := by decide +kernel
theorem d_G_findRoom_36 : decode b_G_findRoom 36 = .ok (.iload_n 2, 1) := by decide +kernel
theorem d_G_findRoom_37 : decode b_G_findRoom 37 = .ok (.invokevirtual 120, 3) := by decide +kernel
theorem d_G_findRoom_40 : decode b_G_findRoom 40 = .ok (.ireturn, 1) := by decide +kernel
theorem d_G_blocksFor_0 : decode b_G_blocksFor 0 = .ok (.iload_n 0, 1) := by decide +kernel
theorem d_G_blocksFor_1 : decode b_G_blocksFor 1 = .ok (.bipush 32, 2) := by decide +kernel
theorem d_G_blocksFor_3 : decode b_G_blocksFor 3 = .ok (.iadd, 1) := by decide +kernel
theorem d_G_blocksFor_4 : decode b_G_blocksFor 4 = .ok (.iconst 1, 1) := by decide +kernel
theorem d_G_blocksFor_5 : decode b_G_blocksFor 5 = .ok (.isub, 1) := by decide +kernel
theorem d_G_blocksFor_6 : decode b_G_blocksFor 6 = .ok (.bipush 32, 2) := by decide +kernel
theorem d_G_blocksFor_8 : decode b_G_blocksFor 8 = .ok (.idiv, 1) := by decide +kernel
theorem d_G_blocksFor_9 : decode b_G_blocksFor 9 = .ok (.ireturn, 1) := by decide +kernel
theorem d_G_findBlocks_0 : decode b_G_findBlocks 0 = .ok (.iconst 0, 1) := by decide +kernel
theorem d_G_findBlocks_1 : decode b_G_findBlocks 1 = .ok (.istore_n 3, 1) := by decide +kernel
theorem d_G_findBlocks_2 : decode b_G_findBlocks 2 = .ok (.iconst 0, 1) := by decide +kernel
theorem d_G_findBlocks_3 : decode b_G_findBlocks 3 = .ok (.istore 4, 2) := by decide +kernel
theorem d_G_findBlocks_5 : decode b_G_findBlocks 5 = .ok (.iload 4, 2) := by decide +kernel
theorem d_G_findBlocks_7 : decode b_G_findBlocks 7 = .ok (.bipush 16, 2) := by decide +kernel
theorem d_G_findBlocks_9 : decode b_G_findBlocks 9 = .ok (.if_icmp .ge 68, 3) := by decide +kernel
theorem d_G_findBlocks_12 : decode b_G_findBlocks 12 = .ok (.aload_n 0, 1) := by decide +kernel
theorem d_G_findBlocks_13 : decode b_G_findBlocks 13 = .ok (.getfield 13, 3) := by decide +kernel
theorem d_G_findBlocks_16 : decode b_G_findBlocks 16 = .ok (.iload 4, 2) := by decide +kernel
theorem d_G_findBlocks_18 : decode b_G_findBlocks 18 = .ok (.iaload, 1) := by decide +kernel
theorem d_G_findBlocks_19 : decode b_G_findBlocks 19 = .ok (.ifCond .ne 21, 3) := by decide +kernel
theorem d_G_findBlocks_22 : decode b_G_findBlocks 22 = .ok (.iload_n 2, 1) := by decide +kernel
theorem d_G_findBlocks_23 : decode b_G_findBlocks 23 = .ok (.ifCond .ne 13, 3) := by decide +kernel
theorem d_G_findBlocks_26 : decode b_G_findBlocks 26 = .ok (.aload_n 0, 1) := by decide +kernel
theorem d_G_findBlocks_27 : decode b_G_findBlocks 27 = .ok (.getfield 16, 3) := by decide +kernel
theorem d_G_findBlocks_30 : decode b_G_findBlocks 30 = .ok (.iload 4, 2) := by decide +kernel
theorem d_G_findBlocks_32 : decode b_G_findBlocks 32 = .ok (.baload, 1) := by decide +kernel
theorem d_G_findBlocks_33 : decode b_G_findBlocks 33 = .ok (.ifCond .ne 7, 3) := by decide +kernel
theorem d_G_findBlocks_36 : decode b_G_findBlocks 36 = .ok (.iconst 1, 1) := by decide +kernel
theorem d_G_findBlocks_37 : decode b_G_findBlocks 37 = .ok (.goto 4, 3) := by decide +kernel
theorem d_G_findBlocks_40 : decode b_G_findBlocks 40 = .ok (.iconst 0, 1) := by decide +kernel
theorem d_G_findBlocks_41 : decode b_G_findBlocks 41 = .ok (.istore 5, 2) := by decide +kernel
theorem d_G_findBlocks_43 : decode b_G_findBlocks 43 = .ok (.iload 5, 2) := by decide +kernel
theorem d_G_findBlocks_45 : decode b_G_findBlocks 45 = .ok (.ifCond .eq 9, 3) := by decide +kernel
theorem d_G_findBlocks_48 : decode b_G_findBlocks 48 = .ok (.iload_n 3, 1) := by decide +kernel
theorem d_G_findBlocks_49 : decode b_G_findBlocks 49 = .ok (.iconst 1, 1) := by decide +kernel
theorem d_G_findBlocks_50 : decode b_G_findBlocks 50 = .ok (.iadd, 1) := by decide +kernel
theorem d_G_findBlocks_51 : decode b_G_findBlocks 51 = .ok (.goto 4, 3) := by decide +kernel
theorem d_G_findBlocks_54 : decode b_G_findBlocks 54 = .ok (.iconst 0, 1) := by decide +kernel
theorem d_G_findBlocks_55 : decode b_G_findBlocks 55 = .ok (.istore_n 3, 1) := by decide +kernel
theorem d_G_findBlocks_56 : decode b_G_findBlocks 56 = .ok (.iload_n 3, 1) := by decide +kernel
theorem d_G_findBlocks_57 : decode b_G_findBlocks 57 = .ok (.iload_n 1, 1) := by decide +kernel
theorem d_G_findBlocks_58 : decode b_G_findBlocks 58 = .ok (.if_icmp .ne 13, 3) := by decide +kernel
theorem d_G_findBlocks_61 : decode b_G_findBlocks 61 = .ok (.iload 4, 2) := by decide +kernel
theorem d_G_findBlocks_63 : decode b_G_findBlocks 63 = .ok (.iload_n 1, 1) := by decide +kernel
theorem d_G_findBlocks_64 : decode b_G_findBlocks 64 = .ok (.isub, 1) := by decide +kernel
theorem d_G_findBlocks_65 : decode b_G_findBlocks 65 = .ok (.iconst 1, 1) := by decide +kernel
theorem d_G_findBlocks_66 : decode b_G_findBlocks 66 = .ok (.iadd, 1) := by decide +kernel
theorem d_G_findBlocks_67 : decode b_G_findBlocks 67 = .ok (.bipush 32, 2) := by decide +kernel
theorem d_G_findBlocks_69 : decode b_G_findBlocks 69 = .ok (.imul, 1) := by decide +kernel
theorem d_G_findBlocks_70 : decode b_G_findBlocks 70 = .ok (.ireturn, 1) := by decide +kernel
theorem d_G_findBlocks_71 : decode b_G_findBlocks 71 = .ok (.iinc 4 1, 3) := by decide +kernel
theorem d_G_findBlocks_74 : decode b_G_findBlocks 74 = .ok (.goto (-69), 3) := by decide +kernel
theorem d_G_findBlocks_77 : decode b_G_findBlocks 77 = .ok (.iconst (-1), 1) := by decide +kernel
theorem d_G_findBlocks_78 : decode b_G_findBlocks 78 = .ok (.ireturn, 1) := by decide +kernel
theorem d_G_slotSize_0 : decode b_G_slotSize 0 = .ok (.iconst 2, 1) := by decide +kernel
theorem d_G_slotSize_1 : decode b_G_slotSize 1 = .ok (.istore_n 1, 1) := by decide +kernel
theorem d_G_slotSize_2 : decode b_G_slotSize 2 = .ok (.iload_n 1, 1) := by decide +kernel
theorem d_G_slotSize_3 : decode b_G_slotSize 3 = .ok (.bipush 16, 2) := by decide +kernel
theorem d_G_slotSize_5 : decode b_G_slotSize 5 = .ok (.if_icmp .ge 17, 3) := by decide +kernel
theorem d_G_slotSize_8 : decode b_G_slotSize 8 = .ok (.iload_n 1, 1) := by decide +kernel
theorem d_G_slotSize_9 : decode b_G_slotSize 9 = .ok (.iload_n 0, 1) := by decide +kernel
theorem d_G_slotSize_10 : decode b_G_slotSize 10 = .ok (.if_icmp .lt 5, 3) := by decide +kernel
theorem d_G_slotSize_13 : decode b_G_slotSize 13 = .ok (.iload_n 1, 1) := by decide +kernel
theorem d_G_slotSize_14 : decode b_G_slotSize 14 = .ok (.ireturn, 1) := by decide +kernel
theorem d_G_slotSize_15 : decode b_G_slotSize 15 = .ok (.iload_n 1, 1) := by decide +kernel
theorem d_G_slotSize_16 : decode b_G_slotSize 16 = .ok (.iconst 2, 1) := by decide +kernel
theorem d_G_slotSize_17 : decode b_G_slotSize 17 = .ok (.imul, 1) := by decide +kernel
theorem d_G_slotSize_18 : decode b_G_slotSize 18 = .ok (.istore_n 1, 1) := by decide +kernel
theorem d_G_slotSize_19 : decode b_G_slotSize 19 = .ok (.goto (-17), 3) := by decide +kernel
theorem d_G_slotSize_22 : decode b_G_slotSize 22 = .ok (.bipush 16, 2) := by decide +kernel
theorem d_G_slotSize_24 : decode b_G_slotSize 24 = .ok (.ireturn, 1) := by decide +kernel
theorem d_G_findEmptySlot_0 : decode b_G_findEmptySlot 0 = .ok (.iconst 0, 1) := by decide +kernel
theorem d_G_findEmptySlot_1 : decode b_G_findEmptySlot 1 = .ok (.istore_n 2, 1) := by decide +kernel
theorem d_G_findEmptySlot_2 : decode b_G_findEmptySlot 2 = .ok (.iload_n 2, 1) := by decide +kernel
theorem d_G_findEmptySlot_3 : decode b_G_findEmptySlot 3 = .ok (.sipush 512, 3) := by decide +kernel
theorem d_G_findEmptySlot_6 : decode b_G_findEmptySlot 6 = .ok (.if_icmp .ge 34, 3) := by decide +kernel
theorem d_G_findEmptySlot_9 : decode b_G_findEmptySlot 9 = .ok (.aload_n 0, 1) := by decide +kernel
theorem d_G_findEmptySlot_10 : decode b_G_findEmptySlot 10 = .ok (.getfield 13, 3) := by decide +kernel
theorem d_G_findEmptySlot_13 : decode b_G_findEmptySlot 13 = .ok (.iload_n 2, 1) := by decide +kernel
theorem d_G_findEmptySlot_14 : decode b_G_findEmptySlot 14 = .ok (.bipush 32, 2) := by decide +kernel
theorem d_G_findEmptySlot_16 : decode b_G_findEmptySlot 16 = .ok (.idiv, 1) := by decide +kernel
theorem d_G_findEmptySlot_17 : decode b_G_findEmptySlot 17 = .ok (.iaload, 1) := by decide +kernel
theorem d_G_findEmptySlot_18 : decode b_G_findEmptySlot 18 = .ok (.iload_n 1, 1) := by decide +kernel
theorem d_G_findEmptySlot_19 : decode b_G_findEmptySlot 19 = .ok (.if_icmp .ne 15, 3) := by decide +kernel
theorem d_G_findEmptySlot_22 : decode b_G_findEmptySlot 22 = .ok (.aload_n 0, 1) := by decide +kernel
theorem d_G_findEmptySlot_23 : decode b_G_findEmptySlot 23 = .ok (.getfield 23, 3) := by decide +kernel
theorem d_G_findEmptySlot_26 : decode b_G_findEmptySlot 26 = .ok (.iload_n 2, 1) := by decide +kernel
theorem d_G_findEmptySlot_27 : decode b_G_findEmptySlot 27 = .ok (.iaload, 1) := by decide +kernel
theorem d_G_findEmptySlot_28 : decode b_G_findEmptySlot 28 = .ok (.iconst (-1), 1) := by decide +kernel
theorem d_G_findEmptySlot_29 : decode b_G_findEmptySlot 29 = .ok (.if_icmp .ne 5, 3) := by decide +kernel
theorem d_G_findEmptySlot_32 : decode b_G_findEmptySlot 32 = .ok (.iload_n 2, 1) := by decide +kernel
theorem d_G_findEmptySlot_33 : decode b_G_findEmptySlot 33 = .ok (.ireturn, 1) := by decide +kernel
theorem d_G_findEmptySlot_34 : decode b_G_findEmptySlot 34 = .ok (.iinc 2 1, 3) := by decide +kernel
theorem d_G_findEmptySlot_37 : decode b_G_findEmptySlot 37 = .ok (.goto (-35), 3) := by decide +kernel
theorem d_G_findEmptySlot_40 : decode b_G_findEmptySlot 40 = .ok (.iconst (-1), 1) := by decide +kernel
theorem d_G_findEmptySlot_41 : decode b_G_findEmptySlot 41 = .ok (.ireturn, 1) := by decide +kernel
theorem d_G_placeSmall_0 : decode b_G_placeSmall 0 = .ok (.aload_n 0, 1) := by decide +kernel
theorem d_G_placeSmall_1 : decode b_G_placeSmall 1 = .ok (.iload_n 1, 1) := by decide +kernel
theorem d_G_placeSmall_2 : decode b_G_placeSmall 2 = .ok (.bipush 32, 2) := by decide +kernel
theorem d_G_placeSmall_4 : decode b_G_placeSmall 4 = .ok (.idiv, 1) := by decide +kernel
theorem d_G_placeSmall_5 : decode b_G_placeSmall 5 = .ok (.iload_n 2, 1) := by decide +kernel
theorem d_G_placeSmall_6 : decode b_G_placeSmall 6 = .ok (.invokevirtual 126, 3) := by decide +kernel
theorem d_G_placeSmall_9 : decode b_G_placeSmall 9 = .ok (.aload_n 0, 1) := by decide +kernel
theorem d_G_placeSmall_10 : decode b_G_placeSmall 10 = .ok (.iload_n 1, 1) := by decide +kernel
theorem d_G_placeSmall_11 : decode b_G_placeSmall 11 = .ok (.iload_n 2, 1) := by decide +kernel
theorem d_G_placeSmall_12 : decode b_G_placeSmall 12 = .ok (.iload_n 3, 1) := by decide +kernel
theorem d_G_placeSmall_13 : decode b_G_placeSmall 13 = .ok (.invokevirtual 130, 3) := by decide +kernel
theorem d_G_placeSmall_16 : decode b_G_placeSmall 16 = .ok (.return_, 1) := by decide +kernel
theorem d_G_takeBlock_0 : decode b_G_takeBlock 0 = .ok (.aload_n 0, 1) := by decide +kernel
theorem d_G_takeBlock_1 : decode b_G_takeBlock 1 = .ok (.getfield 13, 3) := by decide +kernel
theorem d_G_takeBlock_4 : decode b_G_takeBlock 4 = .ok (.iload_n 1, 1) := by decide +kernel
theorem d_G_takeBlock_5 : decode b_G_takeBlock 5 = .ok (.iload_n 2, 1) := by decide +kernel
theorem d_G_takeBlock_6 : decode b_G_takeBlock 6 = .ok (.iastore, 1) := by decide +kernel
theorem d_G_takeBlock_7 : decode b_G_takeBlock 7 = .ok (.aload_n 0, 1) := by decide +kernel
theorem d_G_takeBlock_8 : decode b_G_takeBlock 8 = .ok (.getfield 16, 3) := by decide +kernel
theorem d_G_takeBlock_11 : decode b_G_takeBlock 11 = .ok (.iload_n 1, 1) := by decide +kernel
theorem d_G_takeBlock_12 : decode b_G_takeBlock 12 = .ok (.iconst 0, 1) := by decide +kernel
theorem d_G_takeBlock_13 : decode b_G_takeBlock 13 = .ok (.bastore, 1) := by decide +kernel
theorem d_G_takeBlock_14 : decode b_G_takeBlock 14 = .ok (.return_, 1) := by decide +kernel
theorem d_G_placeObject_0 : decode b_G_placeObject 0 = .ok (.aload_n 0, 1) := by decide +kernel
theorem d_G_placeObject_1 : decode b_G_placeObject 1 = .ok (.getfield 23, 3) := by decide +kernel
theorem d_G_placeObject_4 : decode b_G_placeObject 4 = .ok (.iload_n 1, 1) := by decide +kernel
theorem d_G_placeObject_5 : decode b_G_placeObject 5 = .ok (.iload_n 1, 1) := by decide +kernel
theorem d_G_placeObject_6 : decode b_G_placeObject 6 = .ok (.iload_n 2, 1) := by decide +kernel
theorem d_G_placeObject_7 : decode b_G_placeObject 7 = .ok (.iadd, 1) := by decide +kernel
theorem d_G_placeObject_8 : decode b_G_placeObject 8 = .ok (.iload_n 1, 1) := by decide +kernel
theorem d_G_placeObject_9 : decode b_G_placeObject 9 = .ok (.invokestatic 133, 3) := by decide +kernel
theorem d_G_placeObject_12 : decode b_G_placeObject 12 = .ok (.aload_n 0, 1) := by decide +kernel
theorem d_G_placeObject_13 : decode b_G_placeObject 13 = .ok (.getfield 26, 3) := by decide +kernel
theorem d_G_placeObject_16 : decode b_G_placeObject 16 = .ok (.iload_n 1, 1) := by decide +kernel
theorem d_G_placeObject_17 : decode b_G_placeObject 17 = .ok (.iload_n 2, 1) := by decide +kernel
theorem d_G_placeObject_18 : decode b_G_placeObject 18 = .ok (.iastore, 1) := by decide +kernel
theorem d_G_placeObject_19 : decode b_G_placeObject 19 = .ok (.aload_n 0, 1) := by decide +kernel
theorem d_G_placeObject_20 : decode b_G_placeObject 20 = .ok (.getfield 29, 3) := by decide +kernel
theorem d_G_placeObject_23 : decode b_G_placeObject 23 = .ok (.iload_n 1, 1) := by decide +kernel
theorem d_G_placeObject_24 : decode b_G_placeObject 24 = .ok (.iload_n 3, 1) := by decide +kernel
theorem d_G_placeObject_25 : decode b_G_placeObject 25 = .ok (.bastore, 1) := by decide +kernel
theorem d_G_placeObject_26 : decode b_G_placeObject 26 = .ok (.aload_n 0, 1) := by decide +kernel
theorem d_G_placeObject_27 : decode b_G_placeObject 27 = .ok (.dup, 1) := by decide +kernel
theorem d_G_placeObject_28 : decode b_G_placeObject 28 = .ok (.getfield 42, 3) := by decide +kernel
theorem d_G_placeObject_31 : decode b_G_placeObject 31 = .ok (.iconst 1, 1) := by decide +kernel
theorem d_G_placeObject_32 : decode b_G_placeObject 32 = .ok (.iadd, 1) := by decide +kernel
theorem d_G_placeObject_33 : decode b_G_placeObject 33 = .ok (.putfield 42, 3) := by decide +kernel
theorem d_G_placeObject_36 : decode b_G_placeObject 36 = .ok (.return_, 1) := by decide +kernel
theorem d_G_placeLarge_0 : decode b_G_placeLarge 0 = .ok (.iload_n 1, 1) := by decide +kernel
theorem d_G_placeLarge_1 : decode b_G_placeLarge 1 = .ok (.bipush 32, 2) := by decide +kernel
theorem d_G_placeLarge_3 : decode b_G_placeLarge 3 = .ok (.idiv, 1) := by decide +kernel
theorem d_G_placeLarge_4 : decode b_G_placeLarge 4 = .ok (.istore 4, 2) := by decide +kernel
theorem d_G_placeLarge_6 : decode b_G_placeLarge 6 = .ok (.aload_n 0, 1) := by decide +kernel
theorem d_G_placeLarge_7 : decode b_G_placeLarge 7 = .ok (.iload 4, 2) := by decide +kernel
theorem d_G_placeLarge_9 : decode b_G_placeLarge 9 = .ok (.bipush 32, 2) := by decide +kernel
theorem d_G_placeLarge_11 : decode b_G_placeLarge 11 = .ok (.invokevirtual 126, 3) := by decide +kernel
theorem d_G_placeLarge_14 : decode b_G_placeLarge 14 = .ok (.iload 4, 2) := by decide +kernel
theorem d_G_placeLarge_16 : decode b_G_placeLarge 16 = .ok (.iconst 1, 1) := by decide +kernel
theorem d_G_placeLarge_17 : decode b_G_placeLarge 17 = .ok (.iadd, 1) := by decide +kernel
theorem d_G_placeLarge_18 : decode b_G_placeLarge 18 = .ok (.istore 5, 2) := by decide +kernel
theorem d_G_placeLarge_20 : decode b_G_placeLarge 20 = .ok (.iload 5, 2) := by decide +kernel
theorem d_G_placeLarge_22 : decode b_G_placeLarge 22 = .ok (.iload 4, 2) := by decide +kernel
theorem d_G_placeLarge_24 : decode b_G_placeLarge 24 = .ok (.iload_n 2, 1) := by decide +kernel
theorem d_G_placeLarge_25 : decode b_G_placeLarge 25 = .ok (.iadd, 1) := by decide +kernel
theorem d_G_placeLarge_26 : decode b_G_placeLarge 26 = .ok (.if_icmp .ge 17, 3) := by decide +kernel
theorem d_G_placeLarge_29 : decode b_G_placeLarge 29 = .ok (.aload_n 0, 1) := by decide +kernel
theorem d_G_placeLarge_30 : decode b_G_placeLarge 30 = .ok (.iload 5, 2) := by decide +kernel
theorem d_G_placeLarge_32 : decode b_G_placeLarge 32 = .ok (.bipush 33, 2) := by decide +kernel
theorem d_G_placeLarge_34 : decode b_G_placeLarge 34 = .ok (.invokevirtual 126, 3) := by decide +kernel
theorem d_G_placeLarge_37 : decode b_G_placeLarge 37 = .ok (.iinc 5 1, 3) := by decide +kernel
theorem d_G_placeLarge_40 : decode b_G_placeLarge 40 = .ok (.goto (-20), 3) := by decide +kernel
theorem d_G_placeLarge_43 : decode b_G_placeLarge 43 = .ok (.aload_n 0, 1) := by decide +kernel
theorem d_G_placeLarge_44 : decode b_G_placeLarge 44 = .ok (.iload_n 1, 1) := by decide +kernel
theorem d_G_placeLarge_45 : decode b_G_placeLarge 45 = .ok (.iload_n 2, 1) := by decide +kernel
theorem d_G_placeLarge_46 : decode b_G_placeLarge 46 = .ok (.bipush 32, 2) := by decide +kernel
theorem d_G_placeLarge_48 : decode b_G_placeLarge 48 = .ok (.imul, 1) := by decide +kernel
theorem d_G_placeLarge_49 : decode b_G_placeLarge 49 = .ok (.iload_n 3, 1) := by decide +kernel
theorem d_G_placeLarge_50 : decode b_G_placeLarge 50 = .ok (.invokevirtual 130, 3) := by decide +kernel
theorem d_G_placeLarge_53 : decode b_G_placeLarge 53 = .ok (.return_, 1) := by decide +kernel
theorem d_G_root_0 : decode b_G_root 0 = .ok (.iload_n 1, 1) := by decide +kernel
theorem d_G_root_1 : decode b_G_root 1 = .ok (.invokestatic 88, 3) := by decide +kernel
theorem d_G_root_4 : decode b_G_root 4 = .ok (.aload_n 0, 1) := by decide +kernel
theorem d_G_root_5 : decode b_G_root 5 = .ok (.getfield 9, 3) := by decide +kernel
theorem d_G_root_8 : decode b_G_root 8 = .ok (.iload_n 1, 1) := by decide +kernel
theorem d_G_root_9 : decode b_G_root 9 = .ok (.iload_n 2, 1) := by decide +kernel
theorem d_G_root_10 : decode b_G_root 10 = .ok (.iastore, 1) := by decide +kernel
theorem d_G_root_11 : decode b_G_root 11 = .ok (.return_, 1) := by decide +kernel
theorem d_G_checkRoot_0 : decode b_G_checkRoot 0 = .ok (.iload_n 0, 1) := by decide +kernel
theorem d_G_checkRoot_1 : decode b_G_checkRoot 1 = .ok (.ifCond .lt 9, 3) := by decide +kernel
theorem d_G_checkRoot_4 : decode b_G_checkRoot 4 = .ok (.iload_n 0, 1) := by decide +kernel
theorem d_G_checkRoot_5 : decode b_G_checkRoot 5 = .ok (.bipush 8, 2) := by decide +kernel
theorem d_G_checkRoot_7 : decode b_G_checkRoot 7 = .ok (.if_icmp .lt 13, 3) := by decide +kernel
theorem d_G_checkRoot_10 : decode b_G_checkRoot 10 = .ok (.new 108, 3) := by decide +kernel
theorem d_G_checkRoot_13 : decode b_G_checkRoot 13 = .ok (.dup, 1) := by decide +kernel
theorem d_G_checkRoot_14 : decode b_G_checkRoot 14 = .ok (.ldc 110, 2) := by decide +kernel
theorem d_G_checkRoot_16 : decode b_G_checkRoot 16 = .ok (.invokespecial 112, 3) := by decide +kernel
theorem d_G_checkRoot_19 : decode b_G_checkRoot 19 = .ok (.athrow, 1) := by decide +kernel
theorem d_G_checkRoot_20 : decode b_G_checkRoot 20 = .ok (.return_, 1) := by decide +kernel
theorem d_G_rooted_0 : decode b_G_rooted 0 = .ok (.iload_n 1, 1) := by decide +kernel
theorem d_G_rooted_1 : decode b_G_rooted 1 = .ok (.invokestatic 88, 3) := by decide +kernel
theorem d_G_rooted_4 : decode b_G_rooted 4 = .ok (.aload_n 0, 1) := by decide +kernel
theorem d_G_rooted_5 : decode b_G_rooted 5 = .ok (.getfield 9, 3) := by decide +kernel
theorem d_G_rooted_8 : decode b_G_rooted 8 = .ok (.iload_n 1, 1) := by decide +kernel
theorem d_G_rooted_9 : decode b_G_rooted 9 = .ok (.iaload, 1) := by decide +kernel
theorem d_G_rooted_10 : decode b_G_rooted 10 = .ok (.ireturn, 1) := by decide +kernel
theorem d_G_read_0 : decode b_G_read 0 = .ok (.aload_n 0, 1) := by decide +kernel
theorem d_G_read_1 : decode b_G_read 1 = .ok (.iload_n 1, 1) := by decide +kernel
theorem d_G_read_2 : decode b_G_read 2 = .ok (.invokevirtual 92, 3) := by decide +kernel
theorem d_G_read_5 : decode b_G_read 5 = .ok (.aload_n 0, 1) := by decide +kernel
theorem d_G_read_6 : decode b_G_read 6 = .ok (.getfield 20, 3) := by decide +kernel
theorem d_G_read_9 : decode b_G_read 9 = .ok (.iload_n 1, 1) := by decide +kernel
theorem d_G_read_10 : decode b_G_read 10 = .ok (.sipush 4096, 3) := by decide +kernel
theorem d_G_read_13 : decode b_G_read 13 = .ok (.isub, 1) := by decide +kernel
theorem d_G_read_14 : decode b_G_read 14 = .ok (.iaload, 1) := by decide +kernel
theorem d_G_read_15 : decode b_G_read 15 = .ok (.ireturn, 1) := by decide +kernel
theorem d_G_checkInObject_0 : decode b_G_checkInObject 0 = .ok (.iload_n 1, 1) := by decide +kernel
theorem d_G_checkInObject_1 : decode b_G_checkInObject 1 = .ok (.invokestatic 113, 3) := by decide +kernel
theorem d_G_checkInObject_4 : decode b_G_checkInObject 4 = .ok (.ifCond .ne 13, 3) := by decide +kernel
theorem d_G_checkInObject_7 : decode b_G_checkInObject 7 = .ok (.new 108, 3) := by decide +kernel
theorem d_G_checkInObject_10 : decode b_G_checkInObject 10 = .ok (.dup, 1) := by decide +kernel
theorem d_G_checkInObject_11 : decode b_G_checkInObject 11 = .ok (.ldc 116, 2) := by decide +kernel
theorem d_G_checkInObject_13 : decode b_G_checkInObject 13 = .ok (.invokespecial 112, 3) := by decide +kernel
theorem d_G_checkInObject_16 : decode b_G_checkInObject 16 = .ok (.athrow, 1) := by decide +kernel
theorem d_G_checkInObject_17 : decode b_G_checkInObject 17 = .ok (.aload_n 0, 1) := by decide +kernel
theorem d_G_checkInObject_18 : decode b_G_checkInObject 18 = .ok (.iload_n 1, 1) := by decide +kernel
theorem d_G_checkInObject_19 : decode b_G_checkInObject 19 = .ok (.invokevirtual 95, 3) := by decide +kernel
theorem d_G_checkInObject_22 : decode b_G_checkInObject 22 = .ok (.iconst (-1), 1) := by decide +kernel
theorem d_G_checkInObject_23 : decode b_G_checkInObject 23 = .ok (.if_icmp .ne 13, 3) := by decide +kernel
theorem d_G_checkInObject_26 : decode b_G_checkInObject 26 = .ok (.new 69, 3) := by decide +kernel
theorem d_G_checkInObject_29 : decode b_G_checkInObject 29 = .ok (.dup, 1) := by decide +kernel
theorem d_G_checkInObject_30 : decode b_G_checkInObject 30 = .ok (.ldc 118, 2) := by decide +kernel
theorem d_G_checkInObject_32 : decode b_G_checkInObject 32 = .ok (.invokespecial 73, 3) := by decide +kernel
theorem d_G_checkInObject_35 : decode b_G_checkInObject 35 = .ok (.athrow, 1) := by decide +kernel
theorem d_G_checkInObject_36 : decode b_G_checkInObject 36 = .ok (.return_, 1) := by decide +kernel
theorem d_G_write_0 : decode b_G_write 0 = .ok (.aload_n 0, 1) := by decide +kernel
theorem d_G_write_1 : decode b_G_write 1 = .ok (.iload_n 1, 1) := by decide +kernel
theorem d_G_write_2 : decode b_G_write 2 = .ok (.invokevirtual 92, 3) := by decide +kernel
theorem d_G_write_5 : decode b_G_write 5 = .ok (.aload_n 0, 1) := by decide +kernel
theorem d_G_write_6 : decode b_G_write 6 = .ok (.getfield 20, 3) := by decide +kernel
theorem d_G_write_9 : decode b_G_write 9 = .ok (.iload_n 1, 1) := by decide +kernel
theorem d_G_write_10 : decode b_G_write 10 = .ok (.sipush 4096, 3) := by decide +kernel
theorem d_G_write_13 : decode b_G_write 13 = .ok (.isub, 1) := by decide +kernel
theorem d_G_write_14 : decode b_G_write 14 = .ok (.iaload, 1) := by decide +kernel
theorem d_G_write_15 : decode b_G_write 15 = .ok (.istore_n 3, 1) := by decide +kernel
theorem d_G_write_16 : decode b_G_write 16 = .ok (.aload_n 0, 1) := by decide +kernel
theorem d_G_write_17 : decode b_G_write 17 = .ok (.getfield 20, 3) := by decide +kernel
theorem d_G_write_20 : decode b_G_write 20 = .ok (.iload_n 1, 1) := by decide +kernel
theorem d_G_write_21 : decode b_G_write 21 = .ok (.sipush 4096, 3) := by decide +kernel
theorem d_G_write_24 : decode b_G_write 24 = .ok (.isub, 1) := by decide +kernel
theorem d_G_write_25 : decode b_G_write 25 = .ok (.iload_n 2, 1) := by decide +kernel
theorem d_G_write_26 : decode b_G_write 26 = .ok (.iastore, 1) := by decide +kernel
theorem d_G_write_27 : decode b_G_write 27 = .ok (.iload_n 3, 1) := by decide +kernel
theorem d_G_write_28 : decode b_G_write 28 = .ok (.ireturn, 1) := by decide +kernel

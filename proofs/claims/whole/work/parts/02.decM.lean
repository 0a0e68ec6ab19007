/-! the instructions, by a program -/
theorem d_M_init_0 : decode b_M_init 0 = .ok (.aload_n 0, 1) := by decide +kernel
theorem d_M_init_1 : decode b_M_init 1 = .ok (.invokespecial 1, 3) := by decide +kernel
theorem d_M_init_4 : decode b_M_init 4 = .ok (.aload_n 0, 1) := by decide +kernel
theorem d_M_init_5 : decode b_M_init 5 = .ok (.bipush 8, 2) := by decide +kernel
theorem d_M_init_7 : decode b_M_init 7 = .ok (.newarray .int, 2) := by decide +kernel
theorem d_M_init_9 : decode b_M_init 9 = .ok (.putfield 7, 3) := by decide +kernel
theorem d_M_init_12 : decode b_M_init 12 = .ok (.aload_n 0, 1) := by decide +kernel
theorem d_M_init_13 : decode b_M_init 13 = .ok (.sipush 512, 3) := by decide +kernel
theorem d_M_init_16 : decode b_M_init 16 = .ok (.newarray .int, 2) := by decide +kernel
theorem d_M_init_18 : decode b_M_init 18 = .ok (.putfield 13, 3) := by decide +kernel
theorem d_M_init_21 : decode b_M_init 21 = .ok (.aload_n 0, 1) := by decide +kernel
theorem d_M_init_22 : decode b_M_init 22 = .ok (.sipush 512, 3) := by decide +kernel
theorem d_M_init_25 : decode b_M_init 25 = .ok (.newarray .int, 2) := by decide +kernel
theorem d_M_init_27 : decode b_M_init 27 = .ok (.putfield 16, 3) := by decide +kernel
theorem d_M_init_30 : decode b_M_init 30 = .ok (.aload_n 0, 1) := by decide +kernel
theorem d_M_init_31 : decode b_M_init 31 = .ok (.sipush 512, 3) := by decide +kernel
theorem d_M_init_34 : decode b_M_init 34 = .ok (.newarray .int, 2) := by decide +kernel
theorem d_M_init_36 : decode b_M_init 36 = .ok (.putfield 19, 3) := by decide +kernel
theorem d_M_init_39 : decode b_M_init 39 = .ok (.aload_n 0, 1) := by decide +kernel
theorem d_M_init_40 : decode b_M_init 40 = .ok (.sipush 512, 3) := by decide +kernel
theorem d_M_init_43 : decode b_M_init 43 = .ok (.newarray .boolean, 2) := by decide +kernel
theorem d_M_init_45 : decode b_M_init 45 = .ok (.putfield 22, 3) := by decide +kernel
theorem d_M_init_48 : decode b_M_init 48 = .ok (.aload_n 0, 1) := by decide +kernel
theorem d_M_init_49 : decode b_M_init 49 = .ok (.sipush 512, 3) := by decide +kernel
theorem d_M_init_52 : decode b_M_init 52 = .ok (.newarray .boolean, 2) := by decide +kernel
theorem d_M_init_54 : decode b_M_init 54 = .ok (.putfield 26, 3) := by decide +kernel
theorem d_M_init_57 : decode b_M_init 57 = .ok (.aload_n 0, 1) := by decide +kernel
theorem d_M_init_58 : decode b_M_init 58 = .ok (.bipush 16, 2) := by decide +kernel
theorem d_M_init_60 : decode b_M_init 60 = .ok (.newarray .int, 2) := by decide +kernel
theorem d_M_init_62 : decode b_M_init 62 = .ok (.putfield 29, 3) := by decide +kernel
theorem d_M_init_65 : decode b_M_init 65 = .ok (.aload_n 0, 1) := by decide +kernel
theorem d_M_init_66 : decode b_M_init 66 = .ok (.bipush 16, 2) := by decide +kernel
theorem d_M_init_68 : decode b_M_init 68 = .ok (.newarray .boolean, 2) := by decide +kernel
theorem d_M_init_70 : decode b_M_init 70 = .ok (.putfield 32, 3) := by decide +kernel
theorem d_M_init_73 : decode b_M_init 73 = .ok (.return_, 1) := by decide +kernel
theorem d_M_thrown_0 : decode b_M_thrown 0 = .ok (.aload_n 0, 1) := by decide +kernel
theorem d_M_thrown_1 : decode b_M_thrown 1 = .ok (.getfield 35, 3) := by decide +kernel
theorem d_M_thrown_4 : decode b_M_thrown 4 = .ok (.ireturn, 1) := by decide +kernel
theorem d_M_allocate_0 : decode b_M_allocate 0 = .ok (.aload_n 0, 1) := by decide +kernel
theorem d_M_allocate_1 : decode b_M_allocate 1 = .ok (.iload_n 1, 1) := by decide +kernel
theorem d_M_allocate_2 : decode b_M_allocate 2 = .ok (.iconst 1, 1) := by decide +kernel
theorem d_M_allocate_3 : decode b_M_allocate 3 = .ok (.if_icmp .lt 10, 3) := by decide +kernel
theorem d_M_allocate_6 : decode b_M_allocate 6 = .ok (.iload_n 1, 1) := by decide +kernel
theorem d_M_allocate_7 : decode b_M_allocate 7 = .ok (.sipush 128, 3) := by decide +kernel
theorem d_M_allocate_10 : decode b_M_allocate 10 = .ok (.if_icmp .le 7, 3) := by decide +kernel
theorem d_M_allocate_13 : decode b_M_allocate 13 = .ok (.iconst 1, 1) := by decide +kernel
theorem d_M_allocate_14 : decode b_M_allocate 14 = .ok (.goto 4, 3) := by decide +kernel
theorem d_M_allocate_17 : decode b_M_allocate 17 = .ok (.iconst 0, 1) := by decide +kernel
theorem d_M_allocate_18 : decode b_M_allocate 18 = .ok (.putfield 35, 3) := by decide +kernel
theorem d_M_allocate_21 : decode b_M_allocate 21 = .ok (.aload_n 0, 1) := by decide +kernel
theorem d_M_allocate_22 : decode b_M_allocate 22 = .ok (.getfield 35, 3) := by decide +kernel
theorem d_M_allocate_25 : decode b_M_allocate 25 = .ok (.ifCond .le 5, 3) := by decide +kernel
theorem d_M_allocate_28 : decode b_M_allocate 28 = .ok (.iconst 0, 1) := by decide +kernel
theorem d_M_allocate_29 : decode b_M_allocate 29 = .ok (.ireturn, 1) := by decide +kernel
theorem d_M_allocate_30 : decode b_M_allocate 30 = .ok (.aload_n 0, 1) := by decide +kernel
theorem d_M_allocate_31 : decode b_M_allocate 31 = .ok (.iload_n 1, 1) := by decide +kernel
theorem d_M_allocate_32 : decode b_M_allocate 32 = .ok (.iconst 0, 1) := by decide +kernel
theorem d_M_allocate_33 : decode b_M_allocate 33 = .ok (.invokevirtual 81, 3) := by decide +kernel
theorem d_M_allocate_36 : decode b_M_allocate 36 = .ok (.istore_n 3, 1) := by decide +kernel
theorem d_M_allocate_37 : decode b_M_allocate 37 = .ok (.iload_n 3, 1) := by decide +kernel
theorem d_M_allocate_38 : decode b_M_allocate 38 = .ok (.ifCond .ge 29, 3) := by decide +kernel
theorem d_M_allocate_41 : decode b_M_allocate 41 = .ok (.aload_n 0, 1) := by decide +kernel
theorem d_M_allocate_42 : decode b_M_allocate 42 = .ok (.invokevirtual 84, 3) := by decide +kernel
theorem d_M_allocate_45 : decode b_M_allocate 45 = .ok (.aload_n 0, 1) := by decide +kernel
theorem d_M_allocate_46 : decode b_M_allocate 46 = .ok (.iload_n 1, 1) := by decide +kernel
theorem d_M_allocate_47 : decode b_M_allocate 47 = .ok (.iconst 0, 1) := by decide +kernel
theorem d_M_allocate_48 : decode b_M_allocate 48 = .ok (.invokevirtual 81, 3) := by decide +kernel
theorem d_M_allocate_51 : decode b_M_allocate 51 = .ok (.istore_n 3, 1) := by decide +kernel
theorem d_M_allocate_52 : decode b_M_allocate 52 = .ok (.iload_n 3, 1) := by decide +kernel
theorem d_M_allocate_53 : decode b_M_allocate 53 = .ok (.ifCond .ge 12, 3) := by decide +kernel
theorem d_M_allocate_56 : decode b_M_allocate 56 = .ok (.aload_n 0, 1) := by decide +kernel
theorem d_M_allocate_57 : decode b_M_allocate 57 = .ok (.iload_n 1, 1) := by decide +kernel
theorem d_M_allocate_58 : decode b_M_allocate 58 = .ok (.iconst 1, 1) := by decide +kernel
theorem d_M_allocate_59 : decode b_M_allocate 59 = .ok (.invokevirtual 81, 3) := by decide +kernel
theorem d_M_allocate_62 : decode b_M_allocate 62 = .ok (.goto 4, 3) := by decide +kernel
theorem d_M_allocate_65 : decode b_M_allocate 65 = .ok (.iload_n 3, 1) := by decide +kernel
theorem d_M_allocate_66 : decode b_M_allocate 66 = .ok (.istore_n 3, 1) := by decide +kernel
theorem d_M_allocate_67 : decode b_M_allocate 67 = .ok (.iload_n 3, 1) := by decide +kernel
theorem d_M_allocate_68 : decode b_M_allocate 68 = .ok (.ifCond .ge 10, 3) := by decide +kernel
theorem d_M_allocate_71 : decode b_M_allocate 71 = .ok (.aload_n 0, 1) := by decide +kernel
theorem d_M_allocate_72 : decode b_M_allocate 72 = .ok (.iconst 2, 1) := by decide +kernel
theorem d_M_allocate_73 : decode b_M_allocate 73 = .ok (.putfield 35, 3) := by decide +kernel
theorem d_M_allocate_76 : decode b_M_allocate 76 = .ok (.iconst 0, 1) := by decide +kernel
theorem d_M_allocate_77 : decode b_M_allocate 77 = .ok (.ireturn, 1) := by decide +kernel
theorem d_M_allocate_78 : decode b_M_allocate 78 = .ok (.aload_n 0, 1) := by decide +kernel
theorem d_M_allocate_79 : decode b_M_allocate 79 = .ok (.iload_n 3, 1) := by decide +kernel
theorem d_M_allocate_80 : decode b_M_allocate 80 = .ok (.iload_n 1, 1) := by decide +kernel
theorem d_M_allocate_81 : decode b_M_allocate 81 = .ok (.iload_n 2, 1) := by decide +kernel
theorem d_M_allocate_82 : decode b_M_allocate 82 = .ok (.invokevirtual 87, 3) := by decide +kernel
theorem d_M_allocate_85 : decode b_M_allocate 85 = .ok (.sipush 4096, 3) := by decide +kernel
theorem d_M_allocate_88 : decode b_M_allocate 88 = .ok (.iload_n 3, 1) := by decide +kernel
theorem d_M_allocate_89 : decode b_M_allocate 89 = .ok (.iadd, 1) := by decide +kernel
theorem d_M_allocate_90 : decode b_M_allocate 90 = .ok (.ireturn, 1) := by decide +kernel
theorem d_M_room_0 : decode b_M_room 0 = .ok (.iload_n 1, 1) := by decide +kernel
theorem d_M_room_1 : decode b_M_room 1 = .ok (.bipush 16, 2) := by decide +kernel
theorem d_M_room_3 : decode b_M_room 3 = .ok (.if_icmp .gt 15, 3) := by decide +kernel
theorem d_M_room_6 : decode b_M_room 6 = .ok (.aload_n 0, 1) := by decide +kernel
theorem d_M_room_7 : decode b_M_room 7 = .ok (.iload_n 1, 1) := by decide +kernel
theorem d_M_room_8 : decode b_M_room 8 = .ok (.invokestatic 71, 3) := by decide +kernel
theorem d_M_room_11 : decode b_M_room 11 = .ok (.iload_n 2, 1) := by decide +kernel
theorem d_M_room_12 : decode b_M_room 12 = .ok (.invokevirtual 74, 3) := by decide +kernel
theorem d_M_room_15 : decode b_M_room 15 = .ok (.goto 15, 3) := by decide +kernel
theorem d_M_room_18 : decode b_M_room 18 = .ok (.aload_n 0, 1) := by decide +kernel
theorem d_M_room_19 : decode b_M_room 19 = .ok (.iload_n 1, 1) := by decide +kernel
theorem d_M_room_20 : decode b_M_room 20 = .ok (.bipush 31, 2) := by decide +kernel
theorem d_M_room_22 : decode b_M_room 22 = .ok (.iadd, 1) := by decide +kernel
theorem d_M_room_23 : decode b_M_room 23 = .ok (.bipush 32, 2) := by decide +kernel
theorem d_M_room_25 : decode b_M_room 25 = .ok (.idiv, 1) := by decide +kernel
theorem d_M_room_26 : decode b_M_room 26 = .ok (.iload_n 2, 1) := by decide +kernel
theorem d_M_room_27 : decode b_M_room 27 = .ok (.invokevirtual 78, 3) := by decide +kernel
theorem d_M_room_30 : decode b_M_room 30 = .ok (.ireturn, 1) := by decide +kernel
theorem d_M_sizeFor_0 : decode b_M_sizeFor 0 = .ok (.iload_n 0, 1) := by decide +kernel
theorem d_M_sizeFor_1 : decode b_M_sizeFor 1 = .ok (.iconst 2, 1) := by decide +kernel
theorem d_M_sizeFor_2 : decode b_M_sizeFor 2 = .ok (.if_icmp .gt 7, 3) := by decide +kernel
theorem d_M_sizeFor_5 : decode b_M_sizeFor 5 = .ok (.iconst 2, 1) := by decide +kernel
theorem d_M_sizeFor_6 : decode b_M_sizeFor 6 = .ok (.goto 25, 3) := by decide +kernel
theorem d_M_sizeFor_9 : decode b_M_sizeFor 9 = .ok (.iload_n 0, 1) := by decide +kernel
theorem d_M_sizeFor_10 : decode b_M_sizeFor 10 = .ok (.iconst 4, 1) := by decide +kernel
theorem d_M_sizeFor_11 : decode b_M_sizeFor 11 = .ok (.if_icmp .gt 7, 3) := by decide +kernel
theorem d_M_sizeFor_14 : decode b_M_sizeFor 14 = .ok (.iconst 4, 1) := by decide +kernel
theorem d_M_sizeFor_15 : decode b_M_sizeFor 15 = .ok (.goto 16, 3) := by decide +kernel
theorem d_M_sizeFor_18 : decode b_M_sizeFor 18 = .ok (.iload_n 0, 1) := by decide +kernel
theorem d_M_sizeFor_19 : decode b_M_sizeFor 19 = .ok (.bipush 8, 2) := by decide +kernel
theorem d_M_sizeFor_21 : decode b_M_sizeFor 21 = .ok (.if_icmp .gt 8, 3) := by decide +kernel
theorem d_M_sizeFor_24 : decode b_M_sizeFor 24 = .ok (.bipush 8, 2) := by decide +kernel
theorem d_M_sizeFor_26 : decode b_M_sizeFor 26 = .ok (.goto 5, 3) := by decide +kernel
theorem d_M_sizeFor_29 : decode b_M_sizeFor 29 = .ok (.bipush 16, 2) := by decide +kernel
theorem d_M_sizeFor_31 : decode b_M_sizeFor 31 = .ok (.ireturn, 1) := by decide +kernel
theorem d_M_smallRoom_0 : decode b_M_smallRoom 0 = .ok (.iconst 0, 1) := by decide +kernel
theorem d_M_smallRoom_1 : decode b_M_smallRoom 1 = .ok (.istore_n 3, 1) := by decide +kernel
theorem d_M_smallRoom_2 : decode b_M_smallRoom 2 = .ok (.iload_n 3, 1) := by decide +kernel
theorem d_M_smallRoom_3 : decode b_M_smallRoom 3 = .ok (.sipush 512, 3) := by decide +kernel
theorem d_M_smallRoom_6 : decode b_M_smallRoom 6 = .ok (.if_icmp .ge 39, 3) := by decide +kernel
theorem d_M_smallRoom_9 : decode b_M_smallRoom 9 = .ok (.aload_n 0, 1) := by decide +kernel
theorem d_M_smallRoom_10 : decode b_M_smallRoom 10 = .ok (.getfield 29, 3) := by decide +kernel
theorem d_M_smallRoom_13 : decode b_M_smallRoom 13 = .ok (.iload_n 3, 1) := by decide +kernel
theorem d_M_smallRoom_14 : decode b_M_smallRoom 14 = .ok (.bipush 32, 2) := by decide +kernel
theorem d_M_smallRoom_16 : decode b_M_smallRoom 16 = .ok (.idiv, 1) := by decide +kernel
theorem d_M_smallRoom_17 : decode b_M_smallRoom 17 = .ok (.iaload, 1) := by decide +kernel
theorem d_M_smallRoom_18 : decode b_M_smallRoom 18 = .ok (.iload_n 1, 1) := by decide +kernel
theorem d_M_smallRoom_19 : decode b_M_smallRoom 19 = .ok (.if_icmp .ne 20, 3) := by decide +kernel
theorem d_M_smallRoom_22 : decode b_M_smallRoom 22 = .ok (.iload_n 3, 1) := by decide +kernel
theorem d_M_smallRoom_23 : decode b_M_smallRoom 23 = .ok (.iload_n 1, 1) := by decide +kernel
theorem d_M_smallRoom_24 : decode b_M_smallRoom 24 = .ok (.irem, 1) := by decide +kernel
theorem d_M_smallRoom_25 : decode b_M_smallRoom 25 = .ok (.ifCond .ne 14, 3) := by decide +kernel
theorem d_M_smallRoom_28 : decode b_M_smallRoom 28 = .ok (.aload_n 0, 1) := by decide +kernel
theorem d_M_smallRoom_29 : decode b_M_smallRoom 29 = .ok (.getfield 16, 3) := by decide +kernel
theorem d_M_smallRoom_32 : decode b_M_smallRoom 32 = .ok (.iload_n 3, 1) := by decide +kernel
theorem d_M_smallRoom_33 : decode b_M_smallRoom 33 = .ok (.iaload, 1) := by decide +kernel
theorem d_M_smallRoom_34 : decode b_M_smallRoom 34 = .ok (.ifCond .ne 5, 3) := by decide +kernel
theorem d_M_smallRoom_37 : decode b_M_smallRoom 37 = .ok (.iload_n 3, 1) := by decide +kernel
theorem d_M_smallRoom_38 : decode b_M_smallRoom 38 = .ok (.ireturn, 1) := by decide +kernel
theorem d_M_smallRoom_39 : decode b_M_smallRoom 39 = .ok (.iinc 3 2, 3) := by decide +kernel
theorem d_M_smallRoom_42 : decode b_M_smallRoom 42 = .ok (.goto (-40), 3) := by decide +kernel
theorem d_M_smallRoom_45 : decode b_M_smallRoom 45 = .ok (.iconst 0, 1) := by decide +kernel
theorem d_M_smallRoom_46 : decode b_M_smallRoom 46 = .ok (.istore_n 3, 1) := by decide +kernel
theorem d_M_smallRoom_47 : decode b_M_smallRoom 47 = .ok (.iload_n 3, 1) := by decide +kernel
theorem d_M_smallRoom_48 : decode b_M_smallRoom 48 = .ok (.bipush 16, 2) := by decide +kernel
theorem d_M_smallRoom_50 : decode b_M_smallRoom 50 = .ok (.if_icmp .ge 23, 3) := by decide +kernel
theorem d_M_smallRoom_53 : decode b_M_smallRoom 53 = .ok (.aload_n 0, 1) := by decide +kernel
theorem d_M_smallRoom_54 : decode b_M_smallRoom 54 = .ok (.iload_n 3, 1) := by decide +kernel
theorem d_M_smallRoom_55 : decode b_M_smallRoom 55 = .ok (.iload_n 2, 1) := by decide +kernel
theorem d_M_smallRoom_56 : decode b_M_smallRoom 56 = .ok (.invokevirtual 67, 3) := by decide +kernel
theorem d_M_smallRoom_59 : decode b_M_smallRoom 59 = .ok (.ifCond .eq 8, 3) := by decide +kernel
theorem d_M_smallRoom_62 : decode b_M_smallRoom 62 = .ok (.bipush 32, 2) := by decide +kernel
theorem d_M_smallRoom_64 : decode b_M_smallRoom 64 = .ok (.iload_n 3, 1) := by decide +kernel
theorem d_M_smallRoom_65 : decode b_M_smallRoom 65 = .ok (.imul, 1) := by decide +kernel
theorem d_M_smallRoom_66 : decode b_M_smallRoom 66 = .ok (.ireturn, 1) := by decide +kernel
theorem d_M_smallRoom_67 : decode b_M_smallRoom 67 = .ok (.iinc 3 1, 3) := by decide +kernel
theorem d_M_smallRoom_70 : decode b_M_smallRoom 70 = .ok (.goto (-23), 3) := by decide +kernel
theorem d_M_smallRoom_73 : decode b_M_smallRoom 73 = .ok (.iconst (-1), 1) := by decide +kernel
theorem d_M_smallRoom_74 : decode b_M_smallRoom 74 = .ok (.ireturn, 1) := by decide +kernel
theorem d_M_isOpen_0 : decode b_M_isOpen 0 = .ok (.iload_n 1, 1) := by decide +kernel
theorem d_M_isOpen_1 : decode b_M_isOpen 1 = .ok (.bipush 16, 2) := by decide +kernel
theorem d_M_isOpen_3 : decode b_M_isOpen 3 = .ok (.if_icmp .ge 29, 3) := by decide +kernel
theorem d_M_isOpen_6 : decode b_M_isOpen 6 = .ok (.aload_n 0, 1) := by decide +kernel
theorem d_M_isOpen_7 : decode b_M_isOpen 7 = .ok (.getfield 29, 3) := by decide +kernel
theorem d_M_isOpen_10 : decode b_M_isOpen 10 = .ok (.iload_n 1, 1) := by decide +kernel
theorem d_M_isOpen_11 : decode b_M_isOpen 11 = .ok (.iaload, 1) := by decide +kernel
theorem d_M_isOpen_12 : decode b_M_isOpen 12 = .ok (.ifCond .ne 20, 3) := by decide +kernel
theorem d_M_isOpen_15 : decode b_M_isOpen 15 = .ok (.iload_n 2, 1) := by decide +kernel
theorem d_M_isOpen_16 : decode b_M_isOpen 16 = .ok (.ifCond .ne 12, 3) := by decide +kernel
theorem d_M_isOpen_19 : decode b_M_isOpen 19 = .ok (.aload_n 0, 1) := by decide +kernel
theorem d_M_isOpen_20 : decode b_M_isOpen 20 = .ok (.getfield 32, 3) := by decide +kernel
theorem d_M_isOpen_23 : decode b_M_isOpen 23 = .ok (.iload_n 1, 1) := by decide +kernel
theorem d_M_isOpen_24 : decode b_M_isOpen 24 = .ok (.baload, 1) := by decide +kernel
theorem d_M_isOpen_25 : decode b_M_isOpen 25 = .ok (.ifCond .ne 7, 3) := by decide +kernel
theorem d_M_isOpen_28 : decode b_M_isOpen 28 = .ok (.iconst 1, 1) := by decide +kernel
theorem d_M_isOpen_29 : decode b_M_isOpen 29 = .ok (.goto 4, 3) := by decide +kernel
theorem d_M_isOpen_32 : decode b_M_isOpen 32 = .ok (.iconst 0, 1) := by decide +kernel
theorem d_M_isOpen_33 : decode b_M_isOpen 33 = .ok (.ireturn, 1) := by decide +kernel
theorem d_M_largeRoom_0 : decode b_M_largeRoom 0 = .ok (.iconst 0, 1) := by decide +kernel
theorem d_M_largeRoom_1 : decode b_M_largeRoom 1 = .ok (.istore_n 3, 1) := by decide +kernel
theorem d_M_largeRoom_2 : decode b_M_largeRoom 2 = .ok (.iload_n 3, 1) := by decide +kernel
theorem d_M_largeRoom_3 : decode b_M_largeRoom 3 = .ok (.iload_n 1, 1) := by decide +kernel
theorem d_M_largeRoom_4 : decode b_M_largeRoom 4 = .ok (.iadd, 1) := by decide +kernel
theorem d_M_largeRoom_5 : decode b_M_largeRoom 5 = .ok (.bipush 16, 2) := by decide +kernel
theorem d_M_largeRoom_7 : decode b_M_largeRoom 7 = .ok (.if_icmp .gt 61, 3) := by decide +kernel
theorem d_M_largeRoom_10 : decode b_M_largeRoom 10 = .ok (.iconst 1, 1) := by decide +kernel
theorem d_M_largeRoom_11 : decode b_M_largeRoom 11 = .ok (.istore 4, 2) := by decide +kernel
theorem d_M_largeRoom_13 : decode b_M_largeRoom 13 = .ok (.iconst 0, 1) := by decide +kernel
theorem d_M_largeRoom_14 : decode b_M_largeRoom 14 = .ok (.istore 5, 2) := by decide +kernel
theorem d_M_largeRoom_16 : decode b_M_largeRoom 16 = .ok (.iload 5, 2) := by decide +kernel
theorem d_M_largeRoom_18 : decode b_M_largeRoom 18 = .ok (.iload_n 1, 1) := by decide +kernel
theorem d_M_largeRoom_19 : decode b_M_largeRoom 19 = .ok (.if_icmp .ge 33, 3) := by decide +kernel
theorem d_M_largeRoom_22 : decode b_M_largeRoom 22 = .ok (.iload 4, 2) := by decide +kernel
theorem d_M_largeRoom_24 : decode b_M_largeRoom 24 = .ok (.ifCond .eq 19, 3) := by decide +kernel
theorem d_M_largeRoom_27 : decode b_M_largeRoom 27 = .ok (.aload_n 0, 1) := by decide +kernel
theorem d_M_largeRoom_28 : decode b_M_largeRoom 28 = .ok (.iload_n 3, 1) := by decide +kernel
theorem d_M_largeRoom_29 : decode b_M_largeRoom 29 = .ok (.iload 5, 2) := by decide +kernel
theorem d_M_largeRoom_31 : decode b_M_largeRoom 31 = .ok (.iadd, 1) := by decide +kernel
theorem d_M_largeRoom_32 : decode b_M_largeRoom 32 = .ok (.iload_n 2, 1) := by decide +kernel
theorem d_M_largeRoom_33 : decode b_M_largeRoom 33 = .ok (.invokevirtual 67, 3) := by decide +kernel
theorem d_M_largeRoom_36 : decode b_M_largeRoom 36 = .ok (.ifCond .eq 7, 3) := by decide +kernel
theorem d_M_largeRoom_39 : decode b_M_largeRoom 39 = .ok (.iconst 1, 1) := by decide +kernel
theorem d_M_largeRoom_40 : decode b_M_largeRoom 40 = .ok (.goto 4, 3) := by decide +kernel
theorem d_M_largeRoom_43 : decode b_M_largeRoom 43 = .ok (.iconst 0, 1) := by decide +kernel
theorem d_M_largeRoom_44 : decode b_M_largeRoom 44 = .ok (.istore 4, 2) := by decide +kernel
theorem d_M_largeRoom_46 : decode b_M_largeRoom 46 = .ok (.iinc 5 1, 3) := by decide +kernel
theorem d_M_largeRoom_49 : decode b_M_largeRoom 49 = .ok (.goto (-33), 3) := by decide +kernel
theorem d_M_largeRoom_52 : decode b_M_largeRoom 52 = .ok (.iload 4, 2) := by decide +kernel
theorem d_M_largeRoom_54 : decode b_M_largeRoom 54 = .ok (.ifCond .eq 8, 3) := by decide +kernel
theorem d_M_largeRoom_57 : decode b_M_largeRoom 57 = .ok (.bipush 32, 2) := by decide +kernel
theorem d_M_largeRoom_59 : decode b_M_largeRoom 59 = .ok (.iload_n 3, 1) := by decide +kernel
theorem d_M_largeRoom_60 : decode b_M_largeRoom 60 = .ok (.imul, 1) := by decide +kernel
theorem d_M_largeRoom_61 : decode b_M_largeRoom 61 = .ok (.ireturn, 1) := by decide +kernel
theorem d_M_largeRoom_62 : decode b_M_largeRoom 62 = .ok (.iinc 3 1, 3) := by decide +kernel
theorem d_M_largeRoom_65 : decode b_M_largeRoom 65 = .ok (.goto (-63), 3) := by decide +kernel
theorem d_M_largeRoom_68 : decode b_M_largeRoom 68 = .ok (.iconst (-1), 1) := by decide +kernel
theorem d_M_largeRoom_69 : decode b_M_largeRoom 69 = .ok (.ireturn, 1) := by decide +kernel
theorem d_M_gather_0 : decode b_M_gather 0 = .ok (.aload_n 0, 1) := by decide +kernel
theorem d_M_gather_1 : decode b_M_gather 1 = .ok (.dup, 1) := by decide +kernel
theorem d_M_gather_2 : decode b_M_gather 2 = .ok (.getfield 53, 3) := by decide +kernel
theorem d_M_gather_5 : decode b_M_gather 5 = .ok (.iconst 1, 1) := by decide +kernel
theorem d_M_gather_6 : decode b_M_gather 6 = .ok (.iadd, 1) := by decide +kernel
theorem d_M_gather_7 : decode b_M_gather 7 = .ok (.putfield 53, 3) := by decide +kernel
theorem d_M_gather_10 : decode b_M_gather 10 = .ok (.aload_n 0, 1) := by decide +kernel
theorem d_M_gather_11 : decode b_M_gather 11 = .ok (.iconst 0, 1) := by decide +kernel
theorem d_M_gather_12 : decode b_M_gather 12 = .ok (.putfield 50, 3) := by decide +kernel
theorem d_M_gather_15 : decode b_M_gather 15 = .ok (.iconst 0, 1) := by decide +kernel
theorem d_M_gather_16 : decode b_M_gather 16 = .ok (.istore_n 1, 1) := by decide +kernel
theorem d_M_gather_17 : decode b_M_gather 17 = .ok (.iload_n 1, 1) := by decide +kernel
theorem d_M_gather_18 : decode b_M_gather 18 = .ok (.bipush 16, 2) := by decide +kernel
theorem d_M_gather_20 : decode b_M_gather 20 = .ok (.if_icmp .ge 16, 3) := by decide +kernel
theorem d_M_gather_23 : decode b_M_gather 23 = .ok (.aload_n 0, 1) := by decide +kernel
theorem d_M_gather_24 : decode b_M_gather 24 = .ok (.getfield 32, 3) := by decide +kernel
theorem d_M_gather_27 : decode b_M_gather 27 = .ok (.iload_n 1, 1) := by decide +kernel
theorem d_M_gather_28 : decode b_M_gather 28 = .ok (.iconst 0, 1) := by decide +kernel
theorem d_M_gather_29 : decode b_M_gather 29 = .ok (.bastore, 1) := by decide +kernel
theorem d_M_gather_30 : decode b_M_gather 30 = .ok (.iinc 1 1, 3) := by decide +kernel
theorem d_M_gather_33 : decode b_M_gather 33 = .ok (.goto (-16), 3) := by decide +kernel
theorem d_M_gather_36 : decode b_M_gather 36 = .ok (.iconst 0, 1) := by decide +kernel
theorem d_M_gather_37 : decode b_M_gather 37 = .ok (.istore_n 1, 1) := by decide +kernel
theorem d_M_gather_38 : decode b_M_gather 38 = .ok (.iload_n 1, 1) := by decide +kernel
theorem d_M_gather_39 : decode b_M_gather 39 = .ok (.sipush 512, 3) := by decide +kernel
theorem d_M_gather_42 : decode b_M_gather 42 = .ok (.if_icmp .ge 16, 3) := by decide +kernel
theorem d_M_gather_45 : decode b_M_gather 45 = .ok (.aload_n 0, 1) := by decide +kernel
theorem d_M_gather_46 : decode b_M_gather 46 = .ok (.getfield 26, 3) := by decide +kernel
theorem d_M_gather_49 : decode b_M_gather 49 = .ok (.iload_n 1, 1) := by decide +kernel
theorem d_M_gather_50 : decode b_M_gather 50 = .ok (.iconst 0, 1) := by decide +kernel
theorem d_M_gather_51 : decode b_M_gather 51 = .ok (.bastore, 1) := by decide +kernel
theorem d_M_gather_52 : decode b_M_gather 52 = .ok (.iinc 1 1, 3) := by decide +kernel
theorem d_M_gather_55 : decode b_M_gather 55 = .ok (.goto (-17), 3) := by decide +kernel
theorem d_M_gather_58 : decode b_M_gather 58 = .ok (.iconst 1, 1) := by decide +kernel
theorem d_M_gather_59 : decode b_M_gather 59 = .ok (.istore_n 1, 1) := by decide +kernel
theorem d_M_gather_60 : decode b_M_gather 60 = .ok (.iload_n 1, 1) := by decide +kernel
theorem d_M_gather_61 : decode b_M_gather 61 = .ok (.ifCond .eq 11, 3) := by decide +kernel
theorem d_M_gather_64 : decode b_M_gather 64 = .ok (.aload_n 0, 1) := by decide +kernel
theorem d_M_gather_65 : decode b_M_gather 65 = .ok (.invokevirtual 56, 3) := by decide +kernel
theorem d_M_gather_68 : decode b_M_gather 68 = .ok (.istore_n 1, 1) := by decide +kernel
theorem d_M_gather_69 : decode b_M_gather 69 = .ok (.goto (-9), 3) := by decide +kernel
theorem d_M_gather_72 : decode b_M_gather 72 = .ok (.iconst 0, 1) := by decide +kernel
theorem d_M_gather_73 : decode b_M_gather 73 = .ok (.istore_n 2, 1) := by decide +kernel
theorem d_M_gather_74 : decode b_M_gather 74 = .ok (.iload_n 2, 1) := by decide +kernel
theorem d_M_gather_75 : decode b_M_gather 75 = .ok (.sipush 512, 3) := by decide +kernel
theorem d_M_gather_78 : decode b_M_gather 78 = .ok (.if_icmp .ge 35, 3) := by decide +kernel
theorem d_M_gather_81 : decode b_M_gather 81 = .ok (.aload_n 0, 1) := by decide +kernel
theorem d_M_gather_82 : decode b_M_gather 82 = .ok (.getfield 16, 3) := by decide +kernel
theorem d_M_gather_85 : decode b_M_gather 85 = .ok (.iload_n 2, 1) := by decide +kernel
theorem d_M_gather_86 : decode b_M_gather 86 = .ok (.iaload, 1) := by decide +kernel
theorem d_M_gather_87 : decode b_M_gather 87 = .ok (.iload_n 2, 1) := by decide +kernel
theorem d_M_gather_88 : decode b_M_gather 88 = .ok (.iconst 1, 1) := by decide +kernel
theorem d_M_gather_89 : decode b_M_gather 89 = .ok (.iadd, 1) := by decide +kernel
theorem d_M_gather_90 : decode b_M_gather 90 = .ok (.if_icmp .ne 17, 3) := by decide +kernel
theorem d_M_gather_93 : decode b_M_gather 93 = .ok (.aload_n 0, 1) := by decide +kernel
theorem d_M_gather_94 : decode b_M_gather 94 = .ok (.getfield 26, 3) := by decide +kernel
theorem d_M_gather_97 : decode b_M_gather 97 = .ok (.iload_n 2, 1) := by decide +kernel
theorem d_M_gather_98 : decode b_M_gather 98 = .ok (.baload, 1) := by decide +kernel
theorem d_M_gather_99 : decode b_M_gather 99 = .ok (.ifCond .ne 8, 3) := by decide +kernel
theorem d_M_gather_102 : decode b_M_gather 102 = .ok (.aload_n 0, 1) := by decide +kernel
theorem d_M_gather_103 : decode b_M_gather 103 = .ok (.iload_n 2, 1) := by decide +kernel
theorem d_M_gather_104 : decode b_M_gather 104 = .ok (.invokevirtual 60, 3) := by decide +kernel
theorem d_M_gather_107 : decode b_M_gather 107 = .ok (.iinc 2 1, 3) := by decide +kernel
theorem d_M_gather_110 : decode b_M_gather 110 = .ok (.goto (-36), 3) := by decide +kernel
theorem d_M_gather_113 : decode b_M_gather 113 = .ok (.iconst 0, 1) := by decide +kernel
theorem d_M_gather_114 : decode b_M_gather 114 = .ok (.istore_n 2, 1) := by decide +kernel
theorem d_M_gather_115 : decode b_M_gather 115 = .ok (.iload_n 2, 1) := by decide +kernel
theorem d_M_gather_116 : decode b_M_gather 116 = .ok (.bipush 16, 2) := by decide +kernel
theorem d_M_gather_118 : decode b_M_gather 118 = .ok (.if_icmp .ge 44, 3) := by decide +kernel
theorem d_M_gather_121 : decode b_M_gather 121 = .ok (.aload_n 0, 1) := by decide +kernel
theorem d_M_gather_122 : decode b_M_gather 122 = .ok (.getfield 29, 3) := by decide +kernel
theorem d_M_gather_125 : decode b_M_gather 125 = .ok (.iload_n 2, 1) := by decide +kernel
theorem d_M_gather_126 : decode b_M_gather 126 = .ok (.aload_n 0, 1) := by decide +kernel
theorem d_M_gather_127 : decode b_M_gather 127 = .ok (.getfield 29, 3) := by decide +kernel
theorem d_M_gather_130 : decode b_M_gather 130 = .ok (.iload_n 2, 1) := by decide +kernel
theorem d_M_gather_131 : decode b_M_gather 131 = .ok (.iaload, 1) := by decide +kernel
theorem d_M_gather_132 : decode b_M_gather 132 = .ok (.bipush 32, 2) := by decide +kernel
theorem d_M_gather_134 : decode b_M_gather 134 = .ok (.if_icmp .ge 15, 3) := by decide +kernel
theorem d_M_gather_137 : decode b_M_gather 137 = .ok (.aload_n 0, 1) := by decide +kernel
theorem d_M_gather_138 : decode b_M_gather 138 = .ok (.iload_n 2, 1) := by decide +kernel
theorem d_M_gather_139 : decode b_M_gather 139 = .ok (.invokevirtual 64, 3) := by decide +kernel
theorem d_M_gather_142 : decode b_M_gather 142 = .ok (.ifCond .eq 7, 3) := by decide +kernel
theorem d_M_gather_145 : decode b_M_gather 145 = .ok (.iconst 0, 1) := by decide +kernel
theorem d_M_gather_146 : decode b_M_gather 146 = .ok (.goto 9, 3) := by decide +kernel
theorem d_M_gather_149 : decode b_M_gather 149 = .ok (.aload_n 0, 1) := by decide +kernel
theorem d_M_gather_150 : decode b_M_gather 150 = .ok (.getfield 29, 3) := by decide +kernel
theorem d_M_gather_153 : decode b_M_gather 153 = .ok (.iload_n 2, 1) := by decide +kernel
theorem d_M_gather_154 : decode b_M_gather 154 = .ok (.iaload, 1) := by decide +kernel
theorem d_M_gather_155 : decode b_M_gather 155 = .ok (.iastore, 1) := by decide +kernel
theorem d_M_gather_156 : decode b_M_gather 156 = .ok (.iinc 2 1, 3) := by decide +kernel
theorem d_M_gather_159 : decode b_M_gather 159 = .ok (.goto (-44), 3) := by decide +kernel
theorem d_M_gather_162 : decode b_M_gather 162 = .ok (.return_, 1) := by decide +kernel
theorem d_M_lookAtAll_0 : decode b_M_lookAtAll 0 = .ok (.iconst 0, 1) := by decide +kernel
theorem d_M_lookAtAll_1 : decode b_M_lookAtAll 1 = .ok (.istore_n 1, 1) := by decide +kernel
theorem d_M_lookAtAll_2 : decode b_M_lookAtAll 2 = .ok (.iconst 0, 1) := by decide +kernel
theorem d_M_lookAtAll_3 : decode b_M_lookAtAll 3 = .ok (.istore_n 2, 1) := by decide +kernel
theorem d_M_lookAtAll_4 : decode b_M_lookAtAll 4 = .ok (.iload_n 2, 1) := by decide +kernel
theorem d_M_lookAtAll_5 : decode b_M_lookAtAll 5 = .ok (.bipush 8, 2) := by decide +kernel
theorem d_M_lookAtAll_7 : decode b_M_lookAtAll 7 = .ok (.if_icmp .ge 34, 3) := by decide +kernel
theorem d_M_lookAtAll_10 : decode b_M_lookAtAll 10 = .ok (.aload_n 0, 1) := by decide +kernel
theorem d_M_lookAtAll_11 : decode b_M_lookAtAll 11 = .ok (.aload_n 0, 1) := by decide +kernel
theorem d_M_lookAtAll_12 : decode b_M_lookAtAll 12 = .ok (.getfield 7, 3) := by decide +kernel
theorem d_M_lookAtAll_15 : decode b_M_lookAtAll 15 = .ok (.iload_n 2, 1) := by decide +kernel
theorem d_M_lookAtAll_16 : decode b_M_lookAtAll 16 = .ok (.iaload, 1) := by decide +kernel
theorem d_M_lookAtAll_17 : decode b_M_lookAtAll 17 = .ok (.invokevirtual 47, 3) := by decide +kernel
theorem d_M_lookAtAll_20 : decode b_M_lookAtAll 20 = .ok (.istore_n 3, 1) := by decide +kernel
theorem d_M_lookAtAll_21 : decode b_M_lookAtAll 21 = .ok (.iload_n 1, 1) := by decide +kernel
theorem d_M_lookAtAll_22 : decode b_M_lookAtAll 22 = .ok (.ifCond .ne 7, 3) := by decide +kernel
theorem d_M_lookAtAll_25 : decode b_M_lookAtAll 25 = .ok (.iload_n 3, 1) := by decide +kernel
theorem d_M_lookAtAll_26 : decode b_M_lookAtAll 26 = .ok (.ifCond .eq 7, 3) := by decide +kernel
theorem d_M_lookAtAll_29 : decode b_M_lookAtAll 29 = .ok (.iconst 1, 1) := by decide +kernel
theorem d_M_lookAtAll_30 : decode b_M_lookAtAll 30 = .ok (.goto 4, 3) := by decide +kernel
theorem d_M_lookAtAll_33 : decode b_M_lookAtAll 33 = .ok (.iconst 0, 1) := by decide +kernel
theorem d_M_lookAtAll_34 : decode b_M_lookAtAll 34 = .ok (.istore_n 1, 1) := by decide +kernel
theorem d_M_lookAtAll_35 : decode b_M_lookAtAll 35 = .ok (.iinc 2 1, 3) := by decide +kernel
theorem d_M_lookAtAll_38 : decode b_M_lookAtAll 38 = .ok (.goto (-34), 3) := by decide +kernel
theorem d_M_lookAtAll_41 : decode b_M_lookAtAll 41 = .ok (.iconst 0, 1) := by decide +kernel
theorem d_M_lookAtAll_42 : decode b_M_lookAtAll 42 = .ok (.istore_n 2, 1) := by decide +kernel
theorem d_M_lookAtAll_43 : decode b_M_lookAtAll 43 = .ok (.iload_n 2, 1) := by decide +kernel
theorem d_M_lookAtAll_44 : decode b_M_lookAtAll 44 = .ok (.sipush 512, 3) := by decide +kernel
theorem d_M_lookAtAll_47 : decode b_M_lookAtAll 47 = .ok (.if_icmp .ge 67, 3) := by decide +kernel
theorem d_M_lookAtAll_50 : decode b_M_lookAtAll 50 = .ok (.aload_n 0, 1) := by decide +kernel
theorem d_M_lookAtAll_51 : decode b_M_lookAtAll 51 = .ok (.getfield 16, 3) := by decide +kernel
theorem d_M_lookAtAll_54 : decode b_M_lookAtAll 54 = .ok (.iload_n 2, 1) := by decide +kernel
theorem d_M_lookAtAll_55 : decode b_M_lookAtAll 55 = .ok (.iaload, 1) := by decide +kernel
theorem d_M_lookAtAll_56 : decode b_M_lookAtAll 56 = .ok (.iconst 1, 1) := by decide +kernel
theorem d_M_lookAtAll_57 : decode b_M_lookAtAll 57 = .ok (.isub, 1) := by decide +kernel
theorem d_M_lookAtAll_58 : decode b_M_lookAtAll 58 = .ok (.istore_n 3, 1) := by decide +kernel
theorem d_M_lookAtAll_59 : decode b_M_lookAtAll 59 = .ok (.iload_n 3, 1) := by decide +kernel
theorem d_M_lookAtAll_60 : decode b_M_lookAtAll 60 = .ok (.ifCond .lt 48, 3) := by decide +kernel
theorem d_M_lookAtAll_63 : decode b_M_lookAtAll 63 = .ok (.aload_n 0, 1) := by decide +kernel
theorem d_M_lookAtAll_64 : decode b_M_lookAtAll 64 = .ok (.getfield 26, 3) := by decide +kernel
theorem d_M_lookAtAll_67 : decode b_M_lookAtAll 67 = .ok (.iload_n 3, 1) := by decide +kernel
theorem d_M_lookAtAll_68 : decode b_M_lookAtAll 68 = .ok (.baload, 1) := by decide +kernel
theorem d_M_lookAtAll_69 : decode b_M_lookAtAll 69 = .ok (.ifCond .eq 39, 3) := by decide +kernel
theorem d_M_lookAtAll_72 : decode b_M_lookAtAll 72 = .ok (.aload_n 0, 1) := by decide +kernel
theorem d_M_lookAtAll_73 : decode b_M_lookAtAll 73 = .ok (.getfield 22, 3) := by decide +kernel
theorem d_M_lookAtAll_76 : decode b_M_lookAtAll 76 = .ok (.iload_n 3, 1) := by decide +kernel
theorem d_M_lookAtAll_77 : decode b_M_lookAtAll 77 = .ok (.baload, 1) := by decide +kernel
theorem d_M_lookAtAll_78 : decode b_M_lookAtAll 78 = .ok (.ifCond .ne 30, 3) := by decide +kernel
theorem d_M_lookAtAll_81 : decode b_M_lookAtAll 81 = .ok (.aload_n 0, 1) := by decide +kernel
theorem d_M_lookAtAll_82 : decode b_M_lookAtAll 82 = .ok (.aload_n 0, 1) := by decide +kernel
theorem d_M_lookAtAll_83 : decode b_M_lookAtAll 83 = .ok (.getfield 13, 3) := by decide +kernel
theorem d_M_lookAtAll_86 : decode b_M_lookAtAll 86 = .ok (.iload_n 2, 1) := by decide +kernel
theorem d_M_lookAtAll_87 : decode b_M_lookAtAll 87 = .ok (.iaload, 1) := by decide +kernel
theorem d_M_lookAtAll_88 : decode b_M_lookAtAll 88 = .ok (.invokevirtual 47, 3) := by decide +kernel
theorem d_M_lookAtAll_91 : decode b_M_lookAtAll 91 = .ok (.istore 4, 2) := by decide +kernel
theorem d_M_lookAtAll_93 : decode b_M_lookAtAll 93 = .ok (.iload_n 1, 1) := by decide +kernel
theorem d_M_lookAtAll_94 : decode b_M_lookAtAll 94 = .ok (.ifCond .ne 8, 3) := by decide +kernel
theorem d_M_lookAtAll_97 : decode b_M_lookAtAll 97 = .ok (.iload 4, 2) := by decide +kernel
theorem d_M_lookAtAll_99 : decode b_M_lookAtAll 99 = .ok (.ifCond .eq 7, 3) := by decide +kernel
theorem d_M_lookAtAll_102 : decode b_M_lookAtAll 102 = .ok (.iconst 1, 1) := by decide +kernel
theorem d_M_lookAtAll_103 : decode b_M_lookAtAll 103 = .ok (.goto 4, 3) := by decide +kernel
theorem d_M_lookAtAll_106 : decode b_M_lookAtAll 106 = .ok (.iconst 0, 1) := by decide +kernel
theorem d_M_lookAtAll_107 : decode b_M_lookAtAll 107 = .ok (.istore_n 1, 1) := by decide +kernel
theorem d_M_lookAtAll_108 : decode b_M_lookAtAll 108 = .ok (.iinc 2 1, 3) := by decide +kernel
theorem d_M_lookAtAll_111 : decode b_M_lookAtAll 111 = .ok (.goto (-68), 3) := by decide +kernel
theorem d_M_lookAtAll_114 : decode b_M_lookAtAll 114 = .ok (.iload_n 1, 1) := by decide +kernel
theorem d_M_lookAtAll_115 : decode b_M_lookAtAll 115 = .ok (.ireturn, 1) := by decide +kernel
theorem d_M_look_0 : decode b_M_look 0 = .ok (.iload_n 1, 1) := by decide +kernel
theorem d_M_look_1 : decode b_M_look 1 = .ok (.invokestatic 39, 3) := by decide +kernel
theorem d_M_look_4 : decode b_M_look 4 = .ok (.ifCond .ne 5, 3) := by decide +kernel
theorem d_M_look_7 : decode b_M_look 7 = .ok (.iconst 0, 1) := by decide +kernel
theorem d_M_look_8 : decode b_M_look 8 = .ok (.ireturn, 1) := by decide +kernel
theorem d_M_look_9 : decode b_M_look 9 = .ok (.aload_n 0, 1) := by decide +kernel
theorem d_M_look_10 : decode b_M_look 10 = .ok (.iload_n 1, 1) := by decide +kernel
theorem d_M_look_11 : decode b_M_look 11 = .ok (.invokevirtual 43, 3) := by decide +kernel
theorem d_M_look_14 : decode b_M_look 14 = .ok (.istore_n 2, 1) := by decide +kernel
theorem d_M_look_15 : decode b_M_look 15 = .ok (.iload_n 2, 1) := by decide +kernel
theorem d_M_look_16 : decode b_M_look 16 = .ok (.ifCond .ge 43, 3) := by decide +kernel
theorem d_M_look_19 : decode b_M_look 19 = .ok (.iload_n 1, 1) := by decide +kernel
theorem d_M_look_20 : decode b_M_look 20 = .ok (.sipush 4096, 3) := by decide +kernel
theorem d_M_look_23 : decode b_M_look 23 = .ok (.isub, 1) := by decide +kernel
theorem d_M_look_24 : decode b_M_look 24 = .ok (.bipush 32, 2) := by decide +kernel
theorem d_M_look_26 : decode b_M_look 26 = .ok (.idiv, 1) := by decide +kernel
theorem d_M_look_27 : decode b_M_look 27 = .ok (.istore_n 3, 1) := by decide +kernel
theorem d_M_look_28 : decode b_M_look 28 = .ok (.aload_n 0, 1) := by decide +kernel
theorem d_M_look_29 : decode b_M_look 29 = .ok (.getfield 32, 3) := by decide +kernel
theorem d_M_look_32 : decode b_M_look 32 = .ok (.iload_n 3, 1) := by decide +kernel
theorem d_M_look_33 : decode b_M_look 33 = .ok (.aload_n 0, 1) := by decide +kernel
theorem d_M_look_34 : decode b_M_look 34 = .ok (.getfield 32, 3) := by decide +kernel
theorem d_M_look_37 : decode b_M_look 37 = .ok (.iload_n 3, 1) := by decide +kernel
theorem d_M_look_38 : decode b_M_look 38 = .ok (.baload, 1) := by decide +kernel
theorem d_M_look_39 : decode b_M_look 39 = .ok (.ifCond .ne 12, 3) := by decide +kernel
theorem d_M_look_42 : decode b_M_look 42 = .ok (.aload_n 0, 1) := by decide +kernel
theorem d_M_look_43 : decode b_M_look 43 = .ok (.getfield 29, 3) := by decide +kernel
theorem d_M_look_46 : decode b_M_look 46 = .ok (.iload_n 3, 1) := by decide +kernel
theorem d_M_look_47 : decode b_M_look 47 = .ok (.iaload, 1) := by decide +kernel
theorem d_M_look_48 : decode b_M_look 48 = .ok (.ifCond .ne 7, 3) := by decide +kernel
theorem d_M_look_51 : decode b_M_look 51 = .ok (.iconst 1, 1) := by decide +kernel
theorem d_M_look_52 : decode b_M_look 52 = .ok (.goto 4, 3) := by decide +kernel
theorem d_M_look_55 : decode b_M_look 55 = .ok (.iconst 0, 1) := by decide +kernel
theorem d_M_look_56 : decode b_M_look 56 = .ok (.bastore, 1) := by decide +kernel
theorem d_M_look_57 : decode b_M_look 57 = .ok (.iconst 0, 1) := by decide +kernel
theorem d_M_look_58 : decode b_M_look 58 = .ok (.ireturn, 1) := by decide +kernel
theorem d_M_look_59 : decode b_M_look 59 = .ok (.aload_n 0, 1) := by decide +kernel
theorem d_M_look_60 : decode b_M_look 60 = .ok (.getfield 26, 3) := by decide +kernel
theorem d_M_look_63 : decode b_M_look 63 = .ok (.iload_n 2, 1) := by decide +kernel
theorem d_M_look_64 : decode b_M_look 64 = .ok (.baload, 1) := by decide +kernel
theorem d_M_look_65 : decode b_M_look 65 = .ok (.ifCond .ne 7, 3) := by decide +kernel
theorem d_M_look_68 : decode b_M_look 68 = .ok (.iconst 1, 1) := by decide +kernel
theorem d_M_look_69 : decode b_M_look 69 = .ok (.goto 4, 3) := by decide +kernel
theorem d_M_look_72 : decode b_M_look 72 = .ok (.iconst 0, 1) := by decide +kernel
theorem d_M_look_73 : decode b_M_look 73 = .ok (.istore_n 3, 1) := by decide +kernel
theorem d_M_look_74 : decode b_M_look 74 = .ok (.aload_n 0, 1) := by decide +kernel
theorem d_M_look_75 : decode b_M_look 75 = .ok (.getfield 26, 3) := by decide +kernel
theorem d_M_look_78 : decode b_M_look 78 = .ok (.iload_n 2, 1) := by decide +kernel
theorem d_M_look_79 : decode b_M_look 79 = .ok (.iconst 1, 1) := by decide +kernel
theorem d_M_look_80 : decode b_M_look 80 = .ok (.bastore, 1) := by decide +kernel
theorem d_M_look_81 : decode b_M_look 81 = .ok (.iload_n 3, 1) := by decide +kernel
theorem d_M_look_82 : decode b_M_look 82 = .ok (.ireturn, 1) := by decide +kernel
theorem d_M_isAddress_0 : decode b_M_isAddress 0 = .ok (.iload_n 0, 1) := by decide +kernel
theorem d_M_isAddress_1 : decode b_M_isAddress 1 = .ok (.sipush 4096, 3) := by decide +kernel
theorem d_M_isAddress_4 : decode b_M_isAddress 4 = .ok (.if_icmp .lt 14, 3) := by decide +kernel
theorem d_M_isAddress_7 : decode b_M_isAddress 7 = .ok (.iload_n 0, 1) := by decide +kernel
theorem d_M_isAddress_8 : decode b_M_isAddress 8 = .ok (.sipush 4608, 3) := by decide +kernel
theorem d_M_isAddress_11 : decode b_M_isAddress 11 = .ok (.if_icmp .ge 7, 3) := by decide +kernel
theorem d_M_isAddress_14 : decode b_M_isAddress 14 = .ok (.iconst 1, 1) := by decide +kernel
theorem d_M_isAddress_15 : decode b_M_isAddress 15 = .ok (.goto 4, 3) := by decide +kernel
theorem d_M_isAddress_18 : decode b_M_isAddress 18 = .ok (.iconst 0, 1) := by decide +kernel
theorem d_M_isAddress_19 : decode b_M_isAddress 19 = .ok (.ireturn, 1) := by decide +kernel
theorem d_M_objectAt_0 : decode b_M_objectAt 0 = .ok (.iload_n 1, 1) := by decide +kernel
theorem d_M_objectAt_1 : decode b_M_objectAt 1 = .ok (.invokestatic 39, 3) := by decide +kernel
theorem d_M_objectAt_4 : decode b_M_objectAt 4 = .ok (.ifCond .eq 18, 3) := by decide +kernel
theorem d_M_objectAt_7 : decode b_M_objectAt 7 = .ok (.aload_n 0, 1) := by decide +kernel
theorem d_M_objectAt_8 : decode b_M_objectAt 8 = .ok (.getfield 16, 3) := by decide +kernel
theorem d_M_objectAt_11 : decode b_M_objectAt 11 = .ok (.iload_n 1, 1) := by decide +kernel
theorem d_M_objectAt_12 : decode b_M_objectAt 12 = .ok (.sipush 4096, 3) := by decide +kernel
theorem d_M_objectAt_15 : decode b_M_objectAt 15 = .ok (.isub, 1) := by decide +kernel
theorem d_M_objectAt_16 : decode b_M_objectAt 16 = .ok (.iaload, 1) := by decide +kernel
theorem d_M_objectAt_17 : decode b_M_objectAt 17 = .ok (.iconst 1, 1) := by decide +kernel
theorem d_M_objectAt_18 : decode b_M_objectAt 18 = .ok (.isub, 1) := by decide +kernel
theorem d_M_objectAt_19 : decode b_M_objectAt 19 = .ok (.goto 4, 3) := by decide +kernel
theorem d_M_objectAt_22 : decode b_M_objectAt 22 = .ok (.iconst (-1), 1) := by decide +kernel
theorem d_M_objectAt_23 : decode b_M_objectAt 23 = .ok (.ireturn, 1) := by decide +kernel
theorem d_M_giveUp_0 : decode b_M_giveUp 0 = .ok (.aload_n 0, 1) := by decide +kernel
theorem d_M_giveUp_1 : decode b_M_giveUp 1 = .ok (.getfield 19, 3) := by decide +kernel
theorem d_M_giveUp_4 : decode b_M_giveUp 4 = .ok (.iload_n 1, 1) := by decide +kernel
theorem d_M_giveUp_5 : decode b_M_giveUp 5 = .ok (.iaload, 1) := by decide +kernel
theorem d_M_giveUp_6 : decode b_M_giveUp 6 = .ok (.istore_n 2, 1) := by decide +kernel
theorem d_M_giveUp_7 : decode b_M_giveUp 7 = .ok (.iload_n 1, 1) := by decide +kernel
theorem d_M_giveUp_8 : decode b_M_giveUp 8 = .ok (.istore_n 3, 1) := by decide +kernel
theorem d_M_giveUp_9 : decode b_M_giveUp 9 = .ok (.iload_n 3, 1) := by decide +kernel
theorem d_M_giveUp_10 : decode b_M_giveUp 10 = .ok (.iload_n 1, 1) := by decide +kernel
theorem d_M_giveUp_11 : decode b_M_giveUp 11 = .ok (.iload_n 2, 1) := by decide +kernel
theorem d_M_giveUp_12 : decode b_M_giveUp 12 = .ok (.iadd, 1) := by decide +kernel
theorem d_M_giveUp_13 : decode b_M_giveUp 13 = .ok (.if_icmp .ge 23, 3) := by decide +kernel
theorem d_M_giveUp_16 : decode b_M_giveUp 16 = .ok (.aload_n 0, 1) := by decide +kernel
theorem d_M_giveUp_17 : decode b_M_giveUp 17 = .ok (.getfield 13, 3) := by decide +kernel
theorem d_M_giveUp_20 : decode b_M_giveUp 20 = .ok (.iload_n 3, 1) := by decide +kernel
theorem d_M_giveUp_21 : decode b_M_giveUp 21 = .ok (.iconst 0, 1) := by decide +kernel
theorem d_M_giveUp_22 : decode b_M_giveUp 22 = .ok (.iastore, 1) := by decide +kernel
theorem d_M_giveUp_23 : decode b_M_giveUp 23 = .ok (.aload_n 0, 1) := by decide +kernel
theorem d_M_giveUp_24 : decode b_M_giveUp 24 = .ok (.getfield 16, 3) := by decide +kernel
theorem d_M_giveUp_27 : decode b_M_giveUp 27 = .ok (.iload_n 3, 1) := by decide +kernel
theorem d_M_giveUp_28 : decode b_M_giveUp 28 = .ok (.iconst 0, 1) := by decide +kernel
theorem d_M_giveUp_29 : decode b_M_giveUp 29 = .ok (.iastore, 1) := by decide +kernel
theorem d_M_giveUp_30 : decode b_M_giveUp 30 = .ok (.iinc 3 1, 3) := by decide +kernel
theorem d_M_giveUp_33 : decode b_M_giveUp 33 = .ok (.goto (-24), 3) := by decide +kernel
theorem d_M_giveUp_36 : decode b_M_giveUp 36 = .ok (.iconst 0, 1) := by decide +kernel
theorem d_M_giveUp_37 : decode b_M_giveUp 37 = .ok (.istore_n 3, 1) := by decide +kernel
theorem d_M_giveUp_38 : decode b_M_giveUp 38 = .ok (.iload_n 3, 1) := by decide +kernel
theorem d_M_giveUp_39 : decode b_M_giveUp 39 = .ok (.bipush 16, 2) := by decide +kernel
theorem d_M_giveUp_41 : decode b_M_giveUp 41 = .ok (.if_icmp .ge 54, 3) := by decide +kernel
theorem d_M_giveUp_44 : decode b_M_giveUp 44 = .ok (.aload_n 0, 1) := by decide +kernel
theorem d_M_giveUp_45 : decode b_M_giveUp 45 = .ok (.getfield 29, 3) := by decide +kernel
theorem d_M_giveUp_48 : decode b_M_giveUp 48 = .ok (.iload_n 3, 1) := by decide +kernel
theorem d_M_giveUp_49 : decode b_M_giveUp 49 = .ok (.aload_n 0, 1) := by decide +kernel
theorem d_M_giveUp_50 : decode b_M_giveUp 50 = .ok (.getfield 29, 3) := by decide +kernel
theorem d_M_giveUp_53 : decode b_M_giveUp 53 = .ok (.iload_n 3, 1) := by decide +kernel
theorem d_M_giveUp_54 : decode b_M_giveUp 54 = .ok (.iaload, 1) := by decide +kernel
theorem d_M_giveUp_55 : decode b_M_giveUp 55 = .ok (.bipush 32, 2) := by decide +kernel
theorem d_M_giveUp_57 : decode b_M_giveUp 57 = .ok (.if_icmp .lt 25, 3) := by decide +kernel
theorem d_M_giveUp_60 : decode b_M_giveUp 60 = .ok (.bipush 32, 2) := by decide +kernel
theorem d_M_giveUp_62 : decode b_M_giveUp 62 = .ok (.iload_n 3, 1) := by decide +kernel
theorem d_M_giveUp_63 : decode b_M_giveUp 63 = .ok (.imul, 1) := by decide +kernel
theorem d_M_giveUp_64 : decode b_M_giveUp 64 = .ok (.iload_n 1, 1) := by decide +kernel
theorem d_M_giveUp_65 : decode b_M_giveUp 65 = .ok (.if_icmp .lt 17, 3) := by decide +kernel
theorem d_M_giveUp_68 : decode b_M_giveUp 68 = .ok (.bipush 32, 2) := by decide +kernel
theorem d_M_giveUp_70 : decode b_M_giveUp 70 = .ok (.iload_n 3, 1) := by decide +kernel
theorem d_M_giveUp_71 : decode b_M_giveUp 71 = .ok (.imul, 1) := by decide +kernel
theorem d_M_giveUp_72 : decode b_M_giveUp 72 = .ok (.iload_n 1, 1) := by decide +kernel
theorem d_M_giveUp_73 : decode b_M_giveUp 73 = .ok (.iload_n 2, 1) := by decide +kernel
theorem d_M_giveUp_74 : decode b_M_giveUp 74 = .ok (.iadd, 1) := by decide +kernel
theorem d_M_giveUp_75 : decode b_M_giveUp 75 = .ok (.if_icmp .ge 7, 3) := by decide +kernel
theorem d_M_giveUp_78 : decode b_M_giveUp 78 = .ok (.iconst 0, 1) := by decide +kernel
theorem d_M_giveUp_79 : decode b_M_giveUp 79 = .ok (.goto 9, 3) := by decide +kernel
theorem d_M_giveUp_82 : decode b_M_giveUp 82 = .ok (.aload_n 0, 1) := by decide +kernel
theorem d_M_giveUp_83 : decode b_M_giveUp 83 = .ok (.getfield 29, 3) := by decide +kernel
theorem d_M_giveUp_86 : decode b_M_giveUp 86 = .ok (.iload_n 3, 1) := by decide +kernel
theorem d_M_giveUp_87 : decode b_M_giveUp 87 = .ok (.iaload, 1) := by decide +kernel
theorem d_M_giveUp_88 : decode b_M_giveUp 88 = .ok (.iastore, 1) := by decide +kernel
theorem d_M_giveUp_89 : decode b_M_giveUp 89 = .ok (.iinc 3 1, 3) := by decide +kernel
theorem d_M_giveUp_92 : decode b_M_giveUp 92 = .ok (.goto (-54), 3) := by decide +kernel
theorem d_M_giveUp_95 : decode b_M_giveUp 95 = .ok (.aload_n 0, 1) := by decide +kernel
theorem d_M_giveUp_96 : decode b_M_giveUp 96 = .ok (.dup, 1) := by decide +kernel
theorem d_M_giveUp_97 : decode b_M_giveUp 97 = .ok (.getfield 50, 3) := by decide +kernel
theorem d_M_giveUp_100 : decode b_M_giveUp 100 = .ok (.iconst 1, 1) := by decide +kernel
theorem d_M_giveUp_101 : decode b_M_giveUp 101 = .ok (.iadd, 1) := by decide +kernel
theorem d_M_giveUp_102 : decode b_M_giveUp 102 = .ok (.putfield 50, 3) := by decide +kernel
theorem d_M_giveUp_105 : decode b_M_giveUp 105 = .ok (.return_, 1) := by decide +kernel
theorem d_M_isBare_0 : decode b_M_isBare 0 = .ok (.iconst 1, 1) := by decide +kernel
theorem d_M_isBare_1 : decode b_M_isBare 1 = .ok (.istore_n 2, 1) := by decide +kernel
theorem d_M_isBare_2 : decode b_M_isBare 2 = .ok (.bipush 32, 2) := by decide +kernel
theorem d_M_isBare_4 : decode b_M_isBare 4 = .ok (.iload_n 1, 1) := by decide +kernel
theorem d_M_isBare_5 : decode b_M_isBare 5 = .ok (.imul, 1) := by decide +kernel
theorem d_M_isBare_6 : decode b_M_isBare 6 = .ok (.istore_n 3, 1) := by decide +kernel
theorem d_M_isBare_7 : decode b_M_isBare 7 = .ok (.iload_n 3, 1) := by decide +kernel
theorem d_M_isBare_8 : decode b_M_isBare 8 = .ok (.bipush 32, 2) := by decide +kernel
theorem d_M_isBare_10 : decode b_M_isBare 10 = .ok (.iload_n 1, 1) := by decide +kernel
theorem d_M_isBare_11 : decode b_M_isBare 11 = .ok (.imul, 1) := by decide +kernel
theorem d_M_isBare_12 : decode b_M_isBare 12 = .ok (.bipush 32, 2) := by decide +kernel
theorem d_M_isBare_14 : decode b_M_isBare 14 = .ok (.iadd, 1) := by decide +kernel
theorem d_M_isBare_15 : decode b_M_isBare 15 = .ok (.if_icmp .ge 28, 3) := by decide +kernel
theorem d_M_isBare_18 : decode b_M_isBare 18 = .ok (.iload_n 2, 1) := by decide +kernel
theorem d_M_isBare_19 : decode b_M_isBare 19 = .ok (.ifCond .eq 16, 3) := by decide +kernel
theorem d_M_isBare_22 : decode b_M_isBare 22 = .ok (.aload_n 0, 1) := by decide +kernel
theorem d_M_isBare_23 : decode b_M_isBare 23 = .ok (.getfield 16, 3) := by decide +kernel
theorem d_M_isBare_26 : decode b_M_isBare 26 = .ok (.iload_n 3, 1) := by decide +kernel
theorem d_M_isBare_27 : decode b_M_isBare 27 = .ok (.iaload, 1) := by decide +kernel
theorem d_M_isBare_28 : decode b_M_isBare 28 = .ok (.ifCond .ne 7, 3) := by decide +kernel
theorem d_M_isBare_31 : decode b_M_isBare 31 = .ok (.iconst 1, 1) := by decide +kernel
theorem d_M_isBare_32 : decode b_M_isBare 32 = .ok (.goto 4, 3) := by decide +kernel
theorem d_M_isBare_35 : decode b_M_isBare 35 = .ok (.iconst 0, 1) := by decide +kernel
theorem d_M_isBare_36 : decode b_M_isBare 36 = .ok (.istore_n 2, 1) := by decide +kernel
theorem d_M_isBare_37 : decode b_M_isBare 37 = .ok (.iinc 3 1, 3) := by decide +kernel
theorem d_M_isBare_40 : decode b_M_isBare 40 = .ok (.goto (-33), 3) := by decide +kernel
theorem d_M_isBare_43 : decode b_M_isBare 43 = .ok (.iload_n 2, 1) := by decide +kernel
theorem d_M_isBare_44 : decode b_M_isBare 44 = .ok (.ireturn, 1) := by decide +kernel
theorem d_M_settle_0 : decode b_M_settle 0 = .ok (.iload_n 2, 1) := by decide +kernel
theorem d_M_settle_1 : decode b_M_settle 1 = .ok (.bipush 16, 2) := by decide +kernel
theorem d_M_settle_3 : decode b_M_settle 3 = .ok (.if_icmp .gt 10, 3) := by decide +kernel
theorem d_M_settle_6 : decode b_M_settle 6 = .ok (.iload_n 2, 1) := by decide +kernel
theorem d_M_settle_7 : decode b_M_settle 7 = .ok (.invokestatic 71, 3) := by decide +kernel
theorem d_M_settle_10 : decode b_M_settle 10 = .ok (.goto 13, 3) := by decide +kernel
theorem d_M_settle_13 : decode b_M_settle 13 = .ok (.iload_n 2, 1) := by decide +kernel
theorem d_M_settle_14 : decode b_M_settle 14 = .ok (.bipush 31, 2) := by decide +kernel
theorem d_M_settle_16 : decode b_M_settle 16 = .ok (.iadd, 1) := by decide +kernel
theorem d_M_settle_17 : decode b_M_settle 17 = .ok (.bipush 32, 2) := by decide +kernel
theorem d_M_settle_19 : decode b_M_settle 19 = .ok (.idiv, 1) := by decide +kernel
theorem d_M_settle_20 : decode b_M_settle 20 = .ok (.bipush 32, 2) := by decide +kernel
theorem d_M_settle_22 : decode b_M_settle 22 = .ok (.imul, 1) := by decide +kernel
theorem d_M_settle_23 : decode b_M_settle 23 = .ok (.istore 4, 2) := by decide +kernel
theorem d_M_settle_25 : decode b_M_settle 25 = .ok (.aload_n 0, 1) := by decide +kernel
theorem d_M_settle_26 : decode b_M_settle 26 = .ok (.getfield 19, 3) := by decide +kernel
theorem d_M_settle_29 : decode b_M_settle 29 = .ok (.iload_n 1, 1) := by decide +kernel
theorem d_M_settle_30 : decode b_M_settle 30 = .ok (.iload 4, 2) := by decide +kernel
theorem d_M_settle_32 : decode b_M_settle 32 = .ok (.iastore, 1) := by decide +kernel
theorem d_M_settle_33 : decode b_M_settle 33 = .ok (.aload_n 0, 1) := by decide +kernel
theorem d_M_settle_34 : decode b_M_settle 34 = .ok (.getfield 22, 3) := by decide +kernel
theorem d_M_settle_37 : decode b_M_settle 37 = .ok (.iload_n 1, 1) := by decide +kernel
theorem d_M_settle_38 : decode b_M_settle 38 = .ok (.iload_n 3, 1) := by decide +kernel
theorem d_M_settle_39 : decode b_M_settle 39 = .ok (.bastore, 1) := by decide +kernel
theorem d_M_settle_40 : decode b_M_settle 40 = .ok (.iload_n 1, 1) := by decide +kernel
theorem d_M_settle_41 : decode b_M_settle 41 = .ok (.istore 5, 2) := by decide +kernel
theorem d_M_settle_43 : decode b_M_settle 43 = .ok (.iload 5, 2) := by decide +kernel
theorem d_M_settle_45 : decode b_M_settle 45 = .ok (.iload_n 1, 1) := by decide +kernel
theorem d_M_settle_46 : decode b_M_settle 46 = .ok (.iload 4, 2) := by decide +kernel
theorem d_M_settle_48 : decode b_M_settle 48 = .ok (.iadd, 1) := by decide +kernel
theorem d_M_settle_49 : decode b_M_settle 49 = .ok (.if_icmp .ge 78, 3) := by decide +kernel
theorem d_M_settle_52 : decode b_M_settle 52 = .ok (.aload_n 0, 1) := by decide +kernel
theorem d_M_settle_53 : decode b_M_settle 53 = .ok (.getfield 16, 3) := by decide +kernel
theorem d_M_settle_56 : decode b_M_settle 56 = .ok (.iload 5, 2) := by decide +kernel
theorem d_M_settle_58 : decode b_M_settle 58 = .ok (.iload_n 1, 1) := by decide +kernel
theorem d_M_settle_59 : decode b_M_settle 59 = .ok (.iconst 1, 1) := by decide +kernel
theorem d_M_settle_60 : decode b_M_settle 60 = .ok (.iadd, 1) := by decide +kernel
theorem d_M_settle_61 : decode b_M_settle 61 = .ok (.iastore, 1) := by decide +kernel
theorem d_M_settle_62 : decode b_M_settle 62 = .ok (.aload_n 0, 1) := by decide +kernel
theorem d_M_settle_63 : decode b_M_settle 63 = .ok (.getfield 13, 3) := by decide +kernel
theorem d_M_settle_66 : decode b_M_settle 66 = .ok (.iload 5, 2) := by decide +kernel
theorem d_M_settle_68 : decode b_M_settle 68 = .ok (.iconst 0, 1) := by decide +kernel
theorem d_M_settle_69 : decode b_M_settle 69 = .ok (.iastore, 1) := by decide +kernel
theorem d_M_settle_70 : decode b_M_settle 70 = .ok (.aload_n 0, 1) := by decide +kernel
theorem d_M_settle_71 : decode b_M_settle 71 = .ok (.getfield 29, 3) := by decide +kernel
theorem d_M_settle_74 : decode b_M_settle 74 = .ok (.iload 5, 2) := by decide +kernel
theorem d_M_settle_76 : decode b_M_settle 76 = .ok (.bipush 32, 2) := by decide +kernel
theorem d_M_settle_78 : decode b_M_settle 78 = .ok (.idiv, 1) := by decide +kernel
theorem d_M_settle_79 : decode b_M_settle 79 = .ok (.iload_n 2, 1) := by decide +kernel
theorem d_M_settle_80 : decode b_M_settle 80 = .ok (.bipush 16, 2) := by decide +kernel
theorem d_M_settle_82 : decode b_M_settle 82 = .ok (.if_icmp .gt 8, 3) := by decide +kernel
theorem d_M_settle_85 : decode b_M_settle 85 = .ok (.iload 4, 2) := by decide +kernel
theorem d_M_settle_87 : decode b_M_settle 87 = .ok (.goto 22, 3) := by decide +kernel
theorem d_M_settle_90 : decode b_M_settle 90 = .ok (.iload 5, 2) := by decide +kernel
theorem d_M_settle_92 : decode b_M_settle 92 = .ok (.bipush 32, 2) := by decide +kernel
theorem d_M_settle_94 : decode b_M_settle 94 = .ok (.idiv, 1) := by decide +kernel
theorem d_M_settle_95 : decode b_M_settle 95 = .ok (.iload_n 1, 1) := by decide +kernel
theorem d_M_settle_96 : decode b_M_settle 96 = .ok (.bipush 32, 2) := by decide +kernel
theorem d_M_settle_98 : decode b_M_settle 98 = .ok (.idiv, 1) := by decide +kernel
theorem d_M_settle_99 : decode b_M_settle 99 = .ok (.if_icmp .ne 8, 3) := by decide +kernel
theorem d_M_settle_102 : decode b_M_settle 102 = .ok (.bipush 32, 2) := by decide +kernel
theorem d_M_settle_104 : decode b_M_settle 104 = .ok (.goto 5, 3) := by decide +kernel
theorem d_M_settle_107 : decode b_M_settle 107 = .ok (.bipush 33, 2) := by decide +kernel
theorem d_M_settle_109 : decode b_M_settle 109 = .ok (.iastore, 1) := by decide +kernel
theorem d_M_settle_110 : decode b_M_settle 110 = .ok (.aload_n 0, 1) := by decide +kernel
theorem d_M_settle_111 : decode b_M_settle 111 = .ok (.getfield 32, 3) := by decide +kernel
theorem d_M_settle_114 : decode b_M_settle 114 = .ok (.iload 5, 2) := by decide +kernel
theorem d_M_settle_116 : decode b_M_settle 116 = .ok (.bipush 32, 2) := by decide +kernel
theorem d_M_settle_118 : decode b_M_settle 118 = .ok (.idiv, 1) := by decide +kernel
theorem d_M_settle_119 : decode b_M_settle 119 = .ok (.iconst 0, 1) := by decide +kernel
theorem d_M_settle_120 : decode b_M_settle 120 = .ok (.bastore, 1) := by decide +kernel
theorem d_M_settle_121 : decode b_M_settle 121 = .ok (.iinc 5 1, 3) := by decide +kernel
theorem d_M_settle_124 : decode b_M_settle 124 = .ok (.goto (-81), 3) := by decide +kernel
theorem d_M_settle_127 : decode b_M_settle 127 = .ok (.return_, 1) := by decide +kernel
theorem d_M_collect_0 : decode b_M_collect 0 = .ok (.aload_n 0, 1) := by decide +kernel
theorem d_M_collect_1 : decode b_M_collect 1 = .ok (.iconst 0, 1) := by decide +kernel
theorem d_M_collect_2 : decode b_M_collect 2 = .ok (.putfield 35, 3) := by decide +kernel
theorem d_M_collect_5 : decode b_M_collect 5 = .ok (.aload_n 0, 1) := by decide +kernel
theorem d_M_collect_6 : decode b_M_collect 6 = .ok (.invokevirtual 84, 3) := by decide +kernel
theorem d_M_collect_9 : decode b_M_collect 9 = .ok (.aload_n 0, 1) := by decide +kernel
theorem d_M_collect_10 : decode b_M_collect 10 = .ok (.getfield 50, 3) := by decide +kernel
theorem d_M_collect_13 : decode b_M_collect 13 = .ok (.ireturn, 1) := by decide +kernel
theorem d_M_root_0 : decode b_M_root 0 = .ok (.aload_n 0, 1) := by decide +kernel
theorem d_M_root_1 : decode b_M_root 1 = .ok (.iload_n 1, 1) := by decide +kernel
theorem d_M_root_2 : decode b_M_root 2 = .ok (.ifCond .lt 9, 3) := by decide +kernel
theorem d_M_root_5 : decode b_M_root 5 = .ok (.iload_n 1, 1) := by decide +kernel
theorem d_M_root_6 : decode b_M_root 6 = .ok (.bipush 7, 2) := by decide +kernel
theorem d_M_root_8 : decode b_M_root 8 = .ok (.if_icmp .le 7, 3) := by decide +kernel
theorem d_M_root_11 : decode b_M_root 11 = .ok (.iconst 1, 1) := by decide +kernel
theorem d_M_root_12 : decode b_M_root 12 = .ok (.goto 4, 3) := by decide +kernel
theorem d_M_root_15 : decode b_M_root 15 = .ok (.iconst 0, 1) := by decide +kernel
theorem d_M_root_16 : decode b_M_root 16 = .ok (.putfield 35, 3) := by decide +kernel
theorem d_M_root_19 : decode b_M_root 19 = .ok (.aload_n 0, 1) := by decide +kernel
theorem d_M_root_20 : decode b_M_root 20 = .ok (.getfield 35, 3) := by decide +kernel
theorem d_M_root_23 : decode b_M_root 23 = .ok (.ifCond .ne 10, 3) := by decide +kernel
theorem d_M_root_26 : decode b_M_root 26 = .ok (.aload_n 0, 1) := by decide +kernel
theorem d_M_root_27 : decode b_M_root 27 = .ok (.getfield 7, 3) := by decide +kernel
theorem d_M_root_30 : decode b_M_root 30 = .ok (.iload_n 1, 1) := by decide +kernel
theorem d_M_root_31 : decode b_M_root 31 = .ok (.iload_n 2, 1) := by decide +kernel
theorem d_M_root_32 : decode b_M_root 32 = .ok (.iastore, 1) := by decide +kernel
theorem d_M_root_33 : decode b_M_root 33 = .ok (.return_, 1) := by decide +kernel
theorem d_M_rooted_0 : decode b_M_rooted 0 = .ok (.aload_n 0, 1) := by decide +kernel
theorem d_M_rooted_1 : decode b_M_rooted 1 = .ok (.iload_n 1, 1) := by decide +kernel
theorem d_M_rooted_2 : decode b_M_rooted 2 = .ok (.ifCond .lt 9, 3) := by decide +kernel
theorem d_M_rooted_5 : decode b_M_rooted 5 = .ok (.iload_n 1, 1) := by decide +kernel
theorem d_M_rooted_6 : decode b_M_rooted 6 = .ok (.bipush 7, 2) := by decide +kernel
theorem d_M_rooted_8 : decode b_M_rooted 8 = .ok (.if_icmp .le 7, 3) := by decide +kernel
theorem d_M_rooted_11 : decode b_M_rooted 11 = .ok (.iconst 1, 1) := by decide +kernel
theorem d_M_rooted_12 : decode b_M_rooted 12 = .ok (.goto 4, 3) := by decide +kernel
theorem d_M_rooted_15 : decode b_M_rooted 15 = .ok (.iconst 0, 1) := by decide +kernel
theorem d_M_rooted_16 : decode b_M_rooted 16 = .ok (.putfield 35, 3) := by decide +kernel
theorem d_M_rooted_19 : decode b_M_rooted 19 = .ok (.aload_n 0, 1) := by decide +kernel
theorem d_M_rooted_20 : decode b_M_rooted 20 = .ok (.getfield 35, 3) := by decide +kernel
theorem d_M_rooted_23 : decode b_M_rooted 23 = .ok (.ifCond .ne 12, 3) := by decide +kernel
theorem d_M_rooted_26 : decode b_M_rooted 26 = .ok (.aload_n 0, 1) := by decide +kernel
theorem d_M_rooted_27 : decode b_M_rooted 27 = .ok (.getfield 7, 3) := by decide +kernel
theorem d_M_rooted_30 : decode b_M_rooted 30 = .ok (.iload_n 1, 1) := by decide +kernel
theorem d_M_rooted_31 : decode b_M_rooted 31 = .ok (.iaload, 1) := by decide +kernel
theorem d_M_rooted_32 : decode b_M_rooted 32 = .ok (.goto 4, 3) := by decide +kernel
theorem d_M_rooted_35 : decode b_M_rooted 35 = .ok (.iconst 0, 1) := by decide +kernel
theorem d_M_rooted_36 : decode b_M_rooted 36 = .ok (.ireturn, 1) := by decide +kernel
theorem d_M_read_0 : decode b_M_read 0 = .ok (.aload_n 0, 1) := by decide +kernel
theorem d_M_read_1 : decode b_M_read 1 = .ok (.aload_n 0, 1) := by decide +kernel
theorem d_M_read_2 : decode b_M_read 2 = .ok (.iload_n 1, 1) := by decide +kernel
theorem d_M_read_3 : decode b_M_read 3 = .ok (.invokevirtual 91, 3) := by decide +kernel
theorem d_M_read_6 : decode b_M_read 6 = .ok (.putfield 35, 3) := by decide +kernel
theorem d_M_read_9 : decode b_M_read 9 = .ok (.aload_n 0, 1) := by decide +kernel
theorem d_M_read_10 : decode b_M_read 10 = .ok (.getfield 35, 3) := by decide +kernel
theorem d_M_read_13 : decode b_M_read 13 = .ok (.ifCond .ne 16, 3) := by decide +kernel
theorem d_M_read_16 : decode b_M_read 16 = .ok (.aload_n 0, 1) := by decide +kernel
theorem d_M_read_17 : decode b_M_read 17 = .ok (.getfield 13, 3) := by decide +kernel
theorem d_M_read_20 : decode b_M_read 20 = .ok (.iload_n 1, 1) := by decide +kernel
theorem d_M_read_21 : decode b_M_read 21 = .ok (.sipush 4096, 3) := by decide +kernel
theorem d_M_read_24 : decode b_M_read 24 = .ok (.isub, 1) := by decide +kernel
theorem d_M_read_25 : decode b_M_read 25 = .ok (.iaload, 1) := by decide +kernel
theorem d_M_read_26 : decode b_M_read 26 = .ok (.goto 4, 3) := by decide +kernel
theorem d_M_read_29 : decode b_M_read 29 = .ok (.iconst 0, 1) := by decide +kernel
theorem d_M_read_30 : decode b_M_read 30 = .ok (.ireturn, 1) := by decide +kernel
theorem d_M_bar_0 : decode b_M_bar 0 = .ok (.iload_n 1, 1) := by decide +kernel
theorem d_M_bar_1 : decode b_M_bar 1 = .ok (.invokestatic 39, 3) := by decide +kernel
theorem d_M_bar_4 : decode b_M_bar 4 = .ok (.ifCond .ne 7, 3) := by decide +kernel
theorem d_M_bar_7 : decode b_M_bar 7 = .ok (.iconst 1, 1) := by decide +kernel
theorem d_M_bar_8 : decode b_M_bar 8 = .ok (.goto 16, 3) := by decide +kernel
theorem d_M_bar_11 : decode b_M_bar 11 = .ok (.aload_n 0, 1) := by decide +kernel
theorem d_M_bar_12 : decode b_M_bar 12 = .ok (.iload_n 1, 1) := by decide +kernel
theorem d_M_bar_13 : decode b_M_bar 13 = .ok (.invokevirtual 43, 3) := by decide +kernel
theorem d_M_bar_16 : decode b_M_bar 16 = .ok (.ifCond .ge 7, 3) := by decide +kernel
theorem d_M_bar_19 : decode b_M_bar 19 = .ok (.iconst 2, 1) := by decide +kernel
theorem d_M_bar_20 : decode b_M_bar 20 = .ok (.goto 4, 3) := by decide +kernel
theorem d_M_bar_23 : decode b_M_bar 23 = .ok (.iconst 0, 1) := by decide +kernel
theorem d_M_bar_24 : decode b_M_bar 24 = .ok (.ireturn, 1) := by decide +kernel
theorem d_M_write_0 : decode b_M_write 0 = .ok (.aload_n 0, 1) := by decide +kernel
theorem d_M_write_1 : decode b_M_write 1 = .ok (.aload_n 0, 1) := by decide +kernel
theorem d_M_write_2 : decode b_M_write 2 = .ok (.iload_n 1, 1) := by decide +kernel
theorem d_M_write_3 : decode b_M_write 3 = .ok (.invokevirtual 91, 3) := by decide +kernel
theorem d_M_write_6 : decode b_M_write 6 = .ok (.putfield 35, 3) := by decide +kernel
theorem d_M_write_9 : decode b_M_write 9 = .ok (.aload_n 0, 1) := by decide +kernel
theorem d_M_write_10 : decode b_M_write 10 = .ok (.getfield 35, 3) := by decide +kernel
theorem d_M_write_13 : decode b_M_write 13 = .ok (.ifCond .le 5, 3) := by decide +kernel
theorem d_M_write_16 : decode b_M_write 16 = .ok (.iconst 0, 1) := by decide +kernel
theorem d_M_write_17 : decode b_M_write 17 = .ok (.ireturn, 1) := by decide +kernel
theorem d_M_write_18 : decode b_M_write 18 = .ok (.aload_n 0, 1) := by decide +kernel
theorem d_M_write_19 : decode b_M_write 19 = .ok (.getfield 13, 3) := by decide +kernel
theorem d_M_write_22 : decode b_M_write 22 = .ok (.iload_n 1, 1) := by decide +kernel
theorem d_M_write_23 : decode b_M_write 23 = .ok (.sipush 4096, 3) := by decide +kernel
theorem d_M_write_26 : decode b_M_write 26 = .ok (.isub, 1) := by decide +kernel
theorem d_M_write_27 : decode b_M_write 27 = .ok (.iaload, 1) := by decide +kernel
theorem d_M_write_28 : decode b_M_write 28 = .ok (.istore_n 3, 1) := by decide +kernel
theorem d_M_write_29 : decode b_M_write 29 = .ok (.aload_n 0, 1) := by decide +kernel
theorem d_M_write_30 : decode b_M_write 30 = .ok (.getfield 13, 3) := by decide +kernel
theorem d_M_write_33 : decode b_M_write 33 = .ok (.iload_n 1, 1) := by decide +kernel
theorem d_M_write_34 : decode b_M_write 34 = .ok (.sipush 4096, 3) := by decide +kernel
theorem d_M_write_37 : decode b_M_write 37 = .ok (.isub, 1) := by decide +kernel
theorem d_M_write_38 : decode b_M_write 38 = .ok (.iload_n 2, 1) := by decide +kernel
theorem d_M_write_39 : decode b_M_write 39 = .ok (.iastore, 1) := by decide +kernel
theorem d_M_write_40 : decode b_M_write 40 = .ok (.iload_n 3, 1) := by decide +kernel
theorem d_M_write_41 : decode b_M_write 41 = .ok (.ireturn, 1) := by decide +kernel
theorem d_M_base_0 : decode b_M_base 0 = .ok (.aload_n 0, 1) := by decide +kernel
theorem d_M_base_1 : decode b_M_base 1 = .ok (.iconst 0, 1) := by decide +kernel
theorem d_M_base_2 : decode b_M_base 2 = .ok (.putfield 35, 3) := by decide +kernel
theorem d_M_base_5 : decode b_M_base 5 = .ok (.aload_n 0, 1) := by decide +kernel
theorem d_M_base_6 : decode b_M_base 6 = .ok (.iload_n 1, 1) := by decide +kernel
theorem d_M_base_7 : decode b_M_base 7 = .ok (.invokevirtual 43, 3) := by decide +kernel
theorem d_M_base_10 : decode b_M_base 10 = .ok (.istore_n 2, 1) := by decide +kernel
theorem d_M_base_11 : decode b_M_base 11 = .ok (.iload_n 2, 1) := by decide +kernel
theorem d_M_base_12 : decode b_M_base 12 = .ok (.ifCond .ge 7, 3) := by decide +kernel
theorem d_M_base_15 : decode b_M_base 15 = .ok (.iconst (-1), 1) := by decide +kernel
theorem d_M_base_16 : decode b_M_base 16 = .ok (.goto 8, 3) := by decide +kernel
theorem d_M_base_19 : decode b_M_base 19 = .ok (.sipush 4096, 3) := by decide +kernel
theorem d_M_base_22 : decode b_M_base 22 = .ok (.iload_n 2, 1) := by decide +kernel
theorem d_M_base_23 : decode b_M_base 23 = .ok (.iadd, 1) := by decide +kernel
theorem d_M_base_24 : decode b_M_base 24 = .ok (.ireturn, 1) := by decide +kernel
theorem d_M_size_0 : decode b_M_size 0 = .ok (.aload_n 0, 1) := by decide +kernel
theorem d_M_size_1 : decode b_M_size 1 = .ok (.iconst 0, 1) := by decide +kernel
theorem d_M_size_2 : decode b_M_size 2 = .ok (.putfield 35, 3) := by decide +kernel
theorem d_M_size_5 : decode b_M_size 5 = .ok (.aload_n 0, 1) := by decide +kernel
theorem d_M_size_6 : decode b_M_size 6 = .ok (.iload_n 1, 1) := by decide +kernel
theorem d_M_size_7 : decode b_M_size 7 = .ok (.invokevirtual 43, 3) := by decide +kernel
theorem d_M_size_10 : decode b_M_size 10 = .ok (.istore_n 2, 1) := by decide +kernel
theorem d_M_size_11 : decode b_M_size 11 = .ok (.iload_n 2, 1) := by decide +kernel
theorem d_M_size_12 : decode b_M_size 12 = .ok (.ifCond .ge 7, 3) := by decide +kernel
theorem d_M_size_15 : decode b_M_size 15 = .ok (.iconst 0, 1) := by decide +kernel
theorem d_M_size_16 : decode b_M_size 16 = .ok (.goto 9, 3) := by decide +kernel
theorem d_M_size_19 : decode b_M_size 19 = .ok (.aload_n 0, 1) := by decide +kernel
theorem d_M_size_20 : decode b_M_size 20 = .ok (.getfield 19, 3) := by decide +kernel
theorem d_M_size_23 : decode b_M_size 23 = .ok (.iload_n 2, 1) := by decide +kernel
theorem d_M_size_24 : decode b_M_size 24 = .ok (.iaload, 1) := by decide +kernel
theorem d_M_size_25 : decode b_M_size 25 = .ok (.ireturn, 1) := by decide +kernel
theorem d_M_silent_0 : decode b_M_silent 0 = .ok (.aload_n 0, 1) := by decide +kernel
theorem d_M_silent_1 : decode b_M_silent 1 = .ok (.iconst 0, 1) := by decide +kernel
theorem d_M_silent_2 : decode b_M_silent 2 = .ok (.putfield 35, 3) := by decide +kernel
theorem d_M_silent_5 : decode b_M_silent 5 = .ok (.aload_n 0, 1) := by decide +kernel
theorem d_M_silent_6 : decode b_M_silent 6 = .ok (.iload_n 1, 1) := by decide +kernel
theorem d_M_silent_7 : decode b_M_silent 7 = .ok (.invokevirtual 43, 3) := by decide +kernel
theorem d_M_silent_10 : decode b_M_silent 10 = .ok (.istore_n 2, 1) := by decide +kernel
theorem d_M_silent_11 : decode b_M_silent 11 = .ok (.iload_n 2, 1) := by decide +kernel
theorem d_M_silent_12 : decode b_M_silent 12 = .ok (.ifCond .lt 16, 3) := by decide +kernel
theorem d_M_silent_15 : decode b_M_silent 15 = .ok (.aload_n 0, 1) := by decide +kernel
theorem d_M_silent_16 : decode b_M_silent 16 = .ok (.getfield 22, 3) := by decide +kernel
theorem d_M_silent_19 : decode b_M_silent 19 = .ok (.iload_n 2, 1) := by decide +kernel
theorem d_M_silent_20 : decode b_M_silent 20 = .ok (.baload, 1) := by decide +kernel
theorem d_M_silent_21 : decode b_M_silent 21 = .ok (.ifCond .eq 7, 3) := by decide +kernel
theorem d_M_silent_24 : decode b_M_silent 24 = .ok (.iconst 1, 1) := by decide +kernel
theorem d_M_silent_25 : decode b_M_silent 25 = .ok (.goto 4, 3) := by decide +kernel
theorem d_M_silent_28 : decode b_M_silent 28 = .ok (.iconst 0, 1) := by decide +kernel
theorem d_M_silent_29 : decode b_M_silent 29 = .ok (.ireturn, 1) := by decide +kernel
theorem d_M_block_0 : decode b_M_block 0 = .ok (.aload_n 0, 1) := by decide +kernel
theorem d_M_block_1 : decode b_M_block 1 = .ok (.iconst 0, 1) := by decide +kernel
theorem d_M_block_2 : decode b_M_block 2 = .ok (.putfield 35, 3) := by decide +kernel
theorem d_M_block_5 : decode b_M_block 5 = .ok (.iload_n 1, 1) := by decide +kernel
theorem d_M_block_6 : decode b_M_block 6 = .ok (.ifCond .lt 9, 3) := by decide +kernel
theorem d_M_block_9 : decode b_M_block 9 = .ok (.iload_n 1, 1) := by decide +kernel
theorem d_M_block_10 : decode b_M_block 10 = .ok (.bipush 15, 2) := by decide +kernel
theorem d_M_block_12 : decode b_M_block 12 = .ok (.if_icmp .le 7, 3) := by decide +kernel
theorem d_M_block_15 : decode b_M_block 15 = .ok (.iconst (-1), 1) := by decide +kernel
theorem d_M_block_16 : decode b_M_block 16 = .ok (.goto 30, 3) := by decide +kernel
theorem d_M_block_19 : decode b_M_block 19 = .ok (.aload_n 0, 1) := by decide +kernel
theorem d_M_block_20 : decode b_M_block 20 = .ok (.getfield 32, 3) := by decide +kernel
theorem d_M_block_23 : decode b_M_block 23 = .ok (.iload_n 1, 1) := by decide +kernel
theorem d_M_block_24 : decode b_M_block 24 = .ok (.baload, 1) := by decide +kernel
theorem d_M_block_25 : decode b_M_block 25 = .ok (.ifCond .eq 15, 3) := by decide +kernel
theorem d_M_block_28 : decode b_M_block 28 = .ok (.aload_n 0, 1) := by decide +kernel
theorem d_M_block_29 : decode b_M_block 29 = .ok (.getfield 29, 3) := by decide +kernel
theorem d_M_block_32 : decode b_M_block 32 = .ok (.iload_n 1, 1) := by decide +kernel
theorem d_M_block_33 : decode b_M_block 33 = .ok (.iaload, 1) := by decide +kernel
theorem d_M_block_34 : decode b_M_block 34 = .ok (.bipush 64, 2) := by decide +kernel
theorem d_M_block_36 : decode b_M_block 36 = .ok (.iadd, 1) := by decide +kernel
theorem d_M_block_37 : decode b_M_block 37 = .ok (.goto 9, 3) := by decide +kernel
theorem d_M_block_40 : decode b_M_block 40 = .ok (.aload_n 0, 1) := by decide +kernel
theorem d_M_block_41 : decode b_M_block 41 = .ok (.getfield 29, 3) := by decide +kernel
theorem d_M_block_44 : decode b_M_block 44 = .ok (.iload_n 1, 1) := by decide +kernel
theorem d_M_block_45 : decode b_M_block 45 = .ok (.iaload, 1) := by decide +kernel
theorem d_M_block_46 : decode b_M_block 46 = .ok (.ireturn, 1) := by decide +kernel
theorem d_M_empty_0 : decode b_M_empty 0 = .ok (.aload_n 0, 1) := by decide +kernel
theorem d_M_empty_1 : decode b_M_empty 1 = .ok (.iconst 0, 1) := by decide +kernel
theorem d_M_empty_2 : decode b_M_empty 2 = .ok (.putfield 35, 3) := by decide +kernel
theorem d_M_empty_5 : decode b_M_empty 5 = .ok (.iload_n 1, 1) := by decide +kernel
theorem d_M_empty_6 : decode b_M_empty 6 = .ok (.ifCond .lt 29, 3) := by decide +kernel
theorem d_M_empty_9 : decode b_M_empty 9 = .ok (.iload_n 1, 1) := by decide +kernel
theorem d_M_empty_10 : decode b_M_empty 10 = .ok (.bipush 15, 2) := by decide +kernel
theorem d_M_empty_12 : decode b_M_empty 12 = .ok (.if_icmp .gt 23, 3) := by decide +kernel
theorem d_M_empty_15 : decode b_M_empty 15 = .ok (.aload_n 0, 1) := by decide +kernel
theorem d_M_empty_16 : decode b_M_empty 16 = .ok (.getfield 29, 3) := by decide +kernel
theorem d_M_empty_19 : decode b_M_empty 19 = .ok (.iload_n 1, 1) := by decide +kernel
theorem d_M_empty_20 : decode b_M_empty 20 = .ok (.iaload, 1) := by decide +kernel
theorem d_M_empty_21 : decode b_M_empty 21 = .ok (.ifCond .eq 14, 3) := by decide +kernel
theorem d_M_empty_24 : decode b_M_empty 24 = .ok (.aload_n 0, 1) := by decide +kernel
theorem d_M_empty_25 : decode b_M_empty 25 = .ok (.getfield 29, 3) := by decide +kernel
theorem d_M_empty_28 : decode b_M_empty 28 = .ok (.iload_n 1, 1) := by decide +kernel
theorem d_M_empty_29 : decode b_M_empty 29 = .ok (.iaload, 1) := by decide +kernel
theorem d_M_empty_30 : decode b_M_empty 30 = .ok (.bipush 32, 2) := by decide +kernel
theorem d_M_empty_32 : decode b_M_empty 32 = .ok (.if_icmp .lt 5, 3) := by decide +kernel
theorem d_M_empty_35 : decode b_M_empty 35 = .ok (.iconst 0, 1) := by decide +kernel
theorem d_M_empty_36 : decode b_M_empty 36 = .ok (.ireturn, 1) := by decide +kernel
theorem d_M_empty_37 : decode b_M_empty 37 = .ok (.iconst 0, 1) := by decide +kernel
theorem d_M_empty_38 : decode b_M_empty 38 = .ok (.istore_n 2, 1) := by decide +kernel
theorem d_M_empty_39 : decode b_M_empty 39 = .ok (.bipush 32, 2) := by decide +kernel
theorem d_M_empty_41 : decode b_M_empty 41 = .ok (.iload_n 1, 1) := by decide +kernel
theorem d_M_empty_42 : decode b_M_empty 42 = .ok (.imul, 1) := by decide +kernel
theorem d_M_empty_43 : decode b_M_empty 43 = .ok (.istore_n 3, 1) := by decide +kernel
theorem d_M_empty_44 : decode b_M_empty 44 = .ok (.iload_n 3, 1) := by decide +kernel
theorem d_M_empty_45 : decode b_M_empty 45 = .ok (.bipush 32, 2) := by decide +kernel
theorem d_M_empty_47 : decode b_M_empty 47 = .ok (.iload_n 1, 1) := by decide +kernel
theorem d_M_empty_48 : decode b_M_empty 48 = .ok (.imul, 1) := by decide +kernel
theorem d_M_empty_49 : decode b_M_empty 49 = .ok (.bipush 32, 2) := by decide +kernel
theorem d_M_empty_51 : decode b_M_empty 51 = .ok (.iadd, 1) := by decide +kernel
theorem d_M_empty_52 : decode b_M_empty 52 = .ok (.if_icmp .ge 32, 3) := by decide +kernel
theorem d_M_empty_55 : decode b_M_empty 55 = .ok (.aload_n 0, 1) := by decide +kernel
theorem d_M_empty_56 : decode b_M_empty 56 = .ok (.getfield 16, 3) := by decide +kernel
theorem d_M_empty_59 : decode b_M_empty 59 = .ok (.iload_n 3, 1) := by decide +kernel
theorem d_M_empty_60 : decode b_M_empty 60 = .ok (.iaload, 1) := by decide +kernel
theorem d_M_empty_61 : decode b_M_empty 61 = .ok (.ifCond .ne 9, 3) := by decide +kernel
theorem d_M_empty_64 : decode b_M_empty 64 = .ok (.iload_n 2, 1) := by decide +kernel
theorem d_M_empty_65 : decode b_M_empty 65 = .ok (.iconst 1, 1) := by decide +kernel
theorem d_M_empty_66 : decode b_M_empty 66 = .ok (.iadd, 1) := by decide +kernel
theorem d_M_empty_67 : decode b_M_empty 67 = .ok (.goto 4, 3) := by decide +kernel
theorem d_M_empty_70 : decode b_M_empty 70 = .ok (.iload_n 2, 1) := by decide +kernel
theorem d_M_empty_71 : decode b_M_empty 71 = .ok (.istore_n 2, 1) := by decide +kernel
theorem d_M_empty_72 : decode b_M_empty 72 = .ok (.iload_n 3, 1) := by decide +kernel
theorem d_M_empty_73 : decode b_M_empty 73 = .ok (.aload_n 0, 1) := by decide +kernel
theorem d_M_empty_74 : decode b_M_empty 74 = .ok (.getfield 29, 3) := by decide +kernel
theorem d_M_empty_77 : decode b_M_empty 77 = .ok (.iload_n 1, 1) := by decide +kernel
theorem d_M_empty_78 : decode b_M_empty 78 = .ok (.iaload, 1) := by decide +kernel
theorem d_M_empty_79 : decode b_M_empty 79 = .ok (.iadd, 1) := by decide +kernel
theorem d_M_empty_80 : decode b_M_empty 80 = .ok (.istore_n 3, 1) := by decide +kernel
theorem d_M_empty_81 : decode b_M_empty 81 = .ok (.goto (-37), 3) := by decide +kernel
theorem d_M_empty_84 : decode b_M_empty 84 = .ok (.iload_n 2, 1) := by decide +kernel
theorem d_M_empty_85 : decode b_M_empty 85 = .ok (.ireturn, 1) := by decide +kernel
theorem d_M_objects_0 : decode b_M_objects 0 = .ok (.aload_n 0, 1) := by decide +kernel
theorem d_M_objects_1 : decode b_M_objects 1 = .ok (.iconst 0, 1) := by decide +kernel
theorem d_M_objects_2 : decode b_M_objects 2 = .ok (.putfield 35, 3) := by decide +kernel
theorem d_M_objects_5 : decode b_M_objects 5 = .ok (.iconst 0, 1) := by decide +kernel
theorem d_M_objects_6 : decode b_M_objects 6 = .ok (.istore_n 1, 1) := by decide +kernel
theorem d_M_objects_7 : decode b_M_objects 7 = .ok (.iconst 0, 1) := by decide +kernel
theorem d_M_objects_8 : decode b_M_objects 8 = .ok (.istore_n 2, 1) := by decide +kernel
theorem d_M_objects_9 : decode b_M_objects 9 = .ok (.iload_n 2, 1) := by decide +kernel
theorem d_M_objects_10 : decode b_M_objects 10 = .ok (.sipush 512, 3) := by decide +kernel
theorem d_M_objects_13 : decode b_M_objects 13 = .ok (.if_icmp .ge 29, 3) := by decide +kernel
theorem d_M_objects_16 : decode b_M_objects 16 = .ok (.aload_n 0, 1) := by decide +kernel
theorem d_M_objects_17 : decode b_M_objects 17 = .ok (.getfield 16, 3) := by decide +kernel
theorem d_M_objects_20 : decode b_M_objects 20 = .ok (.iload_n 2, 1) := by decide +kernel
theorem d_M_objects_21 : decode b_M_objects 21 = .ok (.iaload, 1) := by decide +kernel
theorem d_M_objects_22 : decode b_M_objects 22 = .ok (.iload_n 2, 1) := by decide +kernel
theorem d_M_objects_23 : decode b_M_objects 23 = .ok (.iconst 1, 1) := by decide +kernel
theorem d_M_objects_24 : decode b_M_objects 24 = .ok (.iadd, 1) := by decide +kernel
theorem d_M_objects_25 : decode b_M_objects 25 = .ok (.if_icmp .ne 9, 3) := by decide +kernel
theorem d_M_objects_28 : decode b_M_objects 28 = .ok (.iload_n 1, 1) := by decide +kernel
theorem d_M_objects_29 : decode b_M_objects 29 = .ok (.iconst 1, 1) := by decide +kernel
theorem d_M_objects_30 : decode b_M_objects 30 = .ok (.iadd, 1) := by decide +kernel
theorem d_M_objects_31 : decode b_M_objects 31 = .ok (.goto 4, 3) := by decide +kernel
theorem d_M_objects_34 : decode b_M_objects 34 = .ok (.iload_n 1, 1) := by decide +kernel
theorem d_M_objects_35 : decode b_M_objects 35 = .ok (.istore_n 1, 1) := by decide +kernel
theorem d_M_objects_36 : decode b_M_objects 36 = .ok (.iinc 2 1, 3) := by decide +kernel
theorem d_M_objects_39 : decode b_M_objects 39 = .ok (.goto (-30), 3) := by decide +kernel
theorem d_M_objects_42 : decode b_M_objects 42 = .ok (.iload_n 1, 1) := by decide +kernel
theorem d_M_objects_43 : decode b_M_objects 43 = .ok (.ireturn, 1) := by decide +kernel
theorem d_M_collections_0 : decode b_M_collections 0 = .ok (.aload_n 0, 1) := by decide +kernel
theorem d_M_collections_1 : decode b_M_collections 1 = .ok (.iconst 0, 1) := by decide +kernel
theorem d_M_collections_2 : decode b_M_collections 2 = .ok (.putfield 35, 3) := by decide +kernel
theorem d_M_collections_5 : decode b_M_collections 5 = .ok (.aload_n 0, 1) := by decide +kernel
theorem d_M_collections_6 : decode b_M_collections 6 = .ok (.getfield 53, 3) := by decide +kernel
theorem d_M_collections_9 : decode b_M_collections 9 = .ok (.ireturn, 1) := by decide +kernel

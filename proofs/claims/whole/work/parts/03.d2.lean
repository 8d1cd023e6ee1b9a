theorem d_M_init_0 : decode c_M_init 0 = .ok (.aload_n 0, 1) := by decide +kernel
theorem d_M_init_1 : decode c_M_init 1 = .ok (.invokespecial 1, 3) := by decide +kernel
theorem d_M_init_4 : decode c_M_init 4 = .ok (.aload_n 0, 1) := by decide +kernel
theorem d_M_init_5 : decode c_M_init 5 = .ok (.bipush 32, 2) := by decide +kernel
theorem d_M_init_7 : decode c_M_init 7 = .ok (.newarray .boolean, 2) := by decide +kernel
theorem d_M_init_9 : decode c_M_init 9 = .ok (.putfield 7, 3) := by decide +kernel
theorem d_M_init_12 : decode c_M_init 12 = .ok (.aload_n 0, 1) := by decide +kernel
theorem d_M_init_13 : decode c_M_init 13 = .ok (.bipush 32, 2) := by decide +kernel
theorem d_M_init_15 : decode c_M_init 15 = .ok (.newarray .int, 2) := by decide +kernel
theorem d_M_init_17 : decode c_M_init 17 = .ok (.putfield 13, 3) := by decide +kernel
theorem d_M_init_20 : decode c_M_init 20 = .ok (.aload_n 0, 1) := by decide +kernel
theorem d_M_init_21 : decode c_M_init 21 = .ok (.sipush 256, 3) := by decide +kernel
theorem d_M_init_24 : decode c_M_init 24 = .ok (.newarray .int, 2) := by decide +kernel
theorem d_M_init_26 : decode c_M_init 26 = .ok (.putfield 17, 3) := by decide +kernel
theorem d_M_init_29 : decode c_M_init 29 = .ok (.aload_n 0, 1) := by decide +kernel
theorem d_M_init_30 : decode c_M_init 30 = .ok (.bipush 32, 2) := by decide +kernel
theorem d_M_init_32 : decode c_M_init 32 = .ok (.newarray .int, 2) := by decide +kernel
theorem d_M_init_34 : decode c_M_init 34 = .ok (.putfield 20, 3) := by decide +kernel
theorem d_M_init_37 : decode c_M_init 37 = .ok (.aload_n 0, 1) := by decide +kernel
theorem d_M_init_38 : decode c_M_init 38 = .ok (.bipush 32, 2) := by decide +kernel
theorem d_M_init_40 : decode c_M_init 40 = .ok (.newarray .int, 2) := by decide +kernel
theorem d_M_init_42 : decode c_M_init 42 = .ok (.putfield 23, 3) := by decide +kernel
theorem d_M_init_45 : decode c_M_init 45 = .ok (.aload_n 0, 1) := by decide +kernel
theorem d_M_init_46 : decode c_M_init 46 = .ok (.bipush 32, 2) := by decide +kernel
theorem d_M_init_48 : decode c_M_init 48 = .ok (.newarray .long, 2) := by decide +kernel
theorem d_M_init_50 : decode c_M_init 50 = .ok (.putfield 26, 3) := by decide +kernel
theorem d_M_init_53 : decode c_M_init 53 = .ok (.aload_n 0, 1) := by decide +kernel
theorem d_M_init_54 : decode c_M_init 54 = .ok (.bipush 16, 2) := by decide +kernel
theorem d_M_init_56 : decode c_M_init 56 = .ok (.newarray .int, 2) := by decide +kernel
theorem d_M_init_58 : decode c_M_init 58 = .ok (.putfield 30, 3) := by decide +kernel
theorem d_M_init_61 : decode c_M_init 61 = .ok (.aload_n 0, 1) := by decide +kernel
theorem d_M_init_62 : decode c_M_init 62 = .ok (.iconst (-1), 1) := by decide +kernel
theorem d_M_init_63 : decode c_M_init 63 = .ok (.putfield 33, 3) := by decide +kernel
theorem d_M_init_66 : decode c_M_init 66 = .ok (.aload_n 0, 1) := by decide +kernel
theorem d_M_init_67 : decode c_M_init 67 = .ok (.iconst (-1), 1) := by decide +kernel
theorem d_M_init_68 : decode c_M_init 68 = .ok (.putfield 37, 3) := by decide +kernel
theorem d_M_init_71 : decode c_M_init 71 = .ok (.aload_n 0, 1) := by decide +kernel
theorem d_M_init_72 : decode c_M_init 72 = .ok (.bipush 64, 2) := by decide +kernel
theorem d_M_init_74 : decode c_M_init 74 = .ok (.newarray .int, 2) := by decide +kernel
theorem d_M_init_76 : decode c_M_init 76 = .ok (.putfield 40, 3) := by decide +kernel
theorem d_M_init_79 : decode c_M_init 79 = .ok (.aload_n 0, 1) := by decide +kernel
theorem d_M_init_80 : decode c_M_init 80 = .ok (.iconst (-1), 1) := by decide +kernel
theorem d_M_init_81 : decode c_M_init 81 = .ok (.putfield 43, 3) := by decide +kernel
theorem d_M_init_84 : decode c_M_init 84 = .ok (.aload_n 0, 1) := by decide +kernel
theorem d_M_init_85 : decode c_M_init 85 = .ok (.iconst (-1), 1) := by decide +kernel
theorem d_M_init_86 : decode c_M_init 86 = .ok (.putfield 46, 3) := by decide +kernel
theorem d_M_init_89 : decode c_M_init 89 = .ok (.aload_n 0, 1) := by decide +kernel
theorem d_M_init_90 : decode c_M_init 90 = .ok (.bipush 65, 2) := by decide +kernel
theorem d_M_init_92 : decode c_M_init 92 = .ok (.newarray .int, 2) := by decide +kernel
theorem d_M_init_94 : decode c_M_init 94 = .ok (.putfield 49, 3) := by decide +kernel
theorem d_M_init_97 : decode c_M_init 97 = .ok (.return_, 1) := by decide +kernel
theorem d_M_isMade_0 : decode c_M_isMade 0 = .ok (.iload_n 1, 1) := by decide +kernel
theorem d_M_isMade_1 : decode c_M_isMade 1 = .ok (.ifCond .lt 22, 3) := by decide +kernel
theorem d_M_isMade_4 : decode c_M_isMade 4 = .ok (.iload_n 1, 1) := by decide +kernel
theorem d_M_isMade_5 : decode c_M_isMade 5 = .ok (.bipush 32, 2) := by decide +kernel
theorem d_M_isMade_7 : decode c_M_isMade 7 = .ok (.if_icmp .ge 16, 3) := by decide +kernel
theorem d_M_isMade_10 : decode c_M_isMade 10 = .ok (.aload_n 0, 1) := by decide +kernel
theorem d_M_isMade_11 : decode c_M_isMade 11 = .ok (.getfield 7, 3) := by decide +kernel
theorem d_M_isMade_14 : decode c_M_isMade 14 = .ok (.iload_n 1, 1) := by decide +kernel
theorem d_M_isMade_15 : decode c_M_isMade 15 = .ok (.baload, 1) := by decide +kernel
theorem d_M_isMade_16 : decode c_M_isMade 16 = .ok (.ifCond .eq 7, 3) := by decide +kernel
theorem d_M_isMade_19 : decode c_M_isMade 19 = .ok (.iconst 1, 1) := by decide +kernel
theorem d_M_isMade_20 : decode c_M_isMade 20 = .ok (.goto 4, 3) := by decide +kernel
theorem d_M_isMade_23 : decode c_M_isMade 23 = .ok (.iconst 0, 1) := by decide +kernel
theorem d_M_isMade_24 : decode c_M_isMade 24 = .ok (.ireturn, 1) := by decide +kernel
theorem d_M_isSemaphore_0 : decode c_M_isSemaphore 0 = .ok (.iload_n 0, 1) := by decide +kernel
theorem d_M_isSemaphore_1 : decode c_M_isSemaphore 1 = .ok (.ifCond .lt 13, 3) := by decide +kernel
theorem d_M_isSemaphore_4 : decode c_M_isSemaphore 4 = .ok (.iload_n 0, 1) := by decide +kernel
theorem d_M_isSemaphore_5 : decode c_M_isSemaphore 5 = .ok (.bipush 16, 2) := by decide +kernel
theorem d_M_isSemaphore_7 : decode c_M_isSemaphore 7 = .ok (.if_icmp .ge 7, 3) := by decide +kernel
theorem d_M_isSemaphore_10 : decode c_M_isSemaphore 10 = .ok (.iconst 1, 1) := by decide +kernel
theorem d_M_isSemaphore_11 : decode c_M_isSemaphore 11 = .ok (.goto 4, 3) := by decide +kernel
theorem d_M_isSemaphore_14 : decode c_M_isSemaphore 14 = .ok (.iconst 0, 1) := by decide +kernel
theorem d_M_isSemaphore_15 : decode c_M_isSemaphore 15 = .ok (.ireturn, 1) := by decide +kernel
theorem d_M_come_0 : decode c_M_come 0 = .ok (.aload_n 0, 1) := by decide +kernel
theorem d_M_come_1 : decode c_M_come 1 = .ok (.getfield 23, 3) := by decide +kernel
theorem d_M_come_4 : decode c_M_come 4 = .ok (.iload_n 1, 1) := by decide +kernel
theorem d_M_come_5 : decode c_M_come 5 = .ok (.iload_n 2, 1) := by decide +kernel
theorem d_M_come_6 : decode c_M_come 6 = .ok (.iastore, 1) := by decide +kernel
theorem d_M_come_7 : decode c_M_come 7 = .ok (.aload_n 0, 1) := by decide +kernel
theorem d_M_come_8 : decode c_M_come 8 = .ok (.getfield 26, 3) := by decide +kernel
theorem d_M_come_11 : decode c_M_come 11 = .ok (.iload_n 1, 1) := by decide +kernel
theorem d_M_come_12 : decode c_M_come 12 = .ok (.aload_n 0, 1) := by decide +kernel
theorem d_M_come_13 : decode c_M_come 13 = .ok (.getfield 52, 3) := by decide +kernel
theorem d_M_come_16 : decode c_M_come 16 = .ok (.lastore, 1) := by decide +kernel
theorem d_M_come_17 : decode c_M_come 17 = .ok (.aload_n 0, 1) := by decide +kernel
theorem d_M_come_18 : decode c_M_come 18 = .ok (.aload_n 0, 1) := by decide +kernel
theorem d_M_come_19 : decode c_M_come 19 = .ok (.getfield 52, 3) := by decide +kernel
theorem d_M_come_22 : decode c_M_come 22 = .ok (.lconst 1, 1) := by decide +kernel
theorem d_M_come_23 : decode c_M_come 23 = .ok (.ladd, 1) := by decide +kernel
theorem d_M_come_24 : decode c_M_come 24 = .ok (.putfield 52, 3) := by decide +kernel
theorem d_M_come_27 : decode c_M_come 27 = .ok (.return_, 1) := by decide +kernel
theorem d_M_first_0 : decode c_M_first 0 = .ok (.iconst (-1), 1) := by decide +kernel
theorem d_M_first_1 : decode c_M_first 1 = .ok (.istore_n 2, 1) := by decide +kernel
theorem d_M_first_2 : decode c_M_first 2 = .ok (.iconst 0, 1) := by decide +kernel
theorem d_M_first_3 : decode c_M_first 3 = .ok (.istore_n 3, 1) := by decide +kernel
theorem d_M_first_4 : decode c_M_first 4 = .ok (.iload_n 3, 1) := by decide +kernel
theorem d_M_first_5 : decode c_M_first 5 = .ok (.bipush 32, 2) := by decide +kernel
theorem d_M_first_7 : decode c_M_first 7 = .ok (.if_icmp .ge 50, 3) := by decide +kernel
theorem d_M_first_10 : decode c_M_first 10 = .ok (.aload_n 0, 1) := by decide +kernel
theorem d_M_first_11 : decode c_M_first 11 = .ok (.getfield 7, 3) := by decide +kernel
theorem d_M_first_14 : decode c_M_first 14 = .ok (.iload_n 3, 1) := by decide +kernel
theorem d_M_first_15 : decode c_M_first 15 = .ok (.baload, 1) := by decide +kernel
theorem d_M_first_16 : decode c_M_first 16 = .ok (.ifCond .eq 35, 3) := by decide +kernel
theorem d_M_first_19 : decode c_M_first 19 = .ok (.aload_n 0, 1) := by decide +kernel
theorem d_M_first_20 : decode c_M_first 20 = .ok (.getfield 23, 3) := by decide +kernel
theorem d_M_first_23 : decode c_M_first 23 = .ok (.iload_n 3, 1) := by decide +kernel
theorem d_M_first_24 : decode c_M_first 24 = .ok (.iaload, 1) := by decide +kernel
theorem d_M_first_25 : decode c_M_first 25 = .ok (.iload_n 1, 1) := by decide +kernel
theorem d_M_first_26 : decode c_M_first 26 = .ok (.if_icmp .ne 25, 3) := by decide +kernel
theorem d_M_first_29 : decode c_M_first 29 = .ok (.iload_n 2, 1) := by decide +kernel
theorem d_M_first_30 : decode c_M_first 30 = .ok (.ifCond .lt 19, 3) := by decide +kernel
theorem d_M_first_33 : decode c_M_first 33 = .ok (.aload_n 0, 1) := by decide +kernel
theorem d_M_first_34 : decode c_M_first 34 = .ok (.getfield 26, 3) := by decide +kernel
theorem d_M_first_37 : decode c_M_first 37 = .ok (.iload_n 3, 1) := by decide +kernel
theorem d_M_first_38 : decode c_M_first 38 = .ok (.laload, 1) := by decide +kernel
theorem d_M_first_39 : decode c_M_first 39 = .ok (.aload_n 0, 1) := by decide +kernel
theorem d_M_first_40 : decode c_M_first 40 = .ok (.getfield 26, 3) := by decide +kernel
theorem d_M_first_43 : decode c_M_first 43 = .ok (.iload_n 2, 1) := by decide +kernel
theorem d_M_first_44 : decode c_M_first 44 = .ok (.laload, 1) := by decide +kernel
theorem d_M_first_45 : decode c_M_first 45 = .ok (.lcmp, 1) := by decide +kernel
theorem d_M_first_46 : decode c_M_first 46 = .ok (.ifCond .ge 5, 3) := by decide +kernel
theorem d_M_first_49 : decode c_M_first 49 = .ok (.iload_n 3, 1) := by decide +kernel
theorem d_M_first_50 : decode c_M_first 50 = .ok (.istore_n 2, 1) := by decide +kernel
theorem d_M_first_51 : decode c_M_first 51 = .ok (.iinc 3 1, 3) := by decide +kernel
theorem d_M_first_54 : decode c_M_first 54 = .ok (.goto (-50), 3) := by decide +kernel
theorem d_M_first_57 : decode c_M_first 57 = .ok (.iload_n 2, 1) := by decide +kernel
theorem d_M_first_58 : decode c_M_first 58 = .ok (.ireturn, 1) := by decide +kernel
theorem d_M_present0_0 : decode c_M_present0 0 = .ok (.aload_n 0, 1) := by decide +kernel
theorem d_M_present0_1 : decode c_M_present0 1 = .ok (.getfield 56, 3) := by decide +kernel
theorem d_M_present0_4 : decode c_M_present0 4 = .ok (.ifCond .eq 10, 3) := by decide +kernel
theorem d_M_present0_7 : decode c_M_present0 7 = .ok (.aload_n 0, 1) := by decide +kernel
theorem d_M_present0_8 : decode c_M_present0 8 = .ok (.getfield 37, 3) := by decide +kernel
theorem d_M_present0_11 : decode c_M_present0 11 = .ok (.goto 7, 3) := by decide +kernel
theorem d_M_present0_14 : decode c_M_present0 14 = .ok (.aload_n 0, 1) := by decide +kernel
theorem d_M_present0_15 : decode c_M_present0 15 = .ok (.getfield 33, 3) := by decide +kernel
theorem d_M_present0_18 : decode c_M_present0 18 = .ok (.ireturn, 1) := by decide +kernel
theorem d_M_want_0 : decode c_M_want 0 = .ok (.aload_n 0, 1) := by decide +kernel
theorem d_M_want_1 : decode c_M_want 1 = .ok (.iconst 1, 1) := by decide +kernel
theorem d_M_want_2 : decode c_M_want 2 = .ok (.putfield 56, 3) := by decide +kernel
theorem d_M_want_5 : decode c_M_want 5 = .ok (.aload_n 0, 1) := by decide +kernel
theorem d_M_want_6 : decode c_M_want 6 = .ok (.iload_n 1, 1) := by decide +kernel
theorem d_M_want_7 : decode c_M_want 7 = .ok (.putfield 37, 3) := by decide +kernel
theorem d_M_want_10 : decode c_M_want 10 = .ok (.return_, 1) := by decide +kernel
theorem d_M_rouse_0 : decode c_M_rouse 0 = .ok (.aload_n 0, 1) := by decide +kernel
theorem d_M_rouse_1 : decode c_M_rouse 1 = .ok (.invokevirtual 60, 3) := by decide +kernel
theorem d_M_rouse_4 : decode c_M_rouse 4 = .ok (.istore_n 2, 1) := by decide +kernel
theorem d_M_rouse_5 : decode c_M_rouse 5 = .ok (.iload_n 2, 1) := by decide +kernel
theorem d_M_rouse_6 : decode c_M_rouse 6 = .ok (.ifCond .lt 30, 3) := by decide +kernel
theorem d_M_rouse_9 : decode c_M_rouse 9 = .ok (.aload_n 0, 1) := by decide +kernel
theorem d_M_rouse_10 : decode c_M_rouse 10 = .ok (.getfield 13, 3) := by decide +kernel
theorem d_M_rouse_13 : decode c_M_rouse 13 = .ok (.iload_n 2, 1) := by decide +kernel
theorem d_M_rouse_14 : decode c_M_rouse 14 = .ok (.iaload, 1) := by decide +kernel
theorem d_M_rouse_15 : decode c_M_rouse 15 = .ok (.aload_n 0, 1) := by decide +kernel
theorem d_M_rouse_16 : decode c_M_rouse 16 = .ok (.getfield 13, 3) := by decide +kernel
theorem d_M_rouse_19 : decode c_M_rouse 19 = .ok (.iload_n 1, 1) := by decide +kernel
theorem d_M_rouse_20 : decode c_M_rouse 20 = .ok (.iaload, 1) := by decide +kernel
theorem d_M_rouse_21 : decode c_M_rouse 21 = .ok (.if_icmp .lt 15, 3) := by decide +kernel
theorem d_M_rouse_24 : decode c_M_rouse 24 = .ok (.aload_n 0, 1) := by decide +kernel
theorem d_M_rouse_25 : decode c_M_rouse 25 = .ok (.iload_n 1, 1) := by decide +kernel
theorem d_M_rouse_26 : decode c_M_rouse 26 = .ok (.aload_n 0, 1) := by decide +kernel
theorem d_M_rouse_27 : decode c_M_rouse 27 = .ok (.getfield 13, 3) := by decide +kernel
theorem d_M_rouse_30 : decode c_M_rouse 30 = .ok (.iload_n 1, 1) := by decide +kernel
theorem d_M_rouse_31 : decode c_M_rouse 31 = .ok (.iaload, 1) := by decide +kernel
theorem d_M_rouse_32 : decode c_M_rouse 32 = .ok (.invokevirtual 64, 3) := by decide +kernel
theorem d_M_rouse_35 : decode c_M_rouse 35 = .ok (.return_, 1) := by decide +kernel
theorem d_M_rouse_36 : decode c_M_rouse 36 = .ok (.iload_n 2, 1) := by decide +kernel
theorem d_M_rouse_37 : decode c_M_rouse 37 = .ok (.ifCond .lt 14, 3) := by decide +kernel
theorem d_M_rouse_40 : decode c_M_rouse 40 = .ok (.aload_n 0, 1) := by decide +kernel
theorem d_M_rouse_41 : decode c_M_rouse 41 = .ok (.iload_n 2, 1) := by decide +kernel
theorem d_M_rouse_42 : decode c_M_rouse 42 = .ok (.aload_n 0, 1) := by decide +kernel
theorem d_M_rouse_43 : decode c_M_rouse 43 = .ok (.getfield 13, 3) := by decide +kernel
theorem d_M_rouse_46 : decode c_M_rouse 46 = .ok (.iload_n 2, 1) := by decide +kernel
theorem d_M_rouse_47 : decode c_M_rouse 47 = .ok (.iaload, 1) := by decide +kernel
theorem d_M_rouse_48 : decode c_M_rouse 48 = .ok (.invokevirtual 64, 3) := by decide +kernel
theorem d_M_rouse_51 : decode c_M_rouse 51 = .ok (.aload_n 0, 1) := by decide +kernel
theorem d_M_rouse_52 : decode c_M_rouse 52 = .ok (.iload_n 1, 1) := by decide +kernel
theorem d_M_rouse_53 : decode c_M_rouse 53 = .ok (.invokevirtual 68, 3) := by decide +kernel
theorem d_M_rouse_56 : decode c_M_rouse 56 = .ok (.return_, 1) := by decide +kernel
theorem d_M_putAside_0 : decode c_M_putAside 0 = .ok (.iconst (-1), 1) := by decide +kernel
theorem d_M_putAside_1 : decode c_M_putAside 1 = .ok (.istore_n 1, 1) := by decide +kernel
theorem d_M_putAside_2 : decode c_M_putAside 2 = .ok (.bipush 8, 2) := by decide +kernel
theorem d_M_putAside_4 : decode c_M_putAside 4 = .ok (.istore_n 2, 1) := by decide +kernel
theorem d_M_putAside_5 : decode c_M_putAside 5 = .ok (.iload_n 2, 1) := by decide +kernel
theorem d_M_putAside_6 : decode c_M_putAside 6 = .ok (.ifCond .le 19, 3) := by decide +kernel
theorem d_M_putAside_9 : decode c_M_putAside 9 = .ok (.iload_n 1, 1) := by decide +kernel
theorem d_M_putAside_10 : decode c_M_putAside 10 = .ok (.ifCond .ge 15, 3) := by decide +kernel
theorem d_M_putAside_13 : decode c_M_putAside 13 = .ok (.aload_n 0, 1) := by decide +kernel
theorem d_M_putAside_14 : decode c_M_putAside 14 = .ok (.iload_n 2, 1) := by decide +kernel
theorem d_M_putAside_15 : decode c_M_putAside 15 = .ok (.invokevirtual 72, 3) := by decide +kernel
theorem d_M_putAside_18 : decode c_M_putAside 18 = .ok (.istore_n 1, 1) := by decide +kernel
theorem d_M_putAside_19 : decode c_M_putAside 19 = .ok (.iinc 2 (-1), 3) := by decide +kernel
theorem d_M_putAside_22 : decode c_M_putAside 22 = .ok (.goto (-17), 3) := by decide +kernel
theorem d_M_putAside_25 : decode c_M_putAside 25 = .ok (.iload_n 1, 1) := by decide +kernel
theorem d_M_putAside_26 : decode c_M_putAside 26 = .ok (.ifCond .lt 10, 3) := by decide +kernel
theorem d_M_putAside_29 : decode c_M_putAside 29 = .ok (.aload_n 0, 1) := by decide +kernel
theorem d_M_putAside_30 : decode c_M_putAside 30 = .ok (.getfield 23, 3) := by decide +kernel
theorem d_M_putAside_33 : decode c_M_putAside 33 = .ok (.iload_n 1, 1) := by decide +kernel
theorem d_M_putAside_34 : decode c_M_putAside 34 = .ok (.iconst 0, 1) := by decide +kernel
theorem d_M_putAside_35 : decode c_M_putAside 35 = .ok (.iastore, 1) := by decide +kernel
theorem d_M_putAside_36 : decode c_M_putAside 36 = .ok (.aload_n 0, 1) := by decide +kernel
theorem d_M_putAside_37 : decode c_M_putAside 37 = .ok (.iload_n 1, 1) := by decide +kernel
theorem d_M_putAside_38 : decode c_M_putAside 38 = .ok (.invokevirtual 68, 3) := by decide +kernel
theorem d_M_putAside_41 : decode c_M_putAside 41 = .ok (.return_, 1) := by decide +kernel
theorem d_M_signal0_0 : decode c_M_signal0 0 = .ok (.aload_n 0, 1) := by decide +kernel
theorem d_M_signal0_1 : decode c_M_signal0 1 = .ok (.bipush 16, 2) := by decide +kernel
theorem d_M_signal0_3 : decode c_M_signal0 3 = .ok (.iload_n 1, 1) := by decide +kernel
theorem d_M_signal0_4 : decode c_M_signal0 4 = .ok (.iadd, 1) := by decide +kernel
theorem d_M_signal0_5 : decode c_M_signal0 5 = .ok (.invokevirtual 72, 3) := by decide +kernel
theorem d_M_signal0_8 : decode c_M_signal0 8 = .ok (.istore_n 2, 1) := by decide +kernel
theorem d_M_signal0_9 : decode c_M_signal0 9 = .ok (.iload_n 2, 1) := by decide +kernel
theorem d_M_signal0_10 : decode c_M_signal0 10 = .ok (.ifCond .ge 18, 3) := by decide +kernel
theorem d_M_signal0_13 : decode c_M_signal0 13 = .ok (.aload_n 0, 1) := by decide +kernel
theorem d_M_signal0_14 : decode c_M_signal0 14 = .ok (.getfield 30, 3) := by decide +kernel
theorem d_M_signal0_17 : decode c_M_signal0 17 = .ok (.iload_n 1, 1) := by decide +kernel
theorem d_M_signal0_18 : decode c_M_signal0 18 = .ok (.aload_n 0, 1) := by decide +kernel
theorem d_M_signal0_19 : decode c_M_signal0 19 = .ok (.getfield 30, 3) := by decide +kernel
theorem d_M_signal0_22 : decode c_M_signal0 22 = .ok (.iload_n 1, 1) := by decide +kernel
theorem d_M_signal0_23 : decode c_M_signal0 23 = .ok (.iaload, 1) := by decide +kernel
theorem d_M_signal0_24 : decode c_M_signal0 24 = .ok (.iconst 1, 1) := by decide +kernel
theorem d_M_signal0_25 : decode c_M_signal0 25 = .ok (.iadd, 1) := by decide +kernel
theorem d_M_signal0_26 : decode c_M_signal0 26 = .ok (.iastore, 1) := by decide +kernel
theorem d_M_signal0_27 : decode c_M_signal0 27 = .ok (.return_, 1) := by decide +kernel
theorem d_M_signal0_28 : decode c_M_signal0 28 = .ok (.aload_n 0, 1) := by decide +kernel
theorem d_M_signal0_29 : decode c_M_signal0 29 = .ok (.getfield 23, 3) := by decide +kernel
theorem d_M_signal0_32 : decode c_M_signal0 32 = .ok (.iload_n 2, 1) := by decide +kernel
theorem d_M_signal0_33 : decode c_M_signal0 33 = .ok (.iconst 0, 1) := by decide +kernel
theorem d_M_signal0_34 : decode c_M_signal0 34 = .ok (.iastore, 1) := by decide +kernel
theorem d_M_signal0_35 : decode c_M_signal0 35 = .ok (.aload_n 0, 1) := by decide +kernel
theorem d_M_signal0_36 : decode c_M_signal0 36 = .ok (.iload_n 2, 1) := by decide +kernel
theorem d_M_signal0_37 : decode c_M_signal0 37 = .ok (.invokevirtual 76, 3) := by decide +kernel
theorem d_M_signal0_40 : decode c_M_signal0 40 = .ok (.return_, 1) := by decide +kernel
theorem d_M_await0_0 : decode c_M_await0 0 = .ok (.aload_n 0, 1) := by decide +kernel
theorem d_M_await0_1 : decode c_M_await0 1 = .ok (.invokevirtual 60, 3) := by decide +kernel
theorem d_M_await0_4 : decode c_M_await0 4 = .ok (.istore_n 2, 1) := by decide +kernel
theorem d_M_await0_5 : decode c_M_await0 5 = .ok (.iload_n 2, 1) := by decide +kernel
theorem d_M_await0_6 : decode c_M_await0 6 = .ok (.ifCond .ge 4, 3) := by decide +kernel
theorem d_M_await0_9 : decode c_M_await0 9 = .ok (.return_, 1) := by decide +kernel
theorem d_M_await0_10 : decode c_M_await0 10 = .ok (.aload_n 0, 1) := by decide +kernel
theorem d_M_await0_11 : decode c_M_await0 11 = .ok (.getfield 30, 3) := by decide +kernel
theorem d_M_await0_14 : decode c_M_await0 14 = .ok (.iload_n 1, 1) := by decide +kernel
theorem d_M_await0_15 : decode c_M_await0 15 = .ok (.iaload, 1) := by decide +kernel
theorem d_M_await0_16 : decode c_M_await0 16 = .ok (.ifCond .le 18, 3) := by decide +kernel
theorem d_M_await0_19 : decode c_M_await0 19 = .ok (.aload_n 0, 1) := by decide +kernel
theorem d_M_await0_20 : decode c_M_await0 20 = .ok (.getfield 30, 3) := by decide +kernel
theorem d_M_await0_23 : decode c_M_await0 23 = .ok (.iload_n 1, 1) := by decide +kernel
theorem d_M_await0_24 : decode c_M_await0 24 = .ok (.aload_n 0, 1) := by decide +kernel
theorem d_M_await0_25 : decode c_M_await0 25 = .ok (.getfield 30, 3) := by decide +kernel
theorem d_M_await0_28 : decode c_M_await0 28 = .ok (.iload_n 1, 1) := by decide +kernel
theorem d_M_await0_29 : decode c_M_await0 29 = .ok (.iaload, 1) := by decide +kernel
theorem d_M_await0_30 : decode c_M_await0 30 = .ok (.iconst 1, 1) := by decide +kernel
theorem d_M_await0_31 : decode c_M_await0 31 = .ok (.isub, 1) := by decide +kernel
theorem d_M_await0_32 : decode c_M_await0 32 = .ok (.iastore, 1) := by decide +kernel
theorem d_M_await0_33 : decode c_M_await0 33 = .ok (.return_, 1) := by decide +kernel
theorem d_M_await0_34 : decode c_M_await0 34 = .ok (.aload_n 0, 1) := by decide +kernel
theorem d_M_await0_35 : decode c_M_await0 35 = .ok (.iload_n 2, 1) := by decide +kernel
theorem d_M_await0_36 : decode c_M_await0 36 = .ok (.bipush 16, 2) := by decide +kernel
theorem d_M_await0_38 : decode c_M_await0 38 = .ok (.iload_n 1, 1) := by decide +kernel
theorem d_M_await0_39 : decode c_M_await0 39 = .ok (.iadd, 1) := by decide +kernel
theorem d_M_await0_40 : decode c_M_await0 40 = .ok (.invokevirtual 64, 3) := by decide +kernel
theorem d_M_await0_43 : decode c_M_await0 43 = .ok (.aload_n 0, 1) := by decide +kernel
theorem d_M_await0_44 : decode c_M_await0 44 = .ok (.invokevirtual 79, 3) := by decide +kernel
theorem d_M_await0_47 : decode c_M_await0 47 = .ok (.return_, 1) := by decide +kernel
theorem d_M_giveWay_0 : decode c_M_giveWay 0 = .ok (.aload_n 0, 1) := by decide +kernel
theorem d_M_giveWay_1 : decode c_M_giveWay 1 = .ok (.invokevirtual 60, 3) := by decide +kernel
theorem d_M_giveWay_4 : decode c_M_giveWay 4 = .ok (.istore_n 1, 1) := by decide +kernel
theorem d_M_giveWay_5 : decode c_M_giveWay 5 = .ok (.iload_n 1, 1) := by decide +kernel
theorem d_M_giveWay_6 : decode c_M_giveWay 6 = .ok (.ifCond .lt 31, 3) := by decide +kernel
theorem d_M_giveWay_9 : decode c_M_giveWay 9 = .ok (.aload_n 0, 1) := by decide +kernel
theorem d_M_giveWay_10 : decode c_M_giveWay 10 = .ok (.aload_n 0, 1) := by decide +kernel
theorem d_M_giveWay_11 : decode c_M_giveWay 11 = .ok (.getfield 13, 3) := by decide +kernel
theorem d_M_giveWay_14 : decode c_M_giveWay 14 = .ok (.iload_n 1, 1) := by decide +kernel
theorem d_M_giveWay_15 : decode c_M_giveWay 15 = .ok (.iaload, 1) := by decide +kernel
theorem d_M_giveWay_16 : decode c_M_giveWay 16 = .ok (.invokevirtual 72, 3) := by decide +kernel
theorem d_M_giveWay_19 : decode c_M_giveWay 19 = .ok (.ifCond .lt 18, 3) := by decide +kernel
theorem d_M_giveWay_22 : decode c_M_giveWay 22 = .ok (.aload_n 0, 1) := by decide +kernel
theorem d_M_giveWay_23 : decode c_M_giveWay 23 = .ok (.iload_n 1, 1) := by decide +kernel
theorem d_M_giveWay_24 : decode c_M_giveWay 24 = .ok (.aload_n 0, 1) := by decide +kernel
theorem d_M_giveWay_25 : decode c_M_giveWay 25 = .ok (.getfield 13, 3) := by decide +kernel
theorem d_M_giveWay_28 : decode c_M_giveWay 28 = .ok (.iload_n 1, 1) := by decide +kernel
theorem d_M_giveWay_29 : decode c_M_giveWay 29 = .ok (.iaload, 1) := by decide +kernel
theorem d_M_giveWay_30 : decode c_M_giveWay 30 = .ok (.invokevirtual 64, 3) := by decide +kernel
theorem d_M_giveWay_33 : decode c_M_giveWay 33 = .ok (.aload_n 0, 1) := by decide +kernel
theorem d_M_giveWay_34 : decode c_M_giveWay 34 = .ok (.invokevirtual 79, 3) := by decide +kernel
theorem d_M_giveWay_37 : decode c_M_giveWay 37 = .ok (.return_, 1) := by decide +kernel
theorem d_M_dropWord_0 : decode c_M_dropWord 0 = .ok (.aload_n 0, 1) := by decide +kernel
theorem d_M_dropWord_1 : decode c_M_dropWord 1 = .ok (.getfield 82, 3) := by decide +kernel
theorem d_M_dropWord_4 : decode c_M_dropWord 4 = .ok (.ifCond .le 43, 3) := by decide +kernel
theorem d_M_dropWord_7 : decode c_M_dropWord 7 = .ok (.aload_n 0, 1) := by decide +kernel
theorem d_M_dropWord_8 : decode c_M_dropWord 8 = .ok (.aload_n 0, 1) := by decide +kernel
theorem d_M_dropWord_9 : decode c_M_dropWord 9 = .ok (.getfield 82, 3) := by decide +kernel
theorem d_M_dropWord_12 : decode c_M_dropWord 12 = .ok (.iconst 1, 1) := by decide +kernel
theorem d_M_dropWord_13 : decode c_M_dropWord 13 = .ok (.isub, 1) := by decide +kernel
theorem d_M_dropWord_14 : decode c_M_dropWord 14 = .ok (.putfield 82, 3) := by decide +kernel
theorem d_M_dropWord_17 : decode c_M_dropWord 17 = .ok (.iconst 0, 1) := by decide +kernel
theorem d_M_dropWord_18 : decode c_M_dropWord 18 = .ok (.istore_n 1, 1) := by decide +kernel
theorem d_M_dropWord_19 : decode c_M_dropWord 19 = .ok (.iload_n 1, 1) := by decide +kernel
theorem d_M_dropWord_20 : decode c_M_dropWord 20 = .ok (.aload_n 0, 1) := by decide +kernel
theorem d_M_dropWord_21 : decode c_M_dropWord 21 = .ok (.getfield 82, 3) := by decide +kernel
theorem d_M_dropWord_24 : decode c_M_dropWord 24 = .ok (.if_icmp .ge 23, 3) := by decide +kernel
theorem d_M_dropWord_27 : decode c_M_dropWord 27 = .ok (.aload_n 0, 1) := by decide +kernel
theorem d_M_dropWord_28 : decode c_M_dropWord 28 = .ok (.getfield 40, 3) := by decide +kernel
theorem d_M_dropWord_31 : decode c_M_dropWord 31 = .ok (.iload_n 1, 1) := by decide +kernel
theorem d_M_dropWord_32 : decode c_M_dropWord 32 = .ok (.aload_n 0, 1) := by decide +kernel
theorem d_M_dropWord_33 : decode c_M_dropWord 33 = .ok (.getfield 40, 3) := by decide +kernel
theorem d_M_dropWord_36 : decode c_M_dropWord 36 = .ok (.iload_n 1, 1) := by decide +kernel
theorem d_M_dropWord_37 : decode c_M_dropWord 37 = .ok (.iconst 1, 1) := by decide +kernel
theorem d_M_dropWord_38 : decode c_M_dropWord 38 = .ok (.iadd, 1) := by decide +kernel
theorem d_M_dropWord_39 : decode c_M_dropWord 39 = .ok (.iaload, 1) := by decide +kernel
theorem d_M_dropWord_40 : decode c_M_dropWord 40 = .ok (.iastore, 1) := by decide +kernel
theorem d_M_dropWord_41 : decode c_M_dropWord 41 = .ok (.iinc 1 1, 3) := by decide +kernel
theorem d_M_dropWord_44 : decode c_M_dropWord 44 = .ok (.goto (-25), 3) := by decide +kernel
theorem d_M_dropWord_47 : decode c_M_dropWord 47 = .ok (.return_, 1) := by decide +kernel
theorem d_M_act_0 : decode c_M_act 0 = .ok (.iload_n 1, 1) := by decide +kernel
theorem d_M_act_1 : decode c_M_act 1 = .ok (.bipush 16, 2) := by decide +kernel
theorem d_M_act_3 : decode c_M_act 3 = .ok (.if_icmp .lt 20, 3) := by decide +kernel
theorem d_M_act_6 : decode c_M_act 6 = .ok (.iload_n 1, 1) := by decide +kernel
theorem d_M_act_7 : decode c_M_act 7 = .ok (.bipush 32, 2) := by decide +kernel
theorem d_M_act_9 : decode c_M_act 9 = .ok (.if_icmp .ge 14, 3) := by decide +kernel
theorem d_M_act_12 : decode c_M_act 12 = .ok (.aload_n 0, 1) := by decide +kernel
theorem d_M_act_13 : decode c_M_act 13 = .ok (.iload_n 1, 1) := by decide +kernel
theorem d_M_act_14 : decode c_M_act 14 = .ok (.bipush 16, 2) := by decide +kernel
theorem d_M_act_16 : decode c_M_act 16 = .ok (.isub, 1) := by decide +kernel
theorem d_M_act_17 : decode c_M_act 17 = .ok (.invokevirtual 85, 3) := by decide +kernel
theorem d_M_act_20 : decode c_M_act 20 = .ok (.goto 119, 3) := by decide +kernel
theorem d_M_act_23 : decode c_M_act 23 = .ok (.iload_n 1, 1) := by decide +kernel
theorem d_M_act_24 : decode c_M_act 24 = .ok (.bipush 32, 2) := by decide +kernel
theorem d_M_act_26 : decode c_M_act 26 = .ok (.if_icmp .lt 20, 3) := by decide +kernel
theorem d_M_act_29 : decode c_M_act 29 = .ok (.iload_n 1, 1) := by decide +kernel
theorem d_M_act_30 : decode c_M_act 30 = .ok (.bipush 48, 2) := by decide +kernel
theorem d_M_act_32 : decode c_M_act 32 = .ok (.if_icmp .ge 14, 3) := by decide +kernel
theorem d_M_act_35 : decode c_M_act 35 = .ok (.aload_n 0, 1) := by decide +kernel
theorem d_M_act_36 : decode c_M_act 36 = .ok (.iload_n 1, 1) := by decide +kernel
theorem d_M_act_37 : decode c_M_act 37 = .ok (.bipush 32, 2) := by decide +kernel
theorem d_M_act_39 : decode c_M_act 39 = .ok (.isub, 1) := by decide +kernel
theorem d_M_act_40 : decode c_M_act 40 = .ok (.invokevirtual 88, 3) := by decide +kernel
theorem d_M_act_43 : decode c_M_act 43 = .ok (.goto 96, 3) := by decide +kernel
theorem d_M_act_46 : decode c_M_act 46 = .ok (.iload_n 1, 1) := by decide +kernel
theorem d_M_act_47 : decode c_M_act 47 = .ok (.bipush 48, 2) := by decide +kernel
theorem d_M_act_49 : decode c_M_act 49 = .ok (.if_icmp .ne 10, 3) := by decide +kernel
theorem d_M_act_52 : decode c_M_act 52 = .ok (.aload_n 0, 1) := by decide +kernel
theorem d_M_act_53 : decode c_M_act 53 = .ok (.invokevirtual 91, 3) := by decide +kernel
theorem d_M_act_56 : decode c_M_act 56 = .ok (.goto 83, 3) := by decide +kernel
theorem d_M_act_59 : decode c_M_act 59 = .ok (.iload_n 1, 1) := by decide +kernel
theorem d_M_act_60 : decode c_M_act 60 = .ok (.bipush 49, 2) := by decide +kernel
theorem d_M_act_62 : decode c_M_act 62 = .ok (.if_icmp .ne 10, 3) := by decide +kernel
theorem d_M_act_65 : decode c_M_act 65 = .ok (.aload_n 0, 1) := by decide +kernel
theorem d_M_act_66 : decode c_M_act 66 = .ok (.invokevirtual 94, 3) := by decide +kernel
theorem d_M_act_69 : decode c_M_act 69 = .ok (.goto 70, 3) := by decide +kernel
theorem d_M_act_72 : decode c_M_act 72 = .ok (.iload_n 1, 1) := by decide +kernel
theorem d_M_act_73 : decode c_M_act 73 = .ok (.bipush 50, 2) := by decide +kernel
theorem d_M_act_75 : decode c_M_act 75 = .ok (.if_icmp .ne 11, 3) := by decide +kernel
theorem d_M_act_78 : decode c_M_act 78 = .ok (.aload_n 0, 1) := by decide +kernel
theorem d_M_act_79 : decode c_M_act 79 = .ok (.iconst (-1), 1) := by decide +kernel
theorem d_M_act_80 : decode c_M_act 80 = .ok (.putfield 43, 3) := by decide +kernel
theorem d_M_act_83 : decode c_M_act 83 = .ok (.goto 56, 3) := by decide +kernel
theorem d_M_act_86 : decode c_M_act 86 = .ok (.iload_n 1, 1) := by decide +kernel
theorem d_M_act_87 : decode c_M_act 87 = .ok (.bipush 64, 2) := by decide +kernel
theorem d_M_act_89 : decode c_M_act 89 = .ok (.if_icmp .lt 30, 3) := by decide +kernel
theorem d_M_act_92 : decode c_M_act 92 = .ok (.iload_n 1, 1) := by decide +kernel
theorem d_M_act_93 : decode c_M_act 93 = .ok (.bipush 80, 2) := by decide +kernel
theorem d_M_act_95 : decode c_M_act 95 = .ok (.if_icmp .ge 24, 3) := by decide +kernel
theorem d_M_act_98 : decode c_M_act 98 = .ok (.aload_n 0, 1) := by decide +kernel
theorem d_M_act_99 : decode c_M_act 99 = .ok (.iload_n 1, 1) := by decide +kernel
theorem d_M_act_100 : decode c_M_act 100 = .ok (.bipush 64, 2) := by decide +kernel
theorem d_M_act_102 : decode c_M_act 102 = .ok (.isub, 1) := by decide +kernel
theorem d_M_act_103 : decode c_M_act 103 = .ok (.putfield 46, 3) := by decide +kernel
theorem d_M_act_106 : decode c_M_act 106 = .ok (.aload_n 0, 1) := by decide +kernel
theorem d_M_act_107 : decode c_M_act 107 = .ok (.aload_n 0, 1) := by decide +kernel
theorem d_M_act_108 : decode c_M_act 108 = .ok (.getfield 97, 3) := by decide +kernel
theorem d_M_act_111 : decode c_M_act 111 = .ok (.iconst 3, 1) := by decide +kernel
theorem d_M_act_112 : decode c_M_act 112 = .ok (.iadd, 1) := by decide +kernel
theorem d_M_act_113 : decode c_M_act 113 = .ok (.putfield 100, 3) := by decide +kernel
theorem d_M_act_116 : decode c_M_act 116 = .ok (.goto 23, 3) := by decide +kernel
theorem d_M_act_119 : decode c_M_act 119 = .ok (.iload_n 1, 1) := by decide +kernel
theorem d_M_act_120 : decode c_M_act 120 = .ok (.bipush 80, 2) := by decide +kernel
theorem d_M_act_122 : decode c_M_act 122 = .ok (.if_icmp .lt 17, 3) := by decide +kernel
theorem d_M_act_125 : decode c_M_act 125 = .ok (.iload_n 1, 1) := by decide +kernel
theorem d_M_act_126 : decode c_M_act 126 = .ok (.bipush 96, 2) := by decide +kernel
theorem d_M_act_128 : decode c_M_act 128 = .ok (.if_icmp .ge 11, 3) := by decide +kernel
theorem d_M_act_131 : decode c_M_act 131 = .ok (.aload_n 0, 1) := by decide +kernel
theorem d_M_act_132 : decode c_M_act 132 = .ok (.iload_n 1, 1) := by decide +kernel
theorem d_M_act_133 : decode c_M_act 133 = .ok (.bipush 80, 2) := by decide +kernel
theorem d_M_act_135 : decode c_M_act 135 = .ok (.isub, 1) := by decide +kernel
theorem d_M_act_136 : decode c_M_act 136 = .ok (.putfield 43, 3) := by decide +kernel
theorem d_M_act_139 : decode c_M_act 139 = .ok (.return_, 1) := by decide +kernel
theorem d_M_post_0 : decode c_M_post 0 = .ok (.aload_n 0, 1) := by decide +kernel
theorem d_M_post_1 : decode c_M_post 1 = .ok (.getfield 49, 3) := by decide +kernel
theorem d_M_post_4 : decode c_M_post 4 = .ok (.aload_n 0, 1) := by decide +kernel
theorem d_M_post_5 : decode c_M_post 5 = .ok (.getfield 103, 3) := by decide +kernel
theorem d_M_post_8 : decode c_M_post 8 = .ok (.iload_n 1, 1) := by decide +kernel
theorem d_M_post_9 : decode c_M_post 9 = .ok (.iastore, 1) := by decide +kernel
theorem d_M_post_10 : decode c_M_post 10 = .ok (.aload_n 0, 1) := by decide +kernel
theorem d_M_post_11 : decode c_M_post 11 = .ok (.aload_n 0, 1) := by decide +kernel
theorem d_M_post_12 : decode c_M_post 12 = .ok (.getfield 103, 3) := by decide +kernel
theorem d_M_post_15 : decode c_M_post 15 = .ok (.iconst 1, 1) := by decide +kernel
theorem d_M_post_16 : decode c_M_post 16 = .ok (.iadd, 1) := by decide +kernel
theorem d_M_post_17 : decode c_M_post 17 = .ok (.putfield 103, 3) := by decide +kernel
theorem d_M_post_20 : decode c_M_post 20 = .ok (.return_, 1) := by decide +kernel
theorem d_M_behind_0 : decode c_M_behind 0 = .ok (.iconst 1, 1) := by decide +kernel
theorem d_M_behind_1 : decode c_M_behind 1 = .ok (.istore_n 1, 1) := by decide +kernel
theorem d_M_behind_2 : decode c_M_behind 2 = .ok (.iload_n 1, 1) := by decide +kernel
theorem d_M_behind_3 : decode c_M_behind 3 = .ok (.ifCond .eq 163, 3) := by decide +kernel
theorem d_M_behind_6 : decode c_M_behind 6 = .ok (.aload_n 0, 1) := by decide +kernel
theorem d_M_behind_7 : decode c_M_behind 7 = .ok (.iconst 0, 1) := by decide +kernel
theorem d_M_behind_8 : decode c_M_behind 8 = .ok (.putfield 103, 3) := by decide +kernel
theorem d_M_behind_11 : decode c_M_behind 11 = .ok (.iconst 0, 1) := by decide +kernel
theorem d_M_behind_12 : decode c_M_behind 12 = .ok (.istore_n 2, 1) := by decide +kernel
theorem d_M_behind_13 : decode c_M_behind 13 = .ok (.iload_n 2, 1) := by decide +kernel
theorem d_M_behind_14 : decode c_M_behind 14 = .ok (.aload_n 0, 1) := by decide +kernel
theorem d_M_behind_15 : decode c_M_behind 15 = .ok (.getfield 106, 3) := by decide +kernel
theorem d_M_behind_18 : decode c_M_behind 18 = .ok (.if_icmp .ge 24, 3) := by decide +kernel
theorem d_M_behind_21 : decode c_M_behind 21 = .ok (.aload_n 0, 1) := by decide +kernel
theorem d_M_behind_22 : decode c_M_behind 22 = .ok (.getfield 43, 3) := by decide +kernel
theorem d_M_behind_25 : decode c_M_behind 25 = .ok (.ifCond .lt 11, 3) := by decide +kernel
theorem d_M_behind_28 : decode c_M_behind 28 = .ok (.aload_n 0, 1) := by decide +kernel
theorem d_M_behind_29 : decode c_M_behind 29 = .ok (.aload_n 0, 1) := by decide +kernel
theorem d_M_behind_30 : decode c_M_behind 30 = .ok (.getfield 43, 3) := by decide +kernel
theorem d_M_behind_33 : decode c_M_behind 33 = .ok (.invokevirtual 109, 3) := by decide +kernel
theorem d_M_behind_36 : decode c_M_behind 36 = .ok (.iinc 2 1, 3) := by decide +kernel
theorem d_M_behind_39 : decode c_M_behind 39 = .ok (.goto (-26), 3) := by decide +kernel
theorem d_M_behind_42 : decode c_M_behind 42 = .ok (.aload_n 0, 1) := by decide +kernel
theorem d_M_behind_43 : decode c_M_behind 43 = .ok (.iconst 0, 1) := by decide +kernel
theorem d_M_behind_44 : decode c_M_behind 44 = .ok (.putfield 106, 3) := by decide +kernel
theorem d_M_behind_47 : decode c_M_behind 47 = .ok (.aload_n 0, 1) := by decide +kernel
theorem d_M_behind_48 : decode c_M_behind 48 = .ok (.getfield 46, 3) := by decide +kernel
theorem d_M_behind_51 : decode c_M_behind 51 = .ok (.ifCond .lt 27, 3) := by decide +kernel
theorem d_M_behind_54 : decode c_M_behind 54 = .ok (.aload_n 0, 1) := by decide +kernel
theorem d_M_behind_55 : decode c_M_behind 55 = .ok (.getfield 97, 3) := by decide +kernel
theorem d_M_behind_58 : decode c_M_behind 58 = .ok (.aload_n 0, 1) := by decide +kernel
theorem d_M_behind_59 : decode c_M_behind 59 = .ok (.getfield 100, 3) := by decide +kernel
theorem d_M_behind_62 : decode c_M_behind 62 = .ok (.if_icmp .lt 16, 3) := by decide +kernel
theorem d_M_behind_65 : decode c_M_behind 65 = .ok (.aload_n 0, 1) := by decide +kernel
theorem d_M_behind_66 : decode c_M_behind 66 = .ok (.aload_n 0, 1) := by decide +kernel
theorem d_M_behind_67 : decode c_M_behind 67 = .ok (.getfield 46, 3) := by decide +kernel
theorem d_M_behind_70 : decode c_M_behind 70 = .ok (.invokevirtual 109, 3) := by decide +kernel
theorem d_M_behind_73 : decode c_M_behind 73 = .ok (.aload_n 0, 1) := by decide +kernel
theorem d_M_behind_74 : decode c_M_behind 74 = .ok (.iconst (-1), 1) := by decide +kernel
theorem d_M_behind_75 : decode c_M_behind 75 = .ok (.putfield 46, 3) := by decide +kernel
theorem d_M_behind_78 : decode c_M_behind 78 = .ok (.iconst 0, 1) := by decide +kernel
theorem d_M_behind_79 : decode c_M_behind 79 = .ok (.istore_n 2, 1) := by decide +kernel
theorem d_M_behind_80 : decode c_M_behind 80 = .ok (.iload_n 2, 1) := by decide +kernel
theorem d_M_behind_81 : decode c_M_behind 81 = .ok (.aload_n 0, 1) := by decide +kernel
theorem d_M_behind_82 : decode c_M_behind 82 = .ok (.getfield 103, 3) := by decide +kernel
theorem d_M_behind_85 : decode c_M_behind 85 = .ok (.if_icmp .ge 19, 3) := by decide +kernel
theorem d_M_behind_88 : decode c_M_behind 88 = .ok (.aload_n 0, 1) := by decide +kernel
theorem d_M_behind_89 : decode c_M_behind 89 = .ok (.aload_n 0, 1) := by decide +kernel
theorem d_M_behind_90 : decode c_M_behind 90 = .ok (.getfield 49, 3) := by decide +kernel
theorem d_M_behind_93 : decode c_M_behind 93 = .ok (.iload_n 2, 1) := by decide +kernel
theorem d_M_behind_94 : decode c_M_behind 94 = .ok (.iaload, 1) := by decide +kernel
theorem d_M_behind_95 : decode c_M_behind 95 = .ok (.invokevirtual 88, 3) := by decide +kernel
theorem d_M_behind_98 : decode c_M_behind 98 = .ok (.iinc 2 1, 3) := by decide +kernel
theorem d_M_behind_101 : decode c_M_behind 101 = .ok (.goto (-21), 3) := by decide +kernel
theorem d_M_behind_104 : decode c_M_behind 104 = .ok (.aload_n 0, 1) := by decide +kernel
theorem d_M_behind_105 : decode c_M_behind 105 = .ok (.getfield 56, 3) := by decide +kernel
theorem d_M_behind_108 : decode c_M_behind 108 = .ok (.ifCond .eq 16, 3) := by decide +kernel
theorem d_M_behind_111 : decode c_M_behind 111 = .ok (.aload_n 0, 1) := by decide +kernel
theorem d_M_behind_112 : decode c_M_behind 112 = .ok (.aload_n 0, 1) := by decide +kernel
theorem d_M_behind_113 : decode c_M_behind 113 = .ok (.getfield 37, 3) := by decide +kernel
theorem d_M_behind_116 : decode c_M_behind 116 = .ok (.putfield 33, 3) := by decide +kernel
theorem d_M_behind_119 : decode c_M_behind 119 = .ok (.aload_n 0, 1) := by decide +kernel
theorem d_M_behind_120 : decode c_M_behind 120 = .ok (.iconst 0, 1) := by decide +kernel
theorem d_M_behind_121 : decode c_M_behind 121 = .ok (.putfield 56, 3) := by decide +kernel
theorem d_M_behind_124 : decode c_M_behind 124 = .ok (.aload_n 0, 1) := by decide +kernel
theorem d_M_behind_125 : decode c_M_behind 125 = .ok (.getfield 33, 3) := by decide +kernel
theorem d_M_behind_128 : decode c_M_behind 128 = .ok (.ifCond .ge 14, 3) := by decide +kernel
theorem d_M_behind_131 : decode c_M_behind 131 = .ok (.aload_n 0, 1) := by decide +kernel
theorem d_M_behind_132 : decode c_M_behind 132 = .ok (.getfield 46, 3) := by decide +kernel
theorem d_M_behind_135 : decode c_M_behind 135 = .ok (.ifCond .lt 7, 3) := by decide +kernel
theorem d_M_behind_138 : decode c_M_behind 138 = .ok (.iconst 1, 1) := by decide +kernel
theorem d_M_behind_139 : decode c_M_behind 139 = .ok (.goto 4, 3) := by decide +kernel
theorem d_M_behind_142 : decode c_M_behind 142 = .ok (.iconst 0, 1) := by decide +kernel
theorem d_M_behind_143 : decode c_M_behind 143 = .ok (.istore_n 1, 1) := by decide +kernel
theorem d_M_behind_144 : decode c_M_behind 144 = .ok (.aload_n 0, 1) := by decide +kernel
theorem d_M_behind_145 : decode c_M_behind 145 = .ok (.iload_n 1, 1) := by decide +kernel
theorem d_M_behind_146 : decode c_M_behind 146 = .ok (.ifCond .eq 10, 3) := by decide +kernel
theorem d_M_behind_149 : decode c_M_behind 149 = .ok (.aload_n 0, 1) := by decide +kernel
theorem d_M_behind_150 : decode c_M_behind 150 = .ok (.getfield 100, 3) := by decide +kernel
theorem d_M_behind_153 : decode c_M_behind 153 = .ok (.goto 7, 3) := by decide +kernel
theorem d_M_behind_156 : decode c_M_behind 156 = .ok (.aload_n 0, 1) := by decide +kernel
theorem d_M_behind_157 : decode c_M_behind 157 = .ok (.getfield 97, 3) := by decide +kernel
theorem d_M_behind_160 : decode c_M_behind 160 = .ok (.putfield 97, 3) := by decide +kernel
theorem d_M_behind_163 : decode c_M_behind 163 = .ok (.goto (-161), 3) := by decide +kernel
theorem d_M_behind_166 : decode c_M_behind 166 = .ok (.return_, 1) := by decide +kernel
theorem d_M_run_0 : decode c_M_run 0 = .ok (.iload_n 1, 1) := by decide +kernel
theorem d_M_run_1 : decode c_M_run 1 = .ok (.iconst 1, 1) := by decide +kernel
theorem d_M_run_2 : decode c_M_run 2 = .ok (.if_icmp .lt 10, 3) := by decide +kernel
theorem d_M_run_5 : decode c_M_run 5 = .ok (.iload_n 1, 1) := by decide +kernel
theorem d_M_run_6 : decode c_M_run 6 = .ok (.sipush 1000, 3) := by decide +kernel
theorem d_M_run_9 : decode c_M_run 9 = .ok (.if_icmp .le 5, 3) := by decide +kernel
theorem d_M_run_12 : decode c_M_run 12 = .ok (.iconst (-1), 1) := by decide +kernel
theorem d_M_run_13 : decode c_M_run 13 = .ok (.ireturn, 1) := by decide +kernel
theorem d_M_run_14 : decode c_M_run 14 = .ok (.aload_n 0, 1) := by decide +kernel
theorem d_M_run_15 : decode c_M_run 15 = .ok (.getfield 33, 3) := by decide +kernel
theorem d_M_run_18 : decode c_M_run 18 = .ok (.ifCond .ge 7, 3) := by decide +kernel
theorem d_M_run_21 : decode c_M_run 21 = .ok (.aload_n 0, 1) := by decide +kernel
theorem d_M_run_22 : decode c_M_run 22 = .ok (.invokevirtual 112, 3) := by decide +kernel
theorem d_M_run_25 : decode c_M_run 25 = .ok (.iconst 0, 1) := by decide +kernel
theorem d_M_run_26 : decode c_M_run 26 = .ok (.istore_n 2, 1) := by decide +kernel
theorem d_M_run_27 : decode c_M_run 27 = .ok (.iload_n 2, 1) := by decide +kernel
theorem d_M_run_28 : decode c_M_run 28 = .ok (.iload_n 1, 1) := by decide +kernel
theorem d_M_run_29 : decode c_M_run 29 = .ok (.if_icmp .ge 107, 3) := by decide +kernel
theorem d_M_run_32 : decode c_M_run 32 = .ok (.aload_n 0, 1) := by decide +kernel
theorem d_M_run_33 : decode c_M_run 33 = .ok (.getfield 33, 3) := by decide +kernel
theorem d_M_run_36 : decode c_M_run 36 = .ok (.ifCond .lt 100, 3) := by decide +kernel
theorem d_M_run_39 : decode c_M_run 39 = .ok (.aload_n 0, 1) := by decide +kernel
theorem d_M_run_40 : decode c_M_run 40 = .ok (.getfield 33, 3) := by decide +kernel
theorem d_M_run_43 : decode c_M_run 43 = .ok (.istore_n 3, 1) := by decide +kernel
theorem d_M_run_44 : decode c_M_run 44 = .ok (.aload_n 0, 1) := by decide +kernel
theorem d_M_run_45 : decode c_M_run 45 = .ok (.getfield 17, 3) := by decide +kernel
theorem d_M_run_48 : decode c_M_run 48 = .ok (.bipush 8, 2) := by decide +kernel
theorem d_M_run_50 : decode c_M_run 50 = .ok (.iload_n 3, 1) := by decide +kernel
theorem d_M_run_51 : decode c_M_run 51 = .ok (.imul, 1) := by decide +kernel
theorem d_M_run_52 : decode c_M_run 52 = .ok (.aload_n 0, 1) := by decide +kernel
theorem d_M_run_53 : decode c_M_run 53 = .ok (.getfield 20, 3) := by decide +kernel
theorem d_M_run_56 : decode c_M_run 56 = .ok (.iload_n 3, 1) := by decide +kernel
theorem d_M_run_57 : decode c_M_run 57 = .ok (.iaload, 1) := by decide +kernel
theorem d_M_run_58 : decode c_M_run 58 = .ok (.bipush 8, 2) := by decide +kernel
theorem d_M_run_60 : decode c_M_run 60 = .ok (.irem, 1) := by decide +kernel
theorem d_M_run_61 : decode c_M_run 61 = .ok (.iadd, 1) := by decide +kernel
theorem d_M_run_62 : decode c_M_run 62 = .ok (.iaload, 1) := by decide +kernel
theorem d_M_run_63 : decode c_M_run 63 = .ok (.istore 4, 2) := by decide +kernel
theorem d_M_run_65 : decode c_M_run 65 = .ok (.aload_n 0, 1) := by decide +kernel
theorem d_M_run_66 : decode c_M_run 66 = .ok (.getfield 20, 3) := by decide +kernel
theorem d_M_run_69 : decode c_M_run 69 = .ok (.iload_n 3, 1) := by decide +kernel
theorem d_M_run_70 : decode c_M_run 70 = .ok (.aload_n 0, 1) := by decide +kernel
theorem d_M_run_71 : decode c_M_run 71 = .ok (.getfield 20, 3) := by decide +kernel
theorem d_M_run_74 : decode c_M_run 74 = .ok (.iload_n 3, 1) := by decide +kernel
theorem d_M_run_75 : decode c_M_run 75 = .ok (.iaload, 1) := by decide +kernel
theorem d_M_run_76 : decode c_M_run 76 = .ok (.iconst 1, 1) := by decide +kernel
theorem d_M_run_77 : decode c_M_run 77 = .ok (.iadd, 1) := by decide +kernel
theorem d_M_run_78 : decode c_M_run 78 = .ok (.iastore, 1) := by decide +kernel
theorem d_M_run_79 : decode c_M_run 79 = .ok (.aload_n 0, 1) := by decide +kernel
theorem d_M_run_80 : decode c_M_run 80 = .ok (.iload 4, 2) := by decide +kernel
theorem d_M_run_82 : decode c_M_run 82 = .ok (.invokevirtual 115, 3) := by decide +kernel
theorem d_M_run_85 : decode c_M_run 85 = .ok (.aload_n 0, 1) := by decide +kernel
theorem d_M_run_86 : decode c_M_run 86 = .ok (.aload_n 0, 1) := by decide +kernel
theorem d_M_run_87 : decode c_M_run 87 = .ok (.getfield 118, 3) := by decide +kernel
theorem d_M_run_90 : decode c_M_run 90 = .ok (.lconst 1, 1) := by decide +kernel
theorem d_M_run_91 : decode c_M_run 91 = .ok (.ladd, 1) := by decide +kernel
theorem d_M_run_92 : decode c_M_run 92 = .ok (.putfield 118, 3) := by decide +kernel
theorem d_M_run_95 : decode c_M_run 95 = .ok (.aload_n 0, 1) := by decide +kernel
theorem d_M_run_96 : decode c_M_run 96 = .ok (.aload_n 0, 1) := by decide +kernel
theorem d_M_run_97 : decode c_M_run 97 = .ok (.getfield 118, 3) := by decide +kernel
theorem d_M_run_100 : decode c_M_run 100 = .ok (.ldc2_w 121, 3) := by decide +kernel
theorem d_M_run_103 : decode c_M_run 103 = .ok (.lrem, 1) := by decide +kernel
theorem d_M_run_104 : decode c_M_run 104 = .ok (.lconst 0, 1) := by decide +kernel
theorem d_M_run_105 : decode c_M_run 105 = .ok (.lcmp, 1) := by decide +kernel
theorem d_M_run_106 : decode c_M_run 106 = .ok (.ifCond .ne 12, 3) := by decide +kernel
theorem d_M_run_109 : decode c_M_run 109 = .ok (.aload_n 0, 1) := by decide +kernel
theorem d_M_run_110 : decode c_M_run 110 = .ok (.getfield 97, 3) := by decide +kernel
theorem d_M_run_113 : decode c_M_run 113 = .ok (.iconst 1, 1) := by decide +kernel
theorem d_M_run_114 : decode c_M_run 114 = .ok (.iadd, 1) := by decide +kernel
theorem d_M_run_115 : decode c_M_run 115 = .ok (.goto 7, 3) := by decide +kernel
theorem d_M_run_118 : decode c_M_run 118 = .ok (.aload_n 0, 1) := by decide +kernel
theorem d_M_run_119 : decode c_M_run 119 = .ok (.getfield 97, 3) := by decide +kernel
theorem d_M_run_122 : decode c_M_run 122 = .ok (.putfield 97, 3) := by decide +kernel
theorem d_M_run_125 : decode c_M_run 125 = .ok (.aload_n 0, 1) := by decide +kernel
theorem d_M_run_126 : decode c_M_run 126 = .ok (.invokevirtual 112, 3) := by decide +kernel
theorem d_M_run_129 : decode c_M_run 129 = .ok (.iload_n 2, 1) := by decide +kernel
theorem d_M_run_130 : decode c_M_run 130 = .ok (.iconst 1, 1) := by decide +kernel
theorem d_M_run_131 : decode c_M_run 131 = .ok (.iadd, 1) := by decide +kernel
theorem d_M_run_132 : decode c_M_run 132 = .ok (.istore_n 2, 1) := by decide +kernel
theorem d_M_run_133 : decode c_M_run 133 = .ok (.goto (-106), 3) := by decide +kernel
theorem d_M_run_136 : decode c_M_run 136 = .ok (.iload_n 2, 1) := by decide +kernel
theorem d_M_run_137 : decode c_M_run 137 = .ok (.ireturn, 1) := by decide +kernel
theorem d_M_make_0 : decode c_M_make 0 = .ok (.iload_n 1, 1) := by decide +kernel
theorem d_M_make_1 : decode c_M_make 1 = .ok (.ifCond .lt 29, 3) := by decide +kernel
theorem d_M_make_4 : decode c_M_make 4 = .ok (.iload_n 1, 1) := by decide +kernel
theorem d_M_make_5 : decode c_M_make 5 = .ok (.bipush 32, 2) := by decide +kernel
theorem d_M_make_7 : decode c_M_make 7 = .ok (.if_icmp .ge 23, 3) := by decide +kernel
theorem d_M_make_10 : decode c_M_make 10 = .ok (.aload_n 0, 1) := by decide +kernel
theorem d_M_make_11 : decode c_M_make 11 = .ok (.getfield 7, 3) := by decide +kernel
theorem d_M_make_14 : decode c_M_make 14 = .ok (.iload_n 1, 1) := by decide +kernel
theorem d_M_make_15 : decode c_M_make 15 = .ok (.baload, 1) := by decide +kernel
theorem d_M_make_16 : decode c_M_make 16 = .ok (.ifCond .ne 14, 3) := by decide +kernel
theorem d_M_make_19 : decode c_M_make 19 = .ok (.iload_n 2, 1) := by decide +kernel
theorem d_M_make_20 : decode c_M_make 20 = .ok (.iconst 1, 1) := by decide +kernel
theorem d_M_make_21 : decode c_M_make 21 = .ok (.if_icmp .lt 9, 3) := by decide +kernel
theorem d_M_make_24 : decode c_M_make 24 = .ok (.iload_n 2, 1) := by decide +kernel
theorem d_M_make_25 : decode c_M_make 25 = .ok (.bipush 8, 2) := by decide +kernel
theorem d_M_make_27 : decode c_M_make 27 = .ok (.if_icmp .le 5, 3) := by decide +kernel
theorem d_M_make_30 : decode c_M_make 30 = .ok (.iconst 0, 1) := by decide +kernel
theorem d_M_make_31 : decode c_M_make 31 = .ok (.ireturn, 1) := by decide +kernel
theorem d_M_make_32 : decode c_M_make 32 = .ok (.aload_n 0, 1) := by decide +kernel
theorem d_M_make_33 : decode c_M_make 33 = .ok (.getfield 7, 3) := by decide +kernel
theorem d_M_make_36 : decode c_M_make 36 = .ok (.iload_n 1, 1) := by decide +kernel
theorem d_M_make_37 : decode c_M_make 37 = .ok (.iconst 1, 1) := by decide +kernel
theorem d_M_make_38 : decode c_M_make 38 = .ok (.bastore, 1) := by decide +kernel
theorem d_M_make_39 : decode c_M_make 39 = .ok (.aload_n 0, 1) := by decide +kernel
theorem d_M_make_40 : decode c_M_make 40 = .ok (.getfield 13, 3) := by decide +kernel
theorem d_M_make_43 : decode c_M_make 43 = .ok (.iload_n 1, 1) := by decide +kernel
theorem d_M_make_44 : decode c_M_make 44 = .ok (.iload_n 2, 1) := by decide +kernel
theorem d_M_make_45 : decode c_M_make 45 = .ok (.iastore, 1) := by decide +kernel
theorem d_M_make_46 : decode c_M_make 46 = .ok (.iconst 1, 1) := by decide +kernel
theorem d_M_make_47 : decode c_M_make 47 = .ok (.ireturn, 1) := by decide +kernel
theorem d_M_plan_0 : decode c_M_plan 0 = .ok (.aload_n 0, 1) := by decide +kernel
theorem d_M_plan_1 : decode c_M_plan 1 = .ok (.iload_n 1, 1) := by decide +kernel
theorem d_M_plan_2 : decode c_M_plan 2 = .ok (.invokevirtual 123, 3) := by decide +kernel
theorem d_M_plan_5 : decode c_M_plan 5 = .ok (.ifCond .eq 23, 3) := by decide +kernel
theorem d_M_plan_8 : decode c_M_plan 8 = .ok (.iload_n 2, 1) := by decide +kernel
theorem d_M_plan_9 : decode c_M_plan 9 = .ok (.ifCond .lt 19, 3) := by decide +kernel
theorem d_M_plan_12 : decode c_M_plan 12 = .ok (.iload_n 2, 1) := by decide +kernel
theorem d_M_plan_13 : decode c_M_plan 13 = .ok (.bipush 7, 2) := by decide +kernel
theorem d_M_plan_15 : decode c_M_plan 15 = .ok (.if_icmp .gt 13, 3) := by decide +kernel
theorem d_M_plan_18 : decode c_M_plan 18 = .ok (.iload_n 3, 1) := by decide +kernel
theorem d_M_plan_19 : decode c_M_plan 19 = .ok (.ifCond .lt 9, 3) := by decide +kernel
theorem d_M_plan_22 : decode c_M_plan 22 = .ok (.iload_n 3, 1) := by decide +kernel
theorem d_M_plan_23 : decode c_M_plan 23 = .ok (.bipush 127, 2) := by decide +kernel
theorem d_M_plan_25 : decode c_M_plan 25 = .ok (.if_icmp .le 5, 3) := by decide +kernel
theorem d_M_plan_28 : decode c_M_plan 28 = .ok (.iconst (-1), 1) := by decide +kernel
theorem d_M_plan_29 : decode c_M_plan 29 = .ok (.ireturn, 1) := by decide +kernel
theorem d_M_plan_30 : decode c_M_plan 30 = .ok (.aload_n 0, 1) := by decide +kernel
theorem d_M_plan_31 : decode c_M_plan 31 = .ok (.getfield 17, 3) := by decide +kernel
theorem d_M_plan_34 : decode c_M_plan 34 = .ok (.bipush 8, 2) := by decide +kernel
theorem d_M_plan_36 : decode c_M_plan 36 = .ok (.iload_n 1, 1) := by decide +kernel
theorem d_M_plan_37 : decode c_M_plan 37 = .ok (.imul, 1) := by decide +kernel
theorem d_M_plan_38 : decode c_M_plan 38 = .ok (.iload_n 2, 1) := by decide +kernel
theorem d_M_plan_39 : decode c_M_plan 39 = .ok (.iadd, 1) := by decide +kernel
theorem d_M_plan_40 : decode c_M_plan 40 = .ok (.iaload, 1) := by decide +kernel
theorem d_M_plan_41 : decode c_M_plan 41 = .ok (.istore 4, 2) := by decide +kernel
theorem d_M_plan_43 : decode c_M_plan 43 = .ok (.aload_n 0, 1) := by decide +kernel
theorem d_M_plan_44 : decode c_M_plan 44 = .ok (.getfield 17, 3) := by decide +kernel
theorem d_M_plan_47 : decode c_M_plan 47 = .ok (.bipush 8, 2) := by decide +kernel
theorem d_M_plan_49 : decode c_M_plan 49 = .ok (.iload_n 1, 1) := by decide +kernel
theorem d_M_plan_50 : decode c_M_plan 50 = .ok (.imul, 1) := by decide +kernel
theorem d_M_plan_51 : decode c_M_plan 51 = .ok (.iload_n 2, 1) := by decide +kernel
theorem d_M_plan_52 : decode c_M_plan 52 = .ok (.iadd, 1) := by decide +kernel
theorem d_M_plan_53 : decode c_M_plan 53 = .ok (.iload_n 3, 1) := by decide +kernel
theorem d_M_plan_54 : decode c_M_plan 54 = .ok (.iastore, 1) := by decide +kernel
theorem d_M_plan_55 : decode c_M_plan 55 = .ok (.iload 4, 2) := by decide +kernel
theorem d_M_plan_57 : decode c_M_plan 57 = .ok (.ireturn, 1) := by decide +kernel
theorem d_M_wake_0 : decode c_M_wake 0 = .ok (.aload_n 0, 1) := by decide +kernel
theorem d_M_wake_1 : decode c_M_wake 1 = .ok (.iload_n 1, 1) := by decide +kernel
theorem d_M_wake_2 : decode c_M_wake 2 = .ok (.invokevirtual 123, 3) := by decide +kernel
theorem d_M_wake_5 : decode c_M_wake 5 = .ok (.ifCond .eq 28, 3) := by decide +kernel
theorem d_M_wake_8 : decode c_M_wake 8 = .ok (.aload_n 0, 1) := by decide +kernel
theorem d_M_wake_9 : decode c_M_wake 9 = .ok (.getfield 23, 3) := by decide +kernel
theorem d_M_wake_12 : decode c_M_wake 12 = .ok (.iload_n 1, 1) := by decide +kernel
theorem d_M_wake_13 : decode c_M_wake 13 = .ok (.iaload, 1) := by decide +kernel
theorem d_M_wake_14 : decode c_M_wake 14 = .ok (.ifCond .ne 19, 3) := by decide +kernel
theorem d_M_wake_17 : decode c_M_wake 17 = .ok (.iload_n 1, 1) := by decide +kernel
theorem d_M_wake_18 : decode c_M_wake 18 = .ok (.aload_n 0, 1) := by decide +kernel
theorem d_M_wake_19 : decode c_M_wake 19 = .ok (.getfield 33, 3) := by decide +kernel
theorem d_M_wake_22 : decode c_M_wake 22 = .ok (.if_icmp .eq 11, 3) := by decide +kernel
theorem d_M_wake_25 : decode c_M_wake 25 = .ok (.iload_n 1, 1) := by decide +kernel
theorem d_M_wake_26 : decode c_M_wake 26 = .ok (.aload_n 0, 1) := by decide +kernel
theorem d_M_wake_27 : decode c_M_wake 27 = .ok (.invokevirtual 60, 3) := by decide +kernel
theorem d_M_wake_30 : decode c_M_wake 30 = .ok (.if_icmp .ne 5, 3) := by decide +kernel
theorem d_M_wake_33 : decode c_M_wake 33 = .ok (.iconst 0, 1) := by decide +kernel
theorem d_M_wake_34 : decode c_M_wake 34 = .ok (.ireturn, 1) := by decide +kernel
theorem d_M_wake_35 : decode c_M_wake 35 = .ok (.aload_n 0, 1) := by decide +kernel
theorem d_M_wake_36 : decode c_M_wake 36 = .ok (.iload_n 1, 1) := by decide +kernel
theorem d_M_wake_37 : decode c_M_wake 37 = .ok (.invokevirtual 76, 3) := by decide +kernel
theorem d_M_wake_40 : decode c_M_wake 40 = .ok (.iconst 1, 1) := by decide +kernel
theorem d_M_wake_41 : decode c_M_wake 41 = .ok (.ireturn, 1) := by decide +kernel
theorem d_M_suspend_0 : decode c_M_suspend 0 = .ok (.aload_n 0, 1) := by decide +kernel
theorem d_M_suspend_1 : decode c_M_suspend 1 = .ok (.invokevirtual 60, 3) := by decide +kernel
theorem d_M_suspend_4 : decode c_M_suspend 4 = .ok (.istore_n 1, 1) := by decide +kernel
theorem d_M_suspend_5 : decode c_M_suspend 5 = .ok (.iload_n 1, 1) := by decide +kernel
theorem d_M_suspend_6 : decode c_M_suspend 6 = .ok (.ifCond .lt 7, 3) := by decide +kernel
theorem d_M_suspend_9 : decode c_M_suspend 9 = .ok (.aload_n 0, 1) := by decide +kernel
theorem d_M_suspend_10 : decode c_M_suspend 10 = .ok (.invokevirtual 79, 3) := by decide +kernel
theorem d_M_suspend_13 : decode c_M_suspend 13 = .ok (.iload_n 1, 1) := by decide +kernel
theorem d_M_suspend_14 : decode c_M_suspend 14 = .ok (.ireturn, 1) := by decide +kernel
theorem d_M_signal_0 : decode c_M_signal 0 = .ok (.iload_n 1, 1) := by decide +kernel
theorem d_M_signal_1 : decode c_M_signal 1 = .ok (.invokestatic 127, 3) := by decide +kernel
theorem d_M_signal_4 : decode c_M_signal 4 = .ok (.ifCond .ne 5, 3) := by decide +kernel
theorem d_M_signal_7 : decode c_M_signal 7 = .ok (.iconst 0, 1) := by decide +kernel
theorem d_M_signal_8 : decode c_M_signal 8 = .ok (.ireturn, 1) := by decide +kernel
theorem d_M_signal_9 : decode c_M_signal 9 = .ok (.aload_n 0, 1) := by decide +kernel
theorem d_M_signal_10 : decode c_M_signal 10 = .ok (.iload_n 1, 1) := by decide +kernel
theorem d_M_signal_11 : decode c_M_signal 11 = .ok (.invokevirtual 88, 3) := by decide +kernel
theorem d_M_signal_14 : decode c_M_signal 14 = .ok (.iconst 1, 1) := by decide +kernel
theorem d_M_signal_15 : decode c_M_signal 15 = .ok (.ireturn, 1) := by decide +kernel
theorem d_M_listen_0 : decode c_M_listen 0 = .ok (.iload_n 1, 1) := by decide +kernel
theorem d_M_listen_1 : decode c_M_listen 1 = .ok (.iconst (-1), 1) := by decide +kernel
theorem d_M_listen_2 : decode c_M_listen 2 = .ok (.if_icmp .eq 12, 3) := by decide +kernel
theorem d_M_listen_5 : decode c_M_listen 5 = .ok (.iload_n 1, 1) := by decide +kernel
theorem d_M_listen_6 : decode c_M_listen 6 = .ok (.invokestatic 127, 3) := by decide +kernel
theorem d_M_listen_9 : decode c_M_listen 9 = .ok (.ifCond .ne 5, 3) := by decide +kernel
theorem d_M_listen_12 : decode c_M_listen 12 = .ok (.iconst 0, 1) := by decide +kernel
theorem d_M_listen_13 : decode c_M_listen 13 = .ok (.ireturn, 1) := by decide +kernel
theorem d_M_listen_14 : decode c_M_listen 14 = .ok (.aload_n 0, 1) := by decide +kernel
theorem d_M_listen_15 : decode c_M_listen 15 = .ok (.iload_n 1, 1) := by decide +kernel
theorem d_M_listen_16 : decode c_M_listen 16 = .ok (.putfield 43, 3) := by decide +kernel
theorem d_M_listen_19 : decode c_M_listen 19 = .ok (.iconst 1, 1) := by decide +kernel
theorem d_M_listen_20 : decode c_M_listen 20 = .ok (.ireturn, 1) := by decide +kernel
theorem d_M_alarm_0 : decode c_M_alarm 0 = .ok (.iload_n 1, 1) := by decide +kernel
theorem d_M_alarm_1 : decode c_M_alarm 1 = .ok (.iconst (-1), 1) := by decide +kernel
theorem d_M_alarm_2 : decode c_M_alarm 2 = .ok (.if_icmp .ne 10, 3) := by decide +kernel
theorem d_M_alarm_5 : decode c_M_alarm 5 = .ok (.aload_n 0, 1) := by decide +kernel
theorem d_M_alarm_6 : decode c_M_alarm 6 = .ok (.iconst (-1), 1) := by decide +kernel
theorem d_M_alarm_7 : decode c_M_alarm 7 = .ok (.putfield 46, 3) := by decide +kernel
theorem d_M_alarm_10 : decode c_M_alarm 10 = .ok (.iconst 1, 1) := by decide +kernel
theorem d_M_alarm_11 : decode c_M_alarm 11 = .ok (.ireturn, 1) := by decide +kernel
theorem d_M_alarm_12 : decode c_M_alarm 12 = .ok (.iload_n 1, 1) := by decide +kernel
theorem d_M_alarm_13 : decode c_M_alarm 13 = .ok (.invokestatic 127, 3) := by decide +kernel
theorem d_M_alarm_16 : decode c_M_alarm 16 = .ok (.ifCond .eq 13, 3) := by decide +kernel
theorem d_M_alarm_19 : decode c_M_alarm 19 = .ok (.iload_n 2, 1) := by decide +kernel
theorem d_M_alarm_20 : decode c_M_alarm 20 = .ok (.ifCond .lt 9, 3) := by decide +kernel
theorem d_M_alarm_23 : decode c_M_alarm 23 = .ok (.iload_n 2, 1) := by decide +kernel
theorem d_M_alarm_24 : decode c_M_alarm 24 = .ok (.ldc 130, 2) := by decide +kernel
theorem d_M_alarm_26 : decode c_M_alarm 26 = .ok (.if_icmp .le 5, 3) := by decide +kernel
theorem d_M_alarm_29 : decode c_M_alarm 29 = .ok (.iconst 0, 1) := by decide +kernel
theorem d_M_alarm_30 : decode c_M_alarm 30 = .ok (.ireturn, 1) := by decide +kernel
theorem d_M_alarm_31 : decode c_M_alarm 31 = .ok (.aload_n 0, 1) := by decide +kernel
theorem d_M_alarm_32 : decode c_M_alarm 32 = .ok (.iload_n 1, 1) := by decide +kernel
theorem d_M_alarm_33 : decode c_M_alarm 33 = .ok (.putfield 46, 3) := by decide +kernel
theorem d_M_alarm_36 : decode c_M_alarm 36 = .ok (.aload_n 0, 1) := by decide +kernel
theorem d_M_alarm_37 : decode c_M_alarm 37 = .ok (.iload_n 2, 1) := by decide +kernel
theorem d_M_alarm_38 : decode c_M_alarm 38 = .ok (.putfield 100, 3) := by decide +kernel
theorem d_M_alarm_41 : decode c_M_alarm 41 = .ok (.iconst 1, 1) := by decide +kernel
theorem d_M_alarm_42 : decode c_M_alarm 42 = .ok (.ireturn, 1) := by decide +kernel
theorem d_M_word_0 : decode c_M_word 0 = .ok (.iload_n 1, 1) := by decide +kernel
theorem d_M_word_1 : decode c_M_word 1 = .ok (.ifCond .lt 18, 3) := by decide +kernel
theorem d_M_word_4 : decode c_M_word 4 = .ok (.iload_n 1, 1) := by decide +kernel
theorem d_M_word_5 : decode c_M_word 5 = .ok (.ldc 131, 2) := by decide +kernel
theorem d_M_word_7 : decode c_M_word 7 = .ok (.if_icmp .gt 12, 3) := by decide +kernel
theorem d_M_word_10 : decode c_M_word 10 = .ok (.aload_n 0, 1) := by decide +kernel
theorem d_M_word_11 : decode c_M_word 11 = .ok (.getfield 82, 3) := by decide +kernel
theorem d_M_word_14 : decode c_M_word 14 = .ok (.bipush 64, 2) := by decide +kernel
theorem d_M_word_16 : decode c_M_word 16 = .ok (.if_icmp .ne 5, 3) := by decide +kernel
theorem d_M_word_19 : decode c_M_word 19 = .ok (.iconst (-1), 1) := by decide +kernel
theorem d_M_word_20 : decode c_M_word 20 = .ok (.ireturn, 1) := by decide +kernel
theorem d_M_word_21 : decode c_M_word 21 = .ok (.aload_n 0, 1) := by decide +kernel
theorem d_M_word_22 : decode c_M_word 22 = .ok (.getfield 40, 3) := by decide +kernel
theorem d_M_word_25 : decode c_M_word 25 = .ok (.aload_n 0, 1) := by decide +kernel
theorem d_M_word_26 : decode c_M_word 26 = .ok (.getfield 82, 3) := by decide +kernel
theorem d_M_word_29 : decode c_M_word 29 = .ok (.iload_n 1, 1) := by decide +kernel
theorem d_M_word_30 : decode c_M_word 30 = .ok (.iastore, 1) := by decide +kernel
theorem d_M_word_31 : decode c_M_word 31 = .ok (.aload_n 0, 1) := by decide +kernel
theorem d_M_word_32 : decode c_M_word 32 = .ok (.aload_n 0, 1) := by decide +kernel
theorem d_M_word_33 : decode c_M_word 33 = .ok (.getfield 82, 3) := by decide +kernel
theorem d_M_word_36 : decode c_M_word 36 = .ok (.iconst 1, 1) := by decide +kernel
theorem d_M_word_37 : decode c_M_word 37 = .ok (.iadd, 1) := by decide +kernel
theorem d_M_word_38 : decode c_M_word 38 = .ok (.putfield 82, 3) := by decide +kernel
theorem d_M_word_41 : decode c_M_word 41 = .ok (.aload_n 0, 1) := by decide +kernel
theorem d_M_word_42 : decode c_M_word 42 = .ok (.aload_n 0, 1) := by decide +kernel
theorem d_M_word_43 : decode c_M_word 43 = .ok (.getfield 106, 3) := by decide +kernel
theorem d_M_word_46 : decode c_M_word 46 = .ok (.iconst 1, 1) := by decide +kernel
theorem d_M_word_47 : decode c_M_word 47 = .ok (.iadd, 1) := by decide +kernel
theorem d_M_word_48 : decode c_M_word 48 = .ok (.putfield 106, 3) := by decide +kernel
theorem d_M_word_51 : decode c_M_word 51 = .ok (.aload_n 0, 1) := by decide +kernel
theorem d_M_word_52 : decode c_M_word 52 = .ok (.getfield 82, 3) := by decide +kernel
theorem d_M_word_55 : decode c_M_word 55 = .ok (.ireturn, 1) := by decide +kernel
theorem d_M_active_0 : decode c_M_active 0 = .ok (.aload_n 0, 1) := by decide +kernel
theorem d_M_active_1 : decode c_M_active 1 = .ok (.getfield 33, 3) := by decide +kernel
theorem d_M_active_4 : decode c_M_active 4 = .ok (.ireturn, 1) := by decide +kernel
theorem d_M_present_0 : decode c_M_present 0 = .ok (.aload_n 0, 1) := by decide +kernel
theorem d_M_present_1 : decode c_M_present 1 = .ok (.invokevirtual 60, 3) := by decide +kernel
theorem d_M_present_4 : decode c_M_present 4 = .ok (.ireturn, 1) := by decide +kernel
theorem d_M_clock_0 : decode c_M_clock 0 = .ok (.aload_n 0, 1) := by decide +kernel
theorem d_M_clock_1 : decode c_M_clock 1 = .ok (.getfield 97, 3) := by decide +kernel
theorem d_M_clock_4 : decode c_M_clock 4 = .ok (.ireturn, 1) := by decide +kernel
theorem d_M_codes_0 : decode c_M_codes 0 = .ok (.aload_n 0, 1) := by decide +kernel
theorem d_M_codes_1 : decode c_M_codes 1 = .ok (.getfield 118, 3) := by decide +kernel
theorem d_M_codes_4 : decode c_M_codes 4 = .ok (.lreturn, 1) := by decide +kernel
theorem d_M_done_0 : decode c_M_done 0 = .ok (.aload_n 0, 1) := by decide +kernel
theorem d_M_done_1 : decode c_M_done 1 = .ok (.iload_n 1, 1) := by decide +kernel
theorem d_M_done_2 : decode c_M_done 2 = .ok (.invokevirtual 123, 3) := by decide +kernel
theorem d_M_done_5 : decode c_M_done 5 = .ok (.ifCond .eq 12, 3) := by decide +kernel
theorem d_M_done_8 : decode c_M_done 8 = .ok (.aload_n 0, 1) := by decide +kernel
theorem d_M_done_9 : decode c_M_done 9 = .ok (.getfield 20, 3) := by decide +kernel
theorem d_M_done_12 : decode c_M_done 12 = .ok (.iload_n 1, 1) := by decide +kernel
theorem d_M_done_13 : decode c_M_done 13 = .ok (.iaload, 1) := by decide +kernel
theorem d_M_done_14 : decode c_M_done 14 = .ok (.goto 4, 3) := by decide +kernel
theorem d_M_done_17 : decode c_M_done 17 = .ok (.iconst (-1), 1) := by decide +kernel
theorem d_M_done_18 : decode c_M_done 18 = .ok (.ireturn, 1) := by decide +kernel
theorem d_M_row_0 : decode c_M_row 0 = .ok (.aload_n 0, 1) := by decide +kernel
theorem d_M_row_1 : decode c_M_row 1 = .ok (.iload_n 1, 1) := by decide +kernel
theorem d_M_row_2 : decode c_M_row 2 = .ok (.invokevirtual 123, 3) := by decide +kernel
theorem d_M_row_5 : decode c_M_row 5 = .ok (.ifCond .eq 12, 3) := by decide +kernel
theorem d_M_row_8 : decode c_M_row 8 = .ok (.aload_n 0, 1) := by decide +kernel
theorem d_M_row_9 : decode c_M_row 9 = .ok (.getfield 23, 3) := by decide +kernel
theorem d_M_row_12 : decode c_M_row 12 = .ok (.iload_n 1, 1) := by decide +kernel
theorem d_M_row_13 : decode c_M_row 13 = .ok (.iaload, 1) := by decide +kernel
theorem d_M_row_14 : decode c_M_row 14 = .ok (.goto 4, 3) := by decide +kernel
theorem d_M_row_17 : decode c_M_row 17 = .ok (.iconst (-1), 1) := by decide +kernel
theorem d_M_row_18 : decode c_M_row 18 = .ok (.ireturn, 1) := by decide +kernel
theorem d_M_at_0 : decode c_M_at 0 = .ok (.iload_n 1, 1) := by decide +kernel
theorem d_M_at_1 : decode c_M_at 1 = .ok (.iconst 1, 1) := by decide +kernel
theorem d_M_at_2 : decode c_M_at 2 = .ok (.if_icmp .lt 9, 3) := by decide +kernel
theorem d_M_at_5 : decode c_M_at 5 = .ok (.iload_n 1, 1) := by decide +kernel
theorem d_M_at_6 : decode c_M_at 6 = .ok (.bipush 8, 2) := by decide +kernel
theorem d_M_at_8 : decode c_M_at 8 = .ok (.if_icmp .le 15, 3) := by decide +kernel
theorem d_M_at_11 : decode c_M_at 11 = .ok (.iload_n 1, 1) := by decide +kernel
theorem d_M_at_12 : decode c_M_at 12 = .ok (.bipush 16, 2) := by decide +kernel
theorem d_M_at_14 : decode c_M_at 14 = .ok (.if_icmp .lt 13, 3) := by decide +kernel
theorem d_M_at_17 : decode c_M_at 17 = .ok (.iload_n 1, 1) := by decide +kernel
theorem d_M_at_18 : decode c_M_at 18 = .ok (.bipush 31, 2) := by decide +kernel
theorem d_M_at_20 : decode c_M_at 20 = .ok (.if_icmp .gt 7, 3) := by decide +kernel
theorem d_M_at_23 : decode c_M_at 23 = .ok (.iconst 1, 1) := by decide +kernel
theorem d_M_at_24 : decode c_M_at 24 = .ok (.goto 4, 3) := by decide +kernel
theorem d_M_at_27 : decode c_M_at 27 = .ok (.iconst 0, 1) := by decide +kernel
theorem d_M_at_28 : decode c_M_at 28 = .ok (.istore_n 3, 1) := by decide +kernel
theorem d_M_at_29 : decode c_M_at 29 = .ok (.iload_n 3, 1) := by decide +kernel
theorem d_M_at_30 : decode c_M_at 30 = .ok (.ifCond .eq 7, 3) := by decide +kernel
theorem d_M_at_33 : decode c_M_at 33 = .ok (.iload_n 2, 1) := by decide +kernel
theorem d_M_at_34 : decode c_M_at 34 = .ok (.ifCond .ge 5, 3) := by decide +kernel
theorem d_M_at_37 : decode c_M_at 37 = .ok (.iconst (-1), 1) := by decide +kernel
theorem d_M_at_38 : decode c_M_at 38 = .ok (.ireturn, 1) := by decide +kernel
theorem d_M_at_39 : decode c_M_at 39 = .ok (.iconst 0, 1) := by decide +kernel
theorem d_M_at_40 : decode c_M_at 40 = .ok (.istore 4, 2) := by decide +kernel
theorem d_M_at_42 : decode c_M_at 42 = .ok (.iload 4, 2) := by decide +kernel
theorem d_M_at_44 : decode c_M_at 44 = .ok (.bipush 32, 2) := by decide +kernel
theorem d_M_at_46 : decode c_M_at 46 = .ok (.if_icmp .ge 108, 3) := by decide +kernel
theorem d_M_at_49 : decode c_M_at 49 = .ok (.iconst 0, 1) := by decide +kernel
theorem d_M_at_50 : decode c_M_at 50 = .ok (.istore 5, 2) := by decide +kernel
theorem d_M_at_52 : decode c_M_at 52 = .ok (.iconst 0, 1) := by decide +kernel
theorem d_M_at_53 : decode c_M_at 53 = .ok (.istore 6, 2) := by decide +kernel
theorem d_M_at_55 : decode c_M_at 55 = .ok (.iload 6, 2) := by decide +kernel
theorem d_M_at_57 : decode c_M_at 57 = .ok (.bipush 32, 2) := by decide +kernel
theorem d_M_at_59 : decode c_M_at 59 = .ok (.if_icmp .ge 59, 3) := by decide +kernel
theorem d_M_at_62 : decode c_M_at 62 = .ok (.aload_n 0, 1) := by decide +kernel
theorem d_M_at_63 : decode c_M_at 63 = .ok (.getfield 7, 3) := by decide +kernel
theorem d_M_at_66 : decode c_M_at 66 = .ok (.iload 6, 2) := by decide +kernel
theorem d_M_at_68 : decode c_M_at 68 = .ok (.baload, 1) := by decide +kernel
theorem d_M_at_69 : decode c_M_at 69 = .ok (.ifCond .eq 39, 3) := by decide +kernel
theorem d_M_at_72 : decode c_M_at 72 = .ok (.aload_n 0, 1) := by decide +kernel
theorem d_M_at_73 : decode c_M_at 73 = .ok (.getfield 23, 3) := by decide +kernel
theorem d_M_at_76 : decode c_M_at 76 = .ok (.iload 6, 2) := by decide +kernel
theorem d_M_at_78 : decode c_M_at 78 = .ok (.iaload, 1) := by decide +kernel
theorem d_M_at_79 : decode c_M_at 79 = .ok (.iload_n 1, 1) := by decide +kernel
theorem d_M_at_80 : decode c_M_at 80 = .ok (.if_icmp .ne 28, 3) := by decide +kernel
theorem d_M_at_83 : decode c_M_at 83 = .ok (.aload_n 0, 1) := by decide +kernel
theorem d_M_at_84 : decode c_M_at 84 = .ok (.getfield 26, 3) := by decide +kernel
theorem d_M_at_87 : decode c_M_at 87 = .ok (.iload 6, 2) := by decide +kernel
theorem d_M_at_89 : decode c_M_at 89 = .ok (.laload, 1) := by decide +kernel
theorem d_M_at_90 : decode c_M_at 90 = .ok (.aload_n 0, 1) := by decide +kernel
theorem d_M_at_91 : decode c_M_at 91 = .ok (.getfield 26, 3) := by decide +kernel
theorem d_M_at_94 : decode c_M_at 94 = .ok (.iload 4, 2) := by decide +kernel
theorem d_M_at_96 : decode c_M_at 96 = .ok (.laload, 1) := by decide +kernel
theorem d_M_at_97 : decode c_M_at 97 = .ok (.lcmp, 1) := by decide +kernel
theorem d_M_at_98 : decode c_M_at 98 = .ok (.ifCond .ge 10, 3) := by decide +kernel
theorem d_M_at_101 : decode c_M_at 101 = .ok (.iload 5, 2) := by decide +kernel
theorem d_M_at_103 : decode c_M_at 103 = .ok (.iconst 1, 1) := by decide +kernel
theorem d_M_at_104 : decode c_M_at 104 = .ok (.iadd, 1) := by decide +kernel
theorem d_M_at_105 : decode c_M_at 105 = .ok (.goto 5, 3) := by decide +kernel
theorem d_M_at_108 : decode c_M_at 108 = .ok (.iload 5, 2) := by decide +kernel
theorem d_M_at_110 : decode c_M_at 110 = .ok (.istore 5, 2) := by decide +kernel
theorem d_M_at_112 : decode c_M_at 112 = .ok (.iinc 6 1, 3) := by decide +kernel
theorem d_M_at_115 : decode c_M_at 115 = .ok (.goto (-60), 3) := by decide +kernel
theorem d_M_at_118 : decode c_M_at 118 = .ok (.aload_n 0, 1) := by decide +kernel
theorem d_M_at_119 : decode c_M_at 119 = .ok (.getfield 7, 3) := by decide +kernel
theorem d_M_at_122 : decode c_M_at 122 = .ok (.iload 4, 2) := by decide +kernel
theorem d_M_at_124 : decode c_M_at 124 = .ok (.baload, 1) := by decide +kernel
theorem d_M_at_125 : decode c_M_at 125 = .ok (.ifCond .eq 23, 3) := by decide +kernel
theorem d_M_at_128 : decode c_M_at 128 = .ok (.aload_n 0, 1) := by decide +kernel
theorem d_M_at_129 : decode c_M_at 129 = .ok (.getfield 23, 3) := by decide +kernel
theorem d_M_at_132 : decode c_M_at 132 = .ok (.iload 4, 2) := by decide +kernel
theorem d_M_at_134 : decode c_M_at 134 = .ok (.iaload, 1) := by decide +kernel
theorem d_M_at_135 : decode c_M_at 135 = .ok (.iload_n 1, 1) := by decide +kernel
theorem d_M_at_136 : decode c_M_at 136 = .ok (.if_icmp .ne 12, 3) := by decide +kernel
theorem d_M_at_139 : decode c_M_at 139 = .ok (.iload 5, 2) := by decide +kernel
theorem d_M_at_141 : decode c_M_at 141 = .ok (.iload_n 2, 1) := by decide +kernel
theorem d_M_at_142 : decode c_M_at 142 = .ok (.if_icmp .ne 6, 3) := by decide +kernel
theorem d_M_at_145 : decode c_M_at 145 = .ok (.iload 4, 2) := by decide +kernel
theorem d_M_at_147 : decode c_M_at 147 = .ok (.ireturn, 1) := by decide +kernel
theorem d_M_at_148 : decode c_M_at 148 = .ok (.iinc 4 1, 3) := by decide +kernel
theorem d_M_at_151 : decode c_M_at 151 = .ok (.goto (-109), 3) := by decide +kernel
theorem d_M_at_154 : decode c_M_at 154 = .ok (.iconst (-1), 1) := by decide +kernel
theorem d_M_at_155 : decode c_M_at 155 = .ok (.ireturn, 1) := by decide +kernel
theorem d_M_extra_0 : decode c_M_extra 0 = .ok (.iload_n 1, 1) := by decide +kernel
theorem d_M_extra_1 : decode c_M_extra 1 = .ok (.invokestatic 127, 3) := by decide +kernel
theorem d_M_extra_4 : decode c_M_extra 4 = .ok (.ifCond .eq 12, 3) := by decide +kernel
theorem d_M_extra_7 : decode c_M_extra 7 = .ok (.aload_n 0, 1) := by decide +kernel
theorem d_M_extra_8 : decode c_M_extra 8 = .ok (.getfield 30, 3) := by decide +kernel
theorem d_M_extra_11 : decode c_M_extra 11 = .ok (.iload_n 1, 1) := by decide +kernel
theorem d_M_extra_12 : decode c_M_extra 12 = .ok (.iaload, 1) := by decide +kernel
theorem d_M_extra_13 : decode c_M_extra 13 = .ok (.goto 4, 3) := by decide +kernel
theorem d_M_extra_16 : decode c_M_extra 16 = .ok (.iconst (-1), 1) := by decide +kernel
theorem d_M_extra_17 : decode c_M_extra 17 = .ok (.ireturn, 1) := by decide +kernel
theorem d_M_wordAt_0 : decode c_M_wordAt 0 = .ok (.iload_n 1, 1) := by decide +kernel
theorem d_M_wordAt_1 : decode c_M_wordAt 1 = .ok (.ifCond .lt 20, 3) := by decide +kernel
theorem d_M_wordAt_4 : decode c_M_wordAt 4 = .ok (.iload_n 1, 1) := by decide +kernel
theorem d_M_wordAt_5 : decode c_M_wordAt 5 = .ok (.aload_n 0, 1) := by decide +kernel
theorem d_M_wordAt_6 : decode c_M_wordAt 6 = .ok (.getfield 82, 3) := by decide +kernel
theorem d_M_wordAt_9 : decode c_M_wordAt 9 = .ok (.if_icmp .ge 12, 3) := by decide +kernel
theorem d_M_wordAt_12 : decode c_M_wordAt 12 = .ok (.aload_n 0, 1) := by decide +kernel
theorem d_M_wordAt_13 : decode c_M_wordAt 13 = .ok (.getfield 40, 3) := by decide +kernel
theorem d_M_wordAt_16 : decode c_M_wordAt 16 = .ok (.iload_n 1, 1) := by decide +kernel
theorem d_M_wordAt_17 : decode c_M_wordAt 17 = .ok (.iaload, 1) := by decide +kernel
theorem d_M_wordAt_18 : decode c_M_wordAt 18 = .ok (.goto 4, 3) := by decide +kernel
theorem d_M_wordAt_21 : decode c_M_wordAt 21 = .ok (.iconst (-1), 1) := by decide +kernel
theorem d_M_wordAt_22 : decode c_M_wordAt 22 = .ok (.ireturn, 1) := by decide +kernel
theorem d_M_input_0 : decode c_M_input 0 = .ok (.aload_n 0, 1) := by decide +kernel
theorem d_M_input_1 : decode c_M_input 1 = .ok (.getfield 43, 3) := by decide +kernel
theorem d_M_input_4 : decode c_M_input 4 = .ok (.ireturn, 1) := by decide +kernel
theorem d_M_tick_0 : decode c_M_tick 0 = .ok (.aload_n 0, 1) := by decide +kernel
theorem d_M_tick_1 : decode c_M_tick 1 = .ok (.getfield 46, 3) := by decide +kernel
theorem d_M_tick_4 : decode c_M_tick 4 = .ok (.ifCond .lt 10, 3) := by decide +kernel
theorem d_M_tick_7 : decode c_M_tick 7 = .ok (.aload_n 0, 1) := by decide +kernel
theorem d_M_tick_8 : decode c_M_tick 8 = .ok (.getfield 100, 3) := by decide +kernel
theorem d_M_tick_11 : decode c_M_tick 11 = .ok (.goto 4, 3) := by decide +kernel
theorem d_M_tick_14 : decode c_M_tick 14 = .ok (.iconst (-1), 1) := by decide +kernel
theorem d_M_tick_15 : decode c_M_tick 15 = .ok (.ireturn, 1) := by decide +kernel

theorem d_X_init_0 : decode c_X_init 0 = .ok (.aload_n 0, 1) := by decide +kernel
theorem d_X_init_1 : decode c_X_init 1 = .ok (.invokespecial 1, 3) := by decide +kernel
theorem d_X_init_4 : decode c_X_init 4 = .ok (.aload_n 0, 1) := by decide +kernel
theorem d_X_init_5 : decode c_X_init 5 = .ok (.bipush 32, 2) := by decide +kernel
theorem d_X_init_7 : decode c_X_init 7 = .ok (.anewarray 9, 3) := by decide +kernel
theorem d_X_init_10 : decode c_X_init 10 = .ok (.putfield 11, 3) := by decide +kernel
theorem d_X_init_13 : decode c_X_init 13 = .ok (.aload_n 0, 1) := by decide +kernel
theorem d_X_init_14 : decode c_X_init 14 = .ok (.bipush 8, 2) := by decide +kernel
theorem d_X_init_16 : decode c_X_init 16 = .ok (.anewarray 15, 3) := by decide +kernel
theorem d_X_init_19 : decode c_X_init 19 = .ok (.putfield 17, 3) := by decide +kernel
theorem d_X_init_22 : decode c_X_init 22 = .ok (.aload_n 0, 1) := by decide +kernel
theorem d_X_init_23 : decode c_X_init 23 = .ok (.bipush 16, 2) := by decide +kernel
theorem d_X_init_25 : decode c_X_init 25 = .ok (.anewarray 21, 3) := by decide +kernel
theorem d_X_init_28 : decode c_X_init 28 = .ok (.putfield 23, 3) := by decide +kernel
theorem d_X_init_31 : decode c_X_init 31 = .ok (.aload_n 0, 1) := by decide +kernel
theorem d_X_init_32 : decode c_X_init 32 = .ok (.new 27, 3) := by decide +kernel
theorem d_X_init_35 : decode c_X_init 35 = .ok (.dup, 1) := by decide +kernel
theorem d_X_init_36 : decode c_X_init 36 = .ok (.invokespecial 29, 3) := by decide +kernel
theorem d_X_init_39 : decode c_X_init 39 = .ok (.putfield 30, 3) := by decide +kernel
theorem d_X_init_42 : decode c_X_init 42 = .ok (.iconst 0, 1) := by decide +kernel
theorem d_X_init_43 : decode c_X_init 43 = .ok (.istore_n 1, 1) := by decide +kernel
theorem d_X_init_44 : decode c_X_init 44 = .ok (.iload_n 1, 1) := by decide +kernel
theorem d_X_init_45 : decode c_X_init 45 = .ok (.bipush 8, 2) := by decide +kernel
theorem d_X_init_47 : decode c_X_init 47 = .ok (.if_icmp .ge 25, 3) := by decide +kernel
theorem d_X_init_50 : decode c_X_init 50 = .ok (.aload_n 0, 1) := by decide +kernel
theorem d_X_init_51 : decode c_X_init 51 = .ok (.getfield 17, 3) := by decide +kernel
theorem d_X_init_54 : decode c_X_init 54 = .ok (.iload_n 1, 1) := by decide +kernel
theorem d_X_init_55 : decode c_X_init 55 = .ok (.new 15, 3) := by decide +kernel
theorem d_X_init_58 : decode c_X_init 58 = .ok (.dup, 1) := by decide +kernel
theorem d_X_init_59 : decode c_X_init 59 = .ok (.iload_n 1, 1) := by decide +kernel
theorem d_X_init_60 : decode c_X_init 60 = .ok (.iconst 1, 1) := by decide +kernel
theorem d_X_init_61 : decode c_X_init 61 = .ok (.iadd, 1) := by decide +kernel
theorem d_X_init_62 : decode c_X_init 62 = .ok (.invokespecial 34, 3) := by decide +kernel
theorem d_X_init_65 : decode c_X_init 65 = .ok (.aastore, 1) := by decide +kernel
theorem d_X_init_66 : decode c_X_init 66 = .ok (.iinc 1 1, 3) := by decide +kernel
theorem d_X_init_69 : decode c_X_init 69 = .ok (.goto (-25), 3) := by decide +kernel
theorem d_X_init_72 : decode c_X_init 72 = .ok (.iconst 0, 1) := by decide +kernel
theorem d_X_init_73 : decode c_X_init 73 = .ok (.istore_n 1, 1) := by decide +kernel
theorem d_X_init_74 : decode c_X_init 74 = .ok (.iload_n 1, 1) := by decide +kernel
theorem d_X_init_75 : decode c_X_init 75 = .ok (.bipush 16, 2) := by decide +kernel
theorem d_X_init_77 : decode c_X_init 77 = .ok (.if_icmp .ge 23, 3) := by decide +kernel
theorem d_X_init_80 : decode c_X_init 80 = .ok (.aload_n 0, 1) := by decide +kernel
theorem d_X_init_81 : decode c_X_init 81 = .ok (.getfield 23, 3) := by decide +kernel
theorem d_X_init_84 : decode c_X_init 84 = .ok (.iload_n 1, 1) := by decide +kernel
theorem d_X_init_85 : decode c_X_init 85 = .ok (.new 21, 3) := by decide +kernel
theorem d_X_init_88 : decode c_X_init 88 = .ok (.dup, 1) := by decide +kernel
theorem d_X_init_89 : decode c_X_init 89 = .ok (.iload_n 1, 1) := by decide +kernel
theorem d_X_init_90 : decode c_X_init 90 = .ok (.invokespecial 37, 3) := by decide +kernel
theorem d_X_init_93 : decode c_X_init 93 = .ok (.aastore, 1) := by decide +kernel
theorem d_X_init_94 : decode c_X_init 94 = .ok (.iinc 1 1, 3) := by decide +kernel
theorem d_X_init_97 : decode c_X_init 97 = .ok (.goto (-23), 3) := by decide +kernel
theorem d_X_init_100 : decode c_X_init 100 = .ok (.return_, 1) := by decide +kernel
theorem d_X_make_0 : decode c_X_make 0 = .ok (.iload_n 1, 1) := by decide +kernel
theorem d_X_make_1 : decode c_X_make 1 = .ok (.ifCond .lt 18, 3) := by decide +kernel
theorem d_X_make_4 : decode c_X_make 4 = .ok (.iload_n 1, 1) := by decide +kernel
theorem d_X_make_5 : decode c_X_make 5 = .ok (.bipush 32, 2) := by decide +kernel
theorem d_X_make_7 : decode c_X_make 7 = .ok (.if_icmp .ge 12, 3) := by decide +kernel
theorem d_X_make_10 : decode c_X_make 10 = .ok (.aload_n 0, 1) := by decide +kernel
theorem d_X_make_11 : decode c_X_make 11 = .ok (.getfield 11, 3) := by decide +kernel
theorem d_X_make_14 : decode c_X_make 14 = .ok (.iload_n 1, 1) := by decide +kernel
theorem d_X_make_15 : decode c_X_make 15 = .ok (.aaload, 1) := by decide +kernel
theorem d_X_make_16 : decode c_X_make 16 = .ok (.ifnull 5, 3) := by decide +kernel
theorem d_X_make_19 : decode c_X_make 19 = .ok (.iconst 0, 1) := by decide +kernel
theorem d_X_make_20 : decode c_X_make 20 = .ok (.ireturn, 1) := by decide +kernel
theorem d_X_make_21 : decode c_X_make 21 = .ok (.iload_n 2, 1) := by decide +kernel
theorem d_X_make_22 : decode c_X_make 22 = .ok (.iconst 1, 1) := by decide +kernel
theorem d_X_make_23 : decode c_X_make 23 = .ok (.if_icmp .lt 9, 3) := by decide +kernel
theorem d_X_make_26 : decode c_X_make 26 = .ok (.iload_n 2, 1) := by decide +kernel
theorem d_X_make_27 : decode c_X_make 27 = .ok (.bipush 8, 2) := by decide +kernel
theorem d_X_make_29 : decode c_X_make 29 = .ok (.if_icmp .le 5, 3) := by decide +kernel
theorem d_X_make_32 : decode c_X_make 32 = .ok (.iconst 0, 1) := by decide +kernel
theorem d_X_make_33 : decode c_X_make 33 = .ok (.ireturn, 1) := by decide +kernel
theorem d_X_make_34 : decode c_X_make 34 = .ok (.aload_n 0, 1) := by decide +kernel
theorem d_X_make_35 : decode c_X_make 35 = .ok (.getfield 11, 3) := by decide +kernel
theorem d_X_make_38 : decode c_X_make 38 = .ok (.iload_n 1, 1) := by decide +kernel
theorem d_X_make_39 : decode c_X_make 39 = .ok (.new 9, 3) := by decide +kernel
theorem d_X_make_42 : decode c_X_make 42 = .ok (.dup, 1) := by decide +kernel
theorem d_X_make_43 : decode c_X_make 43 = .ok (.iload_n 1, 1) := by decide +kernel
theorem d_X_make_44 : decode c_X_make 44 = .ok (.iload_n 2, 1) := by decide +kernel
theorem d_X_make_45 : decode c_X_make 45 = .ok (.aload_n 0, 1) := by decide +kernel
theorem d_X_make_46 : decode c_X_make 46 = .ok (.getfield 17, 3) := by decide +kernel
theorem d_X_make_49 : decode c_X_make 49 = .ok (.iload_n 2, 1) := by decide +kernel
theorem d_X_make_50 : decode c_X_make 50 = .ok (.iconst 1, 1) := by decide +kernel
theorem d_X_make_51 : decode c_X_make 51 = .ok (.isub, 1) := by decide +kernel
theorem d_X_make_52 : decode c_X_make 52 = .ok (.aaload, 1) := by decide +kernel
theorem d_X_make_53 : decode c_X_make 53 = .ok (.invokespecial 38, 3) := by decide +kernel
theorem d_X_make_56 : decode c_X_make 56 = .ok (.aastore, 1) := by decide +kernel
theorem d_X_make_57 : decode c_X_make 57 = .ok (.iconst 1, 1) := by decide +kernel
theorem d_X_make_58 : decode c_X_make 58 = .ok (.ireturn, 1) := by decide +kernel
theorem d_X_plan_0 : decode c_X_plan 0 = .ok (.aload_n 0, 1) := by decide +kernel
theorem d_X_plan_1 : decode c_X_plan 1 = .ok (.iload_n 1, 1) := by decide +kernel
theorem d_X_plan_2 : decode c_X_plan 2 = .ok (.invokevirtual 41, 3) := by decide +kernel
theorem d_X_plan_5 : decode c_X_plan 5 = .ok (.astore 4, 2) := by decide +kernel
theorem d_X_plan_7 : decode c_X_plan 7 = .ok (.aload 4, 2) := by decide +kernel
theorem d_X_plan_9 : decode c_X_plan 9 = .ok (.ifnull 23, 3) := by decide +kernel
theorem d_X_plan_12 : decode c_X_plan 12 = .ok (.iload_n 2, 1) := by decide +kernel
theorem d_X_plan_13 : decode c_X_plan 13 = .ok (.ifCond .lt 19, 3) := by decide +kernel
theorem d_X_plan_16 : decode c_X_plan 16 = .ok (.iload_n 2, 1) := by decide +kernel
theorem d_X_plan_17 : decode c_X_plan 17 = .ok (.bipush 8, 2) := by decide +kernel
theorem d_X_plan_19 : decode c_X_plan 19 = .ok (.if_icmp .ge 13, 3) := by decide +kernel
theorem d_X_plan_22 : decode c_X_plan 22 = .ok (.iload_n 3, 1) := by decide +kernel
theorem d_X_plan_23 : decode c_X_plan 23 = .ok (.ifCond .lt 9, 3) := by decide +kernel
theorem d_X_plan_26 : decode c_X_plan 26 = .ok (.iload_n 3, 1) := by decide +kernel
theorem d_X_plan_27 : decode c_X_plan 27 = .ok (.bipush 127, 2) := by decide +kernel
theorem d_X_plan_29 : decode c_X_plan 29 = .ok (.if_icmp .le 5, 3) := by decide +kernel
theorem d_X_plan_32 : decode c_X_plan 32 = .ok (.iconst (-1), 1) := by decide +kernel
theorem d_X_plan_33 : decode c_X_plan 33 = .ok (.ireturn, 1) := by decide +kernel
theorem d_X_plan_34 : decode c_X_plan 34 = .ok (.aload 4, 2) := by decide +kernel
theorem d_X_plan_36 : decode c_X_plan 36 = .ok (.getfield 45, 3) := by decide +kernel
theorem d_X_plan_39 : decode c_X_plan 39 = .ok (.iload_n 2, 1) := by decide +kernel
theorem d_X_plan_40 : decode c_X_plan 40 = .ok (.iaload, 1) := by decide +kernel
theorem d_X_plan_41 : decode c_X_plan 41 = .ok (.istore 5, 2) := by decide +kernel
theorem d_X_plan_43 : decode c_X_plan 43 = .ok (.aload 4, 2) := by decide +kernel
theorem d_X_plan_45 : decode c_X_plan 45 = .ok (.getfield 45, 3) := by decide +kernel
theorem d_X_plan_48 : decode c_X_plan 48 = .ok (.iload_n 2, 1) := by decide +kernel
theorem d_X_plan_49 : decode c_X_plan 49 = .ok (.iload_n 3, 1) := by decide +kernel
theorem d_X_plan_50 : decode c_X_plan 50 = .ok (.iastore, 1) := by decide +kernel
theorem d_X_plan_51 : decode c_X_plan 51 = .ok (.iload 5, 2) := by decide +kernel
theorem d_X_plan_53 : decode c_X_plan 53 = .ok (.ireturn, 1) := by decide +kernel
theorem d_X_wake_0 : decode c_X_wake 0 = .ok (.aload_n 0, 1) := by decide +kernel
theorem d_X_wake_1 : decode c_X_wake 1 = .ok (.iload_n 1, 1) := by decide +kernel
theorem d_X_wake_2 : decode c_X_wake 2 = .ok (.invokevirtual 41, 3) := by decide +kernel
theorem d_X_wake_5 : decode c_X_wake 5 = .ok (.astore_n 2, 1) := by decide +kernel
theorem d_X_wake_6 : decode c_X_wake 6 = .ok (.aload_n 2, 1) := by decide +kernel
theorem d_X_wake_7 : decode c_X_wake 7 = .ok (.ifnull 10, 3) := by decide +kernel
theorem d_X_wake_10 : decode c_X_wake 10 = .ok (.aload_n 2, 1) := by decide +kernel
theorem d_X_wake_11 : decode c_X_wake 11 = .ok (.getfield 49, 3) := by decide +kernel
theorem d_X_wake_14 : decode c_X_wake 14 = .ok (.ifCond .eq 5, 3) := by decide +kernel
theorem d_X_wake_17 : decode c_X_wake 17 = .ok (.iconst 0, 1) := by decide +kernel
theorem d_X_wake_18 : decode c_X_wake 18 = .ok (.ireturn, 1) := by decide +kernel
theorem d_X_wake_19 : decode c_X_wake 19 = .ok (.aload_n 2, 1) := by decide +kernel
theorem d_X_wake_20 : decode c_X_wake 20 = .ok (.aload_n 0, 1) := by decide +kernel
theorem d_X_wake_21 : decode c_X_wake 21 = .ok (.getfield 53, 3) := by decide +kernel
theorem d_X_wake_24 : decode c_X_wake 24 = .ok (.if_acmp .eq 11, 3) := by decide +kernel
theorem d_X_wake_27 : decode c_X_wake 27 = .ok (.aload_n 2, 1) := by decide +kernel
theorem d_X_wake_28 : decode c_X_wake 28 = .ok (.aload_n 0, 1) := by decide +kernel
theorem d_X_wake_29 : decode c_X_wake 29 = .ok (.invokevirtual 57, 3) := by decide +kernel
theorem d_X_wake_32 : decode c_X_wake 32 = .ok (.if_acmp .ne 5, 3) := by decide +kernel
theorem d_X_wake_35 : decode c_X_wake 35 = .ok (.iconst 0, 1) := by decide +kernel
theorem d_X_wake_36 : decode c_X_wake 36 = .ok (.ireturn, 1) := by decide +kernel
theorem d_X_wake_37 : decode c_X_wake 37 = .ok (.aload_n 0, 1) := by decide +kernel
theorem d_X_wake_38 : decode c_X_wake 38 = .ok (.aload_n 2, 1) := by decide +kernel
theorem d_X_wake_39 : decode c_X_wake 39 = .ok (.invokevirtual 61, 3) := by decide +kernel
theorem d_X_wake_42 : decode c_X_wake 42 = .ok (.iconst 1, 1) := by decide +kernel
theorem d_X_wake_43 : decode c_X_wake 43 = .ok (.ireturn, 1) := by decide +kernel
theorem d_X_suspend_0 : decode c_X_suspend 0 = .ok (.aload_n 0, 1) := by decide +kernel
theorem d_X_suspend_1 : decode c_X_suspend 1 = .ok (.invokevirtual 57, 3) := by decide +kernel
theorem d_X_suspend_4 : decode c_X_suspend 4 = .ok (.astore_n 1, 1) := by decide +kernel
theorem d_X_suspend_5 : decode c_X_suspend 5 = .ok (.aload_n 1, 1) := by decide +kernel
theorem d_X_suspend_6 : decode c_X_suspend 6 = .ok (.ifnonnull 5, 3) := by decide +kernel
theorem d_X_suspend_9 : decode c_X_suspend 9 = .ok (.iconst (-1), 1) := by decide +kernel
theorem d_X_suspend_10 : decode c_X_suspend 10 = .ok (.ireturn, 1) := by decide +kernel
theorem d_X_suspend_11 : decode c_X_suspend 11 = .ok (.aload_n 0, 1) := by decide +kernel
theorem d_X_suspend_12 : decode c_X_suspend 12 = .ok (.invokevirtual 65, 3) := by decide +kernel
theorem d_X_suspend_15 : decode c_X_suspend 15 = .ok (.aload_n 1, 1) := by decide +kernel
theorem d_X_suspend_16 : decode c_X_suspend 16 = .ok (.getfield 68, 3) := by decide +kernel
theorem d_X_suspend_19 : decode c_X_suspend 19 = .ok (.ireturn, 1) := by decide +kernel
theorem d_X_signal_0 : decode c_X_signal 0 = .ok (.iload_n 1, 1) := by decide +kernel
theorem d_X_signal_1 : decode c_X_signal 1 = .ok (.invokestatic 71, 3) := by decide +kernel
theorem d_X_signal_4 : decode c_X_signal 4 = .ok (.ifCond .ne 5, 3) := by decide +kernel
theorem d_X_signal_7 : decode c_X_signal 7 = .ok (.iconst 0, 1) := by decide +kernel
theorem d_X_signal_8 : decode c_X_signal 8 = .ok (.ireturn, 1) := by decide +kernel
theorem d_X_signal_9 : decode c_X_signal 9 = .ok (.aload_n 0, 1) := by decide +kernel
theorem d_X_signal_10 : decode c_X_signal 10 = .ok (.aload_n 0, 1) := by decide +kernel
theorem d_X_signal_11 : decode c_X_signal 11 = .ok (.getfield 23, 3) := by decide +kernel
theorem d_X_signal_14 : decode c_X_signal 14 = .ok (.iload_n 1, 1) := by decide +kernel
theorem d_X_signal_15 : decode c_X_signal 15 = .ok (.aaload, 1) := by decide +kernel
theorem d_X_signal_16 : decode c_X_signal 16 = .ok (.invokevirtual 75, 3) := by decide +kernel
theorem d_X_signal_19 : decode c_X_signal 19 = .ok (.iconst 1, 1) := by decide +kernel
theorem d_X_signal_20 : decode c_X_signal 20 = .ok (.ireturn, 1) := by decide +kernel
theorem d_X_listen_0 : decode c_X_listen 0 = .ok (.iload_n 1, 1) := by decide +kernel
theorem d_X_listen_1 : decode c_X_listen 1 = .ok (.iconst (-1), 1) := by decide +kernel
theorem d_X_listen_2 : decode c_X_listen 2 = .ok (.if_icmp .ne 10, 3) := by decide +kernel
theorem d_X_listen_5 : decode c_X_listen 5 = .ok (.aload_n 0, 1) := by decide +kernel
theorem d_X_listen_6 : decode c_X_listen 6 = .ok (.aconst_null, 1) := by decide +kernel
theorem d_X_listen_7 : decode c_X_listen 7 = .ok (.putfield 79, 3) := by decide +kernel
theorem d_X_listen_10 : decode c_X_listen 10 = .ok (.iconst 1, 1) := by decide +kernel
theorem d_X_listen_11 : decode c_X_listen 11 = .ok (.ireturn, 1) := by decide +kernel
theorem d_X_listen_12 : decode c_X_listen 12 = .ok (.iload_n 1, 1) := by decide +kernel
theorem d_X_listen_13 : decode c_X_listen 13 = .ok (.invokestatic 71, 3) := by decide +kernel
theorem d_X_listen_16 : decode c_X_listen 16 = .ok (.ifCond .ne 5, 3) := by decide +kernel
theorem d_X_listen_19 : decode c_X_listen 19 = .ok (.iconst 0, 1) := by decide +kernel
theorem d_X_listen_20 : decode c_X_listen 20 = .ok (.ireturn, 1) := by decide +kernel
theorem d_X_listen_21 : decode c_X_listen 21 = .ok (.aload_n 0, 1) := by decide +kernel
theorem d_X_listen_22 : decode c_X_listen 22 = .ok (.aload_n 0, 1) := by decide +kernel
theorem d_X_listen_23 : decode c_X_listen 23 = .ok (.getfield 23, 3) := by decide +kernel
theorem d_X_listen_26 : decode c_X_listen 26 = .ok (.iload_n 1, 1) := by decide +kernel
theorem d_X_listen_27 : decode c_X_listen 27 = .ok (.aaload, 1) := by decide +kernel
theorem d_X_listen_28 : decode c_X_listen 28 = .ok (.putfield 79, 3) := by decide +kernel
theorem d_X_listen_31 : decode c_X_listen 31 = .ok (.iconst 1, 1) := by decide +kernel
theorem d_X_listen_32 : decode c_X_listen 32 = .ok (.ireturn, 1) := by decide +kernel
theorem d_X_alarm_0 : decode c_X_alarm 0 = .ok (.iload_n 1, 1) := by decide +kernel
theorem d_X_alarm_1 : decode c_X_alarm 1 = .ok (.iconst (-1), 1) := by decide +kernel
theorem d_X_alarm_2 : decode c_X_alarm 2 = .ok (.if_icmp .ne 10, 3) := by decide +kernel
theorem d_X_alarm_5 : decode c_X_alarm 5 = .ok (.aload_n 0, 1) := by decide +kernel
theorem d_X_alarm_6 : decode c_X_alarm 6 = .ok (.aconst_null, 1) := by decide +kernel
theorem d_X_alarm_7 : decode c_X_alarm 7 = .ok (.putfield 83, 3) := by decide +kernel
theorem d_X_alarm_10 : decode c_X_alarm 10 = .ok (.iconst 1, 1) := by decide +kernel
theorem d_X_alarm_11 : decode c_X_alarm 11 = .ok (.ireturn, 1) := by decide +kernel
theorem d_X_alarm_12 : decode c_X_alarm 12 = .ok (.iload_n 1, 1) := by decide +kernel
theorem d_X_alarm_13 : decode c_X_alarm 13 = .ok (.invokestatic 71, 3) := by decide +kernel
theorem d_X_alarm_16 : decode c_X_alarm 16 = .ok (.ifCond .eq 13, 3) := by decide +kernel
theorem d_X_alarm_19 : decode c_X_alarm 19 = .ok (.iload_n 2, 1) := by decide +kernel
theorem d_X_alarm_20 : decode c_X_alarm 20 = .ok (.ifCond .lt 9, 3) := by decide +kernel
theorem d_X_alarm_23 : decode c_X_alarm 23 = .ok (.iload_n 2, 1) := by decide +kernel
theorem d_X_alarm_24 : decode c_X_alarm 24 = .ok (.ldc 86, 2) := by decide +kernel
theorem d_X_alarm_26 : decode c_X_alarm 26 = .ok (.if_icmp .le 5, 3) := by decide +kernel
theorem d_X_alarm_29 : decode c_X_alarm 29 = .ok (.iconst 0, 1) := by decide +kernel
theorem d_X_alarm_30 : decode c_X_alarm 30 = .ok (.ireturn, 1) := by decide +kernel
theorem d_X_alarm_31 : decode c_X_alarm 31 = .ok (.aload_n 0, 1) := by decide +kernel
theorem d_X_alarm_32 : decode c_X_alarm 32 = .ok (.aload_n 0, 1) := by decide +kernel
theorem d_X_alarm_33 : decode c_X_alarm 33 = .ok (.getfield 23, 3) := by decide +kernel
theorem d_X_alarm_36 : decode c_X_alarm 36 = .ok (.iload_n 1, 1) := by decide +kernel
theorem d_X_alarm_37 : decode c_X_alarm 37 = .ok (.aaload, 1) := by decide +kernel
theorem d_X_alarm_38 : decode c_X_alarm 38 = .ok (.iload_n 2, 1) := by decide +kernel
theorem d_X_alarm_39 : decode c_X_alarm 39 = .ok (.invokevirtual 87, 3) := by decide +kernel
theorem d_X_alarm_42 : decode c_X_alarm 42 = .ok (.iconst 1, 1) := by decide +kernel
theorem d_X_alarm_43 : decode c_X_alarm 43 = .ok (.ireturn, 1) := by decide +kernel
theorem d_X_word_0 : decode c_X_word 0 = .ok (.iload_n 1, 1) := by decide +kernel
theorem d_X_word_1 : decode c_X_word 1 = .ok (.ifCond .lt 9, 3) := by decide +kernel
theorem d_X_word_4 : decode c_X_word 4 = .ok (.iload_n 1, 1) := by decide +kernel
theorem d_X_word_5 : decode c_X_word 5 = .ok (.ldc 91, 2) := by decide +kernel
theorem d_X_word_7 : decode c_X_word 7 = .ok (.if_icmp .le 7, 3) := by decide +kernel
theorem d_X_word_10 : decode c_X_word 10 = .ok (.iconst (-1), 1) := by decide +kernel
theorem d_X_word_11 : decode c_X_word 11 = .ok (.goto 11, 3) := by decide +kernel
theorem d_X_word_14 : decode c_X_word 14 = .ok (.aload_n 0, 1) := by decide +kernel
theorem d_X_word_15 : decode c_X_word 15 = .ok (.getfield 30, 3) := by decide +kernel
theorem d_X_word_18 : decode c_X_word 18 = .ok (.iload_n 1, 1) := by decide +kernel
theorem d_X_word_19 : decode c_X_word 19 = .ok (.invokevirtual 92, 3) := by decide +kernel
theorem d_X_word_22 : decode c_X_word 22 = .ok (.ireturn, 1) := by decide +kernel
theorem d_X_run_0 : decode c_X_run 0 = .ok (.iload_n 1, 1) := by decide +kernel
theorem d_X_run_1 : decode c_X_run 1 = .ok (.iconst 1, 1) := by decide +kernel
theorem d_X_run_2 : decode c_X_run 2 = .ok (.if_icmp .lt 10, 3) := by decide +kernel
theorem d_X_run_5 : decode c_X_run 5 = .ok (.iload_n 1, 1) := by decide +kernel
theorem d_X_run_6 : decode c_X_run 6 = .ok (.sipush 1000, 3) := by decide +kernel
theorem d_X_run_9 : decode c_X_run 9 = .ok (.if_icmp .le 5, 3) := by decide +kernel
theorem d_X_run_12 : decode c_X_run 12 = .ok (.iconst (-1), 1) := by decide +kernel
theorem d_X_run_13 : decode c_X_run 13 = .ok (.ireturn, 1) := by decide +kernel
theorem d_X_run_14 : decode c_X_run 14 = .ok (.aload_n 0, 1) := by decide +kernel
theorem d_X_run_15 : decode c_X_run 15 = .ok (.getfield 53, 3) := by decide +kernel
theorem d_X_run_18 : decode c_X_run 18 = .ok (.ifnonnull 7, 3) := by decide +kernel
theorem d_X_run_21 : decode c_X_run 21 = .ok (.aload_n 0, 1) := by decide +kernel
theorem d_X_run_22 : decode c_X_run 22 = .ok (.invokevirtual 96, 3) := by decide +kernel
theorem d_X_run_25 : decode c_X_run 25 = .ok (.iconst 0, 1) := by decide +kernel
theorem d_X_run_26 : decode c_X_run 26 = .ok (.istore_n 2, 1) := by decide +kernel
theorem d_X_run_27 : decode c_X_run 27 = .ok (.iload_n 2, 1) := by decide +kernel
theorem d_X_run_28 : decode c_X_run 28 = .ok (.iload_n 1, 1) := by decide +kernel
theorem d_X_run_29 : decode c_X_run 29 = .ok (.if_icmp .ge 28, 3) := by decide +kernel
theorem d_X_run_32 : decode c_X_run 32 = .ok (.aload_n 0, 1) := by decide +kernel
theorem d_X_run_33 : decode c_X_run 33 = .ok (.getfield 53, 3) := by decide +kernel
theorem d_X_run_36 : decode c_X_run 36 = .ok (.ifnull 21, 3) := by decide +kernel
theorem d_X_run_39 : decode c_X_run 39 = .ok (.aload_n 0, 1) := by decide +kernel
theorem d_X_run_40 : decode c_X_run 40 = .ok (.aload_n 0, 1) := by decide +kernel
theorem d_X_run_41 : decode c_X_run 41 = .ok (.getfield 53, 3) := by decide +kernel
theorem d_X_run_44 : decode c_X_run 44 = .ok (.invokevirtual 99, 3) := by decide +kernel
theorem d_X_run_47 : decode c_X_run 47 = .ok (.aload_n 0, 1) := by decide +kernel
theorem d_X_run_48 : decode c_X_run 48 = .ok (.invokevirtual 96, 3) := by decide +kernel
theorem d_X_run_51 : decode c_X_run 51 = .ok (.iinc 2 1, 3) := by decide +kernel
theorem d_X_run_54 : decode c_X_run 54 = .ok (.goto (-27), 3) := by decide +kernel
theorem d_X_run_57 : decode c_X_run 57 = .ok (.iload_n 2, 1) := by decide +kernel
theorem d_X_run_58 : decode c_X_run 58 = .ok (.ireturn, 1) := by decide +kernel
theorem d_X_active_0 : decode c_X_active 0 = .ok (.aload_n 0, 1) := by decide +kernel
theorem d_X_active_1 : decode c_X_active 1 = .ok (.getfield 53, 3) := by decide +kernel
theorem d_X_active_4 : decode c_X_active 4 = .ok (.invokestatic 102, 3) := by decide +kernel
theorem d_X_active_7 : decode c_X_active 7 = .ok (.ireturn, 1) := by decide +kernel
theorem d_X_present_0 : decode c_X_present 0 = .ok (.aload_n 0, 1) := by decide +kernel
theorem d_X_present_1 : decode c_X_present 1 = .ok (.invokevirtual 57, 3) := by decide +kernel
theorem d_X_present_4 : decode c_X_present 4 = .ok (.invokestatic 102, 3) := by decide +kernel
theorem d_X_present_7 : decode c_X_present 7 = .ok (.ireturn, 1) := by decide +kernel
theorem d_X_clock_0 : decode c_X_clock 0 = .ok (.aload_n 0, 1) := by decide +kernel
theorem d_X_clock_1 : decode c_X_clock 1 = .ok (.getfield 106, 3) := by decide +kernel
theorem d_X_clock_4 : decode c_X_clock 4 = .ok (.ireturn, 1) := by decide +kernel
theorem d_X_codes_0 : decode c_X_codes 0 = .ok (.aload_n 0, 1) := by decide +kernel
theorem d_X_codes_1 : decode c_X_codes 1 = .ok (.getfield 109, 3) := by decide +kernel
theorem d_X_codes_4 : decode c_X_codes 4 = .ok (.lreturn, 1) := by decide +kernel
theorem d_X_done_0 : decode c_X_done 0 = .ok (.aload_n 0, 1) := by decide +kernel
theorem d_X_done_1 : decode c_X_done 1 = .ok (.iload_n 1, 1) := by decide +kernel
theorem d_X_done_2 : decode c_X_done 2 = .ok (.invokevirtual 41, 3) := by decide +kernel
theorem d_X_done_5 : decode c_X_done 5 = .ok (.astore_n 2, 1) := by decide +kernel
theorem d_X_done_6 : decode c_X_done 6 = .ok (.aload_n 2, 1) := by decide +kernel
theorem d_X_done_7 : decode c_X_done 7 = .ok (.ifnonnull 7, 3) := by decide +kernel
theorem d_X_done_10 : decode c_X_done 10 = .ok (.iconst (-1), 1) := by decide +kernel
theorem d_X_done_11 : decode c_X_done 11 = .ok (.goto 7, 3) := by decide +kernel
theorem d_X_done_14 : decode c_X_done 14 = .ok (.aload_n 2, 1) := by decide +kernel
theorem d_X_done_15 : decode c_X_done 15 = .ok (.getfield 113, 3) := by decide +kernel
theorem d_X_done_18 : decode c_X_done 18 = .ok (.ireturn, 1) := by decide +kernel
theorem d_X_row_0 : decode c_X_row 0 = .ok (.aload_n 0, 1) := by decide +kernel
theorem d_X_row_1 : decode c_X_row 1 = .ok (.iload_n 1, 1) := by decide +kernel
theorem d_X_row_2 : decode c_X_row 2 = .ok (.invokevirtual 41, 3) := by decide +kernel
theorem d_X_row_5 : decode c_X_row 5 = .ok (.astore_n 2, 1) := by decide +kernel
theorem d_X_row_6 : decode c_X_row 6 = .ok (.aload_n 2, 1) := by decide +kernel
theorem d_X_row_7 : decode c_X_row 7 = .ok (.ifnonnull 7, 3) := by decide +kernel
theorem d_X_row_10 : decode c_X_row 10 = .ok (.iconst (-1), 1) := by decide +kernel
theorem d_X_row_11 : decode c_X_row 11 = .ok (.goto 7, 3) := by decide +kernel
theorem d_X_row_14 : decode c_X_row 14 = .ok (.aload_n 2, 1) := by decide +kernel
theorem d_X_row_15 : decode c_X_row 15 = .ok (.getfield 49, 3) := by decide +kernel
theorem d_X_row_18 : decode c_X_row 18 = .ok (.ireturn, 1) := by decide +kernel
theorem d_X_at_0 : decode c_X_at 0 = .ok (.iload_n 1, 1) := by decide +kernel
theorem d_X_at_1 : decode c_X_at 1 = .ok (.iconst 1, 1) := by decide +kernel
theorem d_X_at_2 : decode c_X_at 2 = .ok (.if_icmp .lt 25, 3) := by decide +kernel
theorem d_X_at_5 : decode c_X_at 5 = .ok (.iload_n 1, 1) := by decide +kernel
theorem d_X_at_6 : decode c_X_at 6 = .ok (.bipush 8, 2) := by decide +kernel
theorem d_X_at_8 : decode c_X_at 8 = .ok (.if_icmp .gt 19, 3) := by decide +kernel
theorem d_X_at_11 : decode c_X_at 11 = .ok (.aload_n 0, 1) := by decide +kernel
theorem d_X_at_12 : decode c_X_at 12 = .ok (.getfield 17, 3) := by decide +kernel
theorem d_X_at_15 : decode c_X_at 15 = .ok (.iload_n 1, 1) := by decide +kernel
theorem d_X_at_16 : decode c_X_at 16 = .ok (.iconst 1, 1) := by decide +kernel
theorem d_X_at_17 : decode c_X_at 17 = .ok (.isub, 1) := by decide +kernel
theorem d_X_at_18 : decode c_X_at 18 = .ok (.aaload, 1) := by decide +kernel
theorem d_X_at_19 : decode c_X_at 19 = .ok (.iload_n 2, 1) := by decide +kernel
theorem d_X_at_20 : decode c_X_at 20 = .ok (.invokevirtual 116, 3) := by decide +kernel
theorem d_X_at_23 : decode c_X_at 23 = .ok (.invokestatic 102, 3) := by decide +kernel
theorem d_X_at_26 : decode c_X_at 26 = .ok (.ireturn, 1) := by decide +kernel
theorem d_X_at_27 : decode c_X_at 27 = .ok (.iload_n 1, 1) := by decide +kernel
theorem d_X_at_28 : decode c_X_at 28 = .ok (.bipush 16, 2) := by decide +kernel
theorem d_X_at_30 : decode c_X_at 30 = .ok (.isub, 1) := by decide +kernel
theorem d_X_at_31 : decode c_X_at 31 = .ok (.invokestatic 71, 3) := by decide +kernel
theorem d_X_at_34 : decode c_X_at 34 = .ok (.ifCond .eq 23, 3) := by decide +kernel
theorem d_X_at_37 : decode c_X_at 37 = .ok (.aload_n 0, 1) := by decide +kernel
theorem d_X_at_38 : decode c_X_at 38 = .ok (.getfield 23, 3) := by decide +kernel
theorem d_X_at_41 : decode c_X_at 41 = .ok (.iload_n 1, 1) := by decide +kernel
theorem d_X_at_42 : decode c_X_at 42 = .ok (.bipush 16, 2) := by decide +kernel
theorem d_X_at_44 : decode c_X_at 44 = .ok (.isub, 1) := by decide +kernel
theorem d_X_at_45 : decode c_X_at 45 = .ok (.aaload, 1) := by decide +kernel
theorem d_X_at_46 : decode c_X_at 46 = .ok (.getfield 119, 3) := by decide +kernel
theorem d_X_at_49 : decode c_X_at 49 = .ok (.iload_n 2, 1) := by decide +kernel
theorem d_X_at_50 : decode c_X_at 50 = .ok (.invokevirtual 116, 3) := by decide +kernel
theorem d_X_at_53 : decode c_X_at 53 = .ok (.invokestatic 102, 3) := by decide +kernel
theorem d_X_at_56 : decode c_X_at 56 = .ok (.ireturn, 1) := by decide +kernel
theorem d_X_at_57 : decode c_X_at 57 = .ok (.iconst (-1), 1) := by decide +kernel
theorem d_X_at_58 : decode c_X_at 58 = .ok (.ireturn, 1) := by decide +kernel
theorem d_X_extra_0 : decode c_X_extra 0 = .ok (.iload_n 1, 1) := by decide +kernel
theorem d_X_extra_1 : decode c_X_extra 1 = .ok (.invokestatic 71, 3) := by decide +kernel
theorem d_X_extra_4 : decode c_X_extra 4 = .ok (.ifCond .eq 15, 3) := by decide +kernel
theorem d_X_extra_7 : decode c_X_extra 7 = .ok (.aload_n 0, 1) := by decide +kernel
theorem d_X_extra_8 : decode c_X_extra 8 = .ok (.getfield 23, 3) := by decide +kernel
theorem d_X_extra_11 : decode c_X_extra 11 = .ok (.iload_n 1, 1) := by decide +kernel
theorem d_X_extra_12 : decode c_X_extra 12 = .ok (.aaload, 1) := by decide +kernel
theorem d_X_extra_13 : decode c_X_extra 13 = .ok (.getfield 123, 3) := by decide +kernel
theorem d_X_extra_16 : decode c_X_extra 16 = .ok (.goto 4, 3) := by decide +kernel
theorem d_X_extra_19 : decode c_X_extra 19 = .ok (.iconst (-1), 1) := by decide +kernel
theorem d_X_extra_20 : decode c_X_extra 20 = .ok (.ireturn, 1) := by decide +kernel
theorem d_X_wordAt_0 : decode c_X_wordAt 0 = .ok (.aload_n 0, 1) := by decide +kernel
theorem d_X_wordAt_1 : decode c_X_wordAt 1 = .ok (.getfield 30, 3) := by decide +kernel
theorem d_X_wordAt_4 : decode c_X_wordAt 4 = .ok (.iload_n 1, 1) := by decide +kernel
theorem d_X_wordAt_5 : decode c_X_wordAt 5 = .ok (.invokevirtual 126, 3) := by decide +kernel
theorem d_X_wordAt_8 : decode c_X_wordAt 8 = .ok (.ireturn, 1) := by decide +kernel
theorem d_X_input_0 : decode c_X_input 0 = .ok (.aload_n 0, 1) := by decide +kernel
theorem d_X_input_1 : decode c_X_input 1 = .ok (.getfield 79, 3) := by decide +kernel
theorem d_X_input_4 : decode c_X_input 4 = .ok (.ifnonnull 7, 3) := by decide +kernel
theorem d_X_input_7 : decode c_X_input 7 = .ok (.iconst (-1), 1) := by decide +kernel
theorem d_X_input_8 : decode c_X_input 8 = .ok (.goto 10, 3) := by decide +kernel
theorem d_X_input_11 : decode c_X_input 11 = .ok (.aload_n 0, 1) := by decide +kernel
theorem d_X_input_12 : decode c_X_input 12 = .ok (.getfield 79, 3) := by decide +kernel
theorem d_X_input_15 : decode c_X_input 15 = .ok (.getfield 129, 3) := by decide +kernel
theorem d_X_input_18 : decode c_X_input 18 = .ok (.ireturn, 1) := by decide +kernel
theorem d_X_tick_0 : decode c_X_tick 0 = .ok (.aload_n 0, 1) := by decide +kernel
theorem d_X_tick_1 : decode c_X_tick 1 = .ok (.getfield 83, 3) := by decide +kernel
theorem d_X_tick_4 : decode c_X_tick 4 = .ok (.ifnonnull 7, 3) := by decide +kernel
theorem d_X_tick_7 : decode c_X_tick 7 = .ok (.iconst (-1), 1) := by decide +kernel
theorem d_X_tick_8 : decode c_X_tick 8 = .ok (.goto 7, 3) := by decide +kernel
theorem d_X_tick_11 : decode c_X_tick 11 = .ok (.aload_n 0, 1) := by decide +kernel
theorem d_X_tick_12 : decode c_X_tick 12 = .ok (.getfield 130, 3) := by decide +kernel
theorem d_X_tick_15 : decode c_X_tick 15 = .ok (.ireturn, 1) := by decide +kernel
theorem d_X_isSemaphore_0 : decode c_X_isSemaphore 0 = .ok (.iload_n 0, 1) := by decide +kernel
theorem d_X_isSemaphore_1 : decode c_X_isSemaphore 1 = .ok (.ifCond .lt 13, 3) := by decide +kernel
theorem d_X_isSemaphore_4 : decode c_X_isSemaphore 4 = .ok (.iload_n 0, 1) := by decide +kernel
theorem d_X_isSemaphore_5 : decode c_X_isSemaphore 5 = .ok (.bipush 16, 2) := by decide +kernel
theorem d_X_isSemaphore_7 : decode c_X_isSemaphore 7 = .ok (.if_icmp .ge 7, 3) := by decide +kernel
theorem d_X_isSemaphore_10 : decode c_X_isSemaphore 10 = .ok (.iconst 1, 1) := by decide +kernel
theorem d_X_isSemaphore_11 : decode c_X_isSemaphore 11 = .ok (.goto 4, 3) := by decide +kernel
theorem d_X_isSemaphore_14 : decode c_X_isSemaphore 14 = .ok (.iconst 0, 1) := by decide +kernel
theorem d_X_isSemaphore_15 : decode c_X_isSemaphore 15 = .ok (.ireturn, 1) := by decide +kernel
theorem d_X_numberOf_0 : decode c_X_numberOf 0 = .ok (.aload_n 0, 1) := by decide +kernel
theorem d_X_numberOf_1 : decode c_X_numberOf 1 = .ok (.ifnonnull 7, 3) := by decide +kernel
theorem d_X_numberOf_4 : decode c_X_numberOf 4 = .ok (.iconst (-1), 1) := by decide +kernel
theorem d_X_numberOf_5 : decode c_X_numberOf 5 = .ok (.goto 7, 3) := by decide +kernel
theorem d_X_numberOf_8 : decode c_X_numberOf 8 = .ok (.aload_n 0, 1) := by decide +kernel
theorem d_X_numberOf_9 : decode c_X_numberOf 9 = .ok (.getfield 68, 3) := by decide +kernel
theorem d_X_numberOf_12 : decode c_X_numberOf 12 = .ok (.ireturn, 1) := by decide +kernel
theorem d_X_processNumbered_0 : decode c_X_processNumbered 0 = .ok (.iload_n 1, 1) := by decide +kernel
theorem d_X_processNumbered_1 : decode c_X_processNumbered 1 = .ok (.ifCond .lt 18, 3) := by decide +kernel
theorem d_X_processNumbered_4 : decode c_X_processNumbered 4 = .ok (.iload_n 1, 1) := by decide +kernel
theorem d_X_processNumbered_5 : decode c_X_processNumbered 5 = .ok (.bipush 32, 2) := by decide +kernel
theorem d_X_processNumbered_7 : decode c_X_processNumbered 7 = .ok (.if_icmp .ge 12, 3) := by decide +kernel
theorem d_X_processNumbered_10 : decode c_X_processNumbered 10 = .ok (.aload_n 0, 1) := by decide +kernel
theorem d_X_processNumbered_11 : decode c_X_processNumbered 11 = .ok (.getfield 11, 3) := by decide +kernel
theorem d_X_processNumbered_14 : decode c_X_processNumbered 14 = .ok (.iload_n 1, 1) := by decide +kernel
theorem d_X_processNumbered_15 : decode c_X_processNumbered 15 = .ok (.aaload, 1) := by decide +kernel
theorem d_X_processNumbered_16 : decode c_X_processNumbered 16 = .ok (.goto 4, 3) := by decide +kernel
theorem d_X_processNumbered_19 : decode c_X_processNumbered 19 = .ok (.aconst_null, 1) := by decide +kernel
theorem d_X_processNumbered_20 : decode c_X_processNumbered 20 = .ok (.areturn, 1) := by decide +kernel
theorem d_X_presentOne_0 : decode c_X_presentOne 0 = .ok (.aload_n 0, 1) := by decide +kernel
theorem d_X_presentOne_1 : decode c_X_presentOne 1 = .ok (.getfield 133, 3) := by decide +kernel
theorem d_X_presentOne_4 : decode c_X_presentOne 4 = .ok (.ifCond .eq 10, 3) := by decide +kernel
theorem d_X_presentOne_7 : decode c_X_presentOne 7 = .ok (.aload_n 0, 1) := by decide +kernel
theorem d_X_presentOne_8 : decode c_X_presentOne 8 = .ok (.getfield 137, 3) := by decide +kernel
theorem d_X_presentOne_11 : decode c_X_presentOne 11 = .ok (.goto 7, 3) := by decide +kernel
theorem d_X_presentOne_14 : decode c_X_presentOne 14 = .ok (.aload_n 0, 1) := by decide +kernel
theorem d_X_presentOne_15 : decode c_X_presentOne 15 = .ok (.getfield 53, 3) := by decide +kernel
theorem d_X_presentOne_18 : decode c_X_presentOne 18 = .ok (.areturn, 1) := by decide +kernel
theorem d_X_wantChangeTo_0 : decode c_X_wantChangeTo 0 = .ok (.aload_n 0, 1) := by decide +kernel
theorem d_X_wantChangeTo_1 : decode c_X_wantChangeTo 1 = .ok (.iconst 1, 1) := by decide +kernel
theorem d_X_wantChangeTo_2 : decode c_X_wantChangeTo 2 = .ok (.putfield 133, 3) := by decide +kernel
theorem d_X_wantChangeTo_5 : decode c_X_wantChangeTo 5 = .ok (.aload_n 0, 1) := by decide +kernel
theorem d_X_wantChangeTo_6 : decode c_X_wantChangeTo 6 = .ok (.aload_n 1, 1) := by decide +kernel
theorem d_X_wantChangeTo_7 : decode c_X_wantChangeTo 7 = .ok (.putfield 137, 3) := by decide +kernel
theorem d_X_wantChangeTo_10 : decode c_X_wantChangeTo 10 = .ok (.return_, 1) := by decide +kernel
theorem d_X_wakeUp_0 : decode c_X_wakeUp 0 = .ok (.aload_n 0, 1) := by decide +kernel
theorem d_X_wakeUp_1 : decode c_X_wakeUp 1 = .ok (.invokevirtual 57, 3) := by decide +kernel
theorem d_X_wakeUp_4 : decode c_X_wakeUp 4 = .ok (.astore_n 2, 1) := by decide +kernel
theorem d_X_wakeUp_5 : decode c_X_wakeUp 5 = .ok (.aload_n 2, 1) := by decide +kernel
theorem d_X_wakeUp_6 : decode c_X_wakeUp 6 = .ok (.ifnull 23, 3) := by decide +kernel
theorem d_X_wakeUp_9 : decode c_X_wakeUp 9 = .ok (.aload_n 2, 1) := by decide +kernel
theorem d_X_wakeUp_10 : decode c_X_wakeUp 10 = .ok (.getfield 140, 3) := by decide +kernel
theorem d_X_wakeUp_13 : decode c_X_wakeUp 13 = .ok (.aload_n 1, 1) := by decide +kernel
theorem d_X_wakeUp_14 : decode c_X_wakeUp 14 = .ok (.getfield 140, 3) := by decide +kernel
theorem d_X_wakeUp_17 : decode c_X_wakeUp 17 = .ok (.if_icmp .lt 12, 3) := by decide +kernel
theorem d_X_wakeUp_20 : decode c_X_wakeUp 20 = .ok (.aload_n 1, 1) := by decide +kernel
theorem d_X_wakeUp_21 : decode c_X_wakeUp 21 = .ok (.getfield 143, 3) := by decide +kernel
theorem d_X_wakeUp_24 : decode c_X_wakeUp 24 = .ok (.aload_n 1, 1) := by decide +kernel
theorem d_X_wakeUp_25 : decode c_X_wakeUp 25 = .ok (.invokevirtual 146, 3) := by decide +kernel
theorem d_X_wakeUp_28 : decode c_X_wakeUp 28 = .ok (.return_, 1) := by decide +kernel
theorem d_X_wakeUp_29 : decode c_X_wakeUp 29 = .ok (.aload_n 2, 1) := by decide +kernel
theorem d_X_wakeUp_30 : decode c_X_wakeUp 30 = .ok (.ifnull 11, 3) := by decide +kernel
theorem d_X_wakeUp_33 : decode c_X_wakeUp 33 = .ok (.aload_n 2, 1) := by decide +kernel
theorem d_X_wakeUp_34 : decode c_X_wakeUp 34 = .ok (.getfield 143, 3) := by decide +kernel
theorem d_X_wakeUp_37 : decode c_X_wakeUp 37 = .ok (.aload_n 2, 1) := by decide +kernel
theorem d_X_wakeUp_38 : decode c_X_wakeUp 38 = .ok (.invokevirtual 146, 3) := by decide +kernel
theorem d_X_wakeUp_41 : decode c_X_wakeUp 41 = .ok (.aload_n 0, 1) := by decide +kernel
theorem d_X_wakeUp_42 : decode c_X_wakeUp 42 = .ok (.aload_n 1, 1) := by decide +kernel
theorem d_X_wakeUp_43 : decode c_X_wakeUp 43 = .ok (.invokevirtual 149, 3) := by decide +kernel
theorem d_X_wakeUp_46 : decode c_X_wakeUp 46 = .ok (.return_, 1) := by decide +kernel
theorem d_X_putPresentAside_0 : decode c_X_putPresentAside 0 = .ok (.aconst_null, 1) := by decide +kernel
theorem d_X_putPresentAside_1 : decode c_X_putPresentAside 1 = .ok (.astore_n 1, 1) := by decide +kernel
theorem d_X_putPresentAside_2 : decode c_X_putPresentAside 2 = .ok (.bipush 7, 2) := by decide +kernel
theorem d_X_putPresentAside_4 : decode c_X_putPresentAside 4 = .ok (.istore_n 2, 1) := by decide +kernel
theorem d_X_putPresentAside_5 : decode c_X_putPresentAside 5 = .ok (.iload_n 2, 1) := by decide +kernel
theorem d_X_putPresentAside_6 : decode c_X_putPresentAside 6 = .ok (.ifCond .lt 23, 3) := by decide +kernel
theorem d_X_putPresentAside_9 : decode c_X_putPresentAside 9 = .ok (.aload_n 1, 1) := by decide +kernel
theorem d_X_putPresentAside_10 : decode c_X_putPresentAside 10 = .ok (.ifnonnull 19, 3) := by decide +kernel
theorem d_X_putPresentAside_13 : decode c_X_putPresentAside 13 = .ok (.aload_n 0, 1) := by decide +kernel
theorem d_X_putPresentAside_14 : decode c_X_putPresentAside 14 = .ok (.getfield 17, 3) := by decide +kernel
theorem d_X_putPresentAside_17 : decode c_X_putPresentAside 17 = .ok (.iload_n 2, 1) := by decide +kernel
theorem d_X_putPresentAside_18 : decode c_X_putPresentAside 18 = .ok (.aaload, 1) := by decide +kernel
theorem d_X_putPresentAside_19 : decode c_X_putPresentAside 19 = .ok (.invokevirtual 152, 3) := by decide +kernel
theorem d_X_putPresentAside_22 : decode c_X_putPresentAside 22 = .ok (.astore_n 1, 1) := by decide +kernel
theorem d_X_putPresentAside_23 : decode c_X_putPresentAside 23 = .ok (.iinc 2 (-1), 3) := by decide +kernel
theorem d_X_putPresentAside_26 : decode c_X_putPresentAside 26 = .ok (.goto (-21), 3) := by decide +kernel
theorem d_X_putPresentAside_29 : decode c_X_putPresentAside 29 = .ok (.aload_n 0, 1) := by decide +kernel
theorem d_X_putPresentAside_30 : decode c_X_putPresentAside 30 = .ok (.aload_n 1, 1) := by decide +kernel
theorem d_X_putPresentAside_31 : decode c_X_putPresentAside 31 = .ok (.invokevirtual 149, 3) := by decide +kernel
theorem d_X_putPresentAside_34 : decode c_X_putPresentAside 34 = .ok (.return_, 1) := by decide +kernel
theorem d_X_signalOnce_0 : decode c_X_signalOnce 0 = .ok (.aload_n 1, 1) := by decide +kernel
theorem d_X_signalOnce_1 : decode c_X_signalOnce 1 = .ok (.getfield 119, 3) := by decide +kernel
theorem d_X_signalOnce_4 : decode c_X_signalOnce 4 = .ok (.invokevirtual 152, 3) := by decide +kernel
theorem d_X_signalOnce_7 : decode c_X_signalOnce 7 = .ok (.astore_n 2, 1) := by decide +kernel
theorem d_X_signalOnce_8 : decode c_X_signalOnce 8 = .ok (.aload_n 2, 1) := by decide +kernel
theorem d_X_signalOnce_9 : decode c_X_signalOnce 9 = .ok (.ifnonnull 16, 3) := by decide +kernel
theorem d_X_signalOnce_12 : decode c_X_signalOnce 12 = .ok (.aload_n 1, 1) := by decide +kernel
theorem d_X_signalOnce_13 : decode c_X_signalOnce 13 = .ok (.dup, 1) := by decide +kernel
theorem d_X_signalOnce_14 : decode c_X_signalOnce 14 = .ok (.getfield 123, 3) := by decide +kernel
theorem d_X_signalOnce_17 : decode c_X_signalOnce 17 = .ok (.iconst 1, 1) := by decide +kernel
theorem d_X_signalOnce_18 : decode c_X_signalOnce 18 = .ok (.iadd, 1) := by decide +kernel
theorem d_X_signalOnce_19 : decode c_X_signalOnce 19 = .ok (.putfield 123, 3) := by decide +kernel
theorem d_X_signalOnce_22 : decode c_X_signalOnce 22 = .ok (.goto 8, 3) := by decide +kernel
theorem d_X_signalOnce_25 : decode c_X_signalOnce 25 = .ok (.aload_n 0, 1) := by decide +kernel
theorem d_X_signalOnce_26 : decode c_X_signalOnce 26 = .ok (.aload_n 2, 1) := by decide +kernel
theorem d_X_signalOnce_27 : decode c_X_signalOnce 27 = .ok (.invokevirtual 61, 3) := by decide +kernel
theorem d_X_signalOnce_30 : decode c_X_signalOnce 30 = .ok (.return_, 1) := by decide +kernel
theorem d_X_waitFor_0 : decode c_X_waitFor 0 = .ok (.aload_n 0, 1) := by decide +kernel
theorem d_X_waitFor_1 : decode c_X_waitFor 1 = .ok (.invokevirtual 57, 3) := by decide +kernel
theorem d_X_waitFor_4 : decode c_X_waitFor 4 = .ok (.astore_n 2, 1) := by decide +kernel
theorem d_X_waitFor_5 : decode c_X_waitFor 5 = .ok (.aload_n 2, 1) := by decide +kernel
theorem d_X_waitFor_6 : decode c_X_waitFor 6 = .ok (.ifnonnull 4, 3) := by decide +kernel
theorem d_X_waitFor_9 : decode c_X_waitFor 9 = .ok (.return_, 1) := by decide +kernel
theorem d_X_waitFor_10 : decode c_X_waitFor 10 = .ok (.aload_n 1, 1) := by decide +kernel
theorem d_X_waitFor_11 : decode c_X_waitFor 11 = .ok (.getfield 123, 3) := by decide +kernel
theorem d_X_waitFor_14 : decode c_X_waitFor 14 = .ok (.ifCond .le 14, 3) := by decide +kernel
theorem d_X_waitFor_17 : decode c_X_waitFor 17 = .ok (.aload_n 1, 1) := by decide +kernel
theorem d_X_waitFor_18 : decode c_X_waitFor 18 = .ok (.dup, 1) := by decide +kernel
theorem d_X_waitFor_19 : decode c_X_waitFor 19 = .ok (.getfield 123, 3) := by decide +kernel
theorem d_X_waitFor_22 : decode c_X_waitFor 22 = .ok (.iconst 1, 1) := by decide +kernel
theorem d_X_waitFor_23 : decode c_X_waitFor 23 = .ok (.isub, 1) := by decide +kernel
theorem d_X_waitFor_24 : decode c_X_waitFor 24 = .ok (.putfield 123, 3) := by decide +kernel
theorem d_X_waitFor_27 : decode c_X_waitFor 27 = .ok (.return_, 1) := by decide +kernel
theorem d_X_waitFor_28 : decode c_X_waitFor 28 = .ok (.aload_n 1, 1) := by decide +kernel
theorem d_X_waitFor_29 : decode c_X_waitFor 29 = .ok (.getfield 119, 3) := by decide +kernel
theorem d_X_waitFor_32 : decode c_X_waitFor 32 = .ok (.aload_n 2, 1) := by decide +kernel
theorem d_X_waitFor_33 : decode c_X_waitFor 33 = .ok (.invokevirtual 146, 3) := by decide +kernel
theorem d_X_waitFor_36 : decode c_X_waitFor 36 = .ok (.aload_n 0, 1) := by decide +kernel
theorem d_X_waitFor_37 : decode c_X_waitFor 37 = .ok (.invokevirtual 65, 3) := by decide +kernel
theorem d_X_waitFor_40 : decode c_X_waitFor 40 = .ok (.return_, 1) := by decide +kernel
theorem d_X_giveWay_0 : decode c_X_giveWay 0 = .ok (.aload_n 0, 1) := by decide +kernel
theorem d_X_giveWay_1 : decode c_X_giveWay 1 = .ok (.invokevirtual 57, 3) := by decide +kernel
theorem d_X_giveWay_4 : decode c_X_giveWay 4 = .ok (.astore_n 1, 1) := by decide +kernel
theorem d_X_giveWay_5 : decode c_X_giveWay 5 = .ok (.aload_n 1, 1) := by decide +kernel
theorem d_X_giveWay_6 : decode c_X_giveWay 6 = .ok (.ifnull 13, 3) := by decide +kernel
theorem d_X_giveWay_9 : decode c_X_giveWay 9 = .ok (.aload_n 1, 1) := by decide +kernel
theorem d_X_giveWay_10 : decode c_X_giveWay 10 = .ok (.getfield 143, 3) := by decide +kernel
theorem d_X_giveWay_13 : decode c_X_giveWay 13 = .ok (.invokevirtual 155, 3) := by decide +kernel
theorem d_X_giveWay_16 : decode c_X_giveWay 16 = .ok (.ifCond .eq 4, 3) := by decide +kernel
theorem d_X_giveWay_19 : decode c_X_giveWay 19 = .ok (.return_, 1) := by decide +kernel
theorem d_X_giveWay_20 : decode c_X_giveWay 20 = .ok (.aload_n 1, 1) := by decide +kernel
theorem d_X_giveWay_21 : decode c_X_giveWay 21 = .ok (.getfield 143, 3) := by decide +kernel
theorem d_X_giveWay_24 : decode c_X_giveWay 24 = .ok (.aload_n 1, 1) := by decide +kernel
theorem d_X_giveWay_25 : decode c_X_giveWay 25 = .ok (.invokevirtual 146, 3) := by decide +kernel
theorem d_X_giveWay_28 : decode c_X_giveWay 28 = .ok (.aload_n 0, 1) := by decide +kernel
theorem d_X_giveWay_29 : decode c_X_giveWay 29 = .ok (.invokevirtual 65, 3) := by decide +kernel
theorem d_X_giveWay_32 : decode c_X_giveWay 32 = .ok (.return_, 1) := by decide +kernel
theorem d_X_setAlarm_0 : decode c_X_setAlarm 0 = .ok (.aload_n 0, 1) := by decide +kernel
theorem d_X_setAlarm_1 : decode c_X_setAlarm 1 = .ok (.aload_n 1, 1) := by decide +kernel
theorem d_X_setAlarm_2 : decode c_X_setAlarm 2 = .ok (.putfield 83, 3) := by decide +kernel
theorem d_X_setAlarm_5 : decode c_X_setAlarm 5 = .ok (.aload_n 0, 1) := by decide +kernel
theorem d_X_setAlarm_6 : decode c_X_setAlarm 6 = .ok (.iload_n 2, 1) := by decide +kernel
theorem d_X_setAlarm_7 : decode c_X_setAlarm 7 = .ok (.putfield 130, 3) := by decide +kernel
theorem d_X_setAlarm_10 : decode c_X_setAlarm 10 = .ok (.return_, 1) := by decide +kernel
theorem d_X_doCode_0 : decode c_X_doCode 0 = .ok (.aload_n 1, 1) := by decide +kernel
theorem d_X_doCode_1 : decode c_X_doCode 1 = .ok (.invokevirtual 159, 3) := by decide +kernel
theorem d_X_doCode_4 : decode c_X_doCode 4 = .ok (.istore_n 2, 1) := by decide +kernel
theorem d_X_doCode_5 : decode c_X_doCode 5 = .ok (.aload_n 1, 1) := by decide +kernel
theorem d_X_doCode_6 : decode c_X_doCode 6 = .ok (.dup, 1) := by decide +kernel
theorem d_X_doCode_7 : decode c_X_doCode 7 = .ok (.getfield 113, 3) := by decide +kernel
theorem d_X_doCode_10 : decode c_X_doCode 10 = .ok (.iconst 1, 1) := by decide +kernel
theorem d_X_doCode_11 : decode c_X_doCode 11 = .ok (.iadd, 1) := by decide +kernel
theorem d_X_doCode_12 : decode c_X_doCode 12 = .ok (.putfield 113, 3) := by decide +kernel
theorem d_X_doCode_15 : decode c_X_doCode 15 = .ok (.aload_n 0, 1) := by decide +kernel
theorem d_X_doCode_16 : decode c_X_doCode 16 = .ok (.iload_n 2, 1) := by decide +kernel
theorem d_X_doCode_17 : decode c_X_doCode 17 = .ok (.invokevirtual 163, 3) := by decide +kernel
theorem d_X_doCode_20 : decode c_X_doCode 20 = .ok (.aload_n 0, 1) := by decide +kernel
theorem d_X_doCode_21 : decode c_X_doCode 21 = .ok (.dup, 1) := by decide +kernel
theorem d_X_doCode_22 : decode c_X_doCode 22 = .ok (.getfield 109, 3) := by decide +kernel
theorem d_X_doCode_25 : decode c_X_doCode 25 = .ok (.lconst 1, 1) := by decide +kernel
theorem d_X_doCode_26 : decode c_X_doCode 26 = .ok (.ladd, 1) := by decide +kernel
theorem d_X_doCode_27 : decode c_X_doCode 27 = .ok (.putfield 109, 3) := by decide +kernel
theorem d_X_doCode_30 : decode c_X_doCode 30 = .ok (.aload_n 0, 1) := by decide +kernel
theorem d_X_doCode_31 : decode c_X_doCode 31 = .ok (.getfield 109, 3) := by decide +kernel
theorem d_X_doCode_34 : decode c_X_doCode 34 = .ok (.ldc2_w 166, 3) := by decide +kernel
theorem d_X_doCode_37 : decode c_X_doCode 37 = .ok (.lrem, 1) := by decide +kernel
theorem d_X_doCode_38 : decode c_X_doCode 38 = .ok (.lconst 0, 1) := by decide +kernel
theorem d_X_doCode_39 : decode c_X_doCode 39 = .ok (.lcmp, 1) := by decide +kernel
theorem d_X_doCode_40 : decode c_X_doCode 40 = .ok (.ifCond .ne 13, 3) := by decide +kernel
theorem d_X_doCode_43 : decode c_X_doCode 43 = .ok (.aload_n 0, 1) := by decide +kernel
theorem d_X_doCode_44 : decode c_X_doCode 44 = .ok (.dup, 1) := by decide +kernel
theorem d_X_doCode_45 : decode c_X_doCode 45 = .ok (.getfield 106, 3) := by decide +kernel
theorem d_X_doCode_48 : decode c_X_doCode 48 = .ok (.iconst 1, 1) := by decide +kernel
theorem d_X_doCode_49 : decode c_X_doCode 49 = .ok (.iadd, 1) := by decide +kernel
theorem d_X_doCode_50 : decode c_X_doCode 50 = .ok (.putfield 106, 3) := by decide +kernel
theorem d_X_doCode_53 : decode c_X_doCode 53 = .ok (.return_, 1) := by decide +kernel
theorem d_X_doAct_0 : decode c_X_doAct 0 = .ok (.iload_n 1, 1) := by decide +kernel
theorem d_X_doAct_1 : decode c_X_doAct 1 = .ok (.bipush 16, 2) := by decide +kernel
theorem d_X_doAct_3 : decode c_X_doAct 3 = .ok (.isub, 1) := by decide +kernel
theorem d_X_doAct_4 : decode c_X_doAct 4 = .ok (.invokestatic 71, 3) := by decide +kernel
theorem d_X_doAct_7 : decode c_X_doAct 7 = .ok (.ifCond .eq 19, 3) := by decide +kernel
theorem d_X_doAct_10 : decode c_X_doAct 10 = .ok (.aload_n 0, 1) := by decide +kernel
theorem d_X_doAct_11 : decode c_X_doAct 11 = .ok (.aload_n 0, 1) := by decide +kernel
theorem d_X_doAct_12 : decode c_X_doAct 12 = .ok (.getfield 23, 3) := by decide +kernel
theorem d_X_doAct_15 : decode c_X_doAct 15 = .ok (.iload_n 1, 1) := by decide +kernel
theorem d_X_doAct_16 : decode c_X_doAct 16 = .ok (.bipush 16, 2) := by decide +kernel
theorem d_X_doAct_18 : decode c_X_doAct 18 = .ok (.isub, 1) := by decide +kernel
theorem d_X_doAct_19 : decode c_X_doAct 19 = .ok (.aaload, 1) := by decide +kernel
theorem d_X_doAct_20 : decode c_X_doAct 20 = .ok (.invokevirtual 168, 3) := by decide +kernel
theorem d_X_doAct_23 : decode c_X_doAct 23 = .ok (.goto 127, 3) := by decide +kernel
theorem d_X_doAct_26 : decode c_X_doAct 26 = .ok (.iload_n 1, 1) := by decide +kernel
theorem d_X_doAct_27 : decode c_X_doAct 27 = .ok (.bipush 32, 2) := by decide +kernel
theorem d_X_doAct_29 : decode c_X_doAct 29 = .ok (.isub, 1) := by decide +kernel
theorem d_X_doAct_30 : decode c_X_doAct 30 = .ok (.invokestatic 71, 3) := by decide +kernel
theorem d_X_doAct_33 : decode c_X_doAct 33 = .ok (.ifCond .eq 19, 3) := by decide +kernel
theorem d_X_doAct_36 : decode c_X_doAct 36 = .ok (.aload_n 0, 1) := by decide +kernel
theorem d_X_doAct_37 : decode c_X_doAct 37 = .ok (.aload_n 0, 1) := by decide +kernel
theorem d_X_doAct_38 : decode c_X_doAct 38 = .ok (.getfield 23, 3) := by decide +kernel
theorem d_X_doAct_41 : decode c_X_doAct 41 = .ok (.iload_n 1, 1) := by decide +kernel
theorem d_X_doAct_42 : decode c_X_doAct 42 = .ok (.bipush 32, 2) := by decide +kernel
theorem d_X_doAct_44 : decode c_X_doAct 44 = .ok (.isub, 1) := by decide +kernel
theorem d_X_doAct_45 : decode c_X_doAct 45 = .ok (.aaload, 1) := by decide +kernel
theorem d_X_doAct_46 : decode c_X_doAct 46 = .ok (.invokevirtual 75, 3) := by decide +kernel
theorem d_X_doAct_49 : decode c_X_doAct 49 = .ok (.goto 101, 3) := by decide +kernel
theorem d_X_doAct_52 : decode c_X_doAct 52 = .ok (.iload_n 1, 1) := by decide +kernel
theorem d_X_doAct_53 : decode c_X_doAct 53 = .ok (.bipush 48, 2) := by decide +kernel
theorem d_X_doAct_55 : decode c_X_doAct 55 = .ok (.if_icmp .ne 10, 3) := by decide +kernel
theorem d_X_doAct_58 : decode c_X_doAct 58 = .ok (.aload_n 0, 1) := by decide +kernel
theorem d_X_doAct_59 : decode c_X_doAct 59 = .ok (.invokevirtual 171, 3) := by decide +kernel
theorem d_X_doAct_62 : decode c_X_doAct 62 = .ok (.goto 88, 3) := by decide +kernel
theorem d_X_doAct_65 : decode c_X_doAct 65 = .ok (.iload_n 1, 1) := by decide +kernel
theorem d_X_doAct_66 : decode c_X_doAct 66 = .ok (.bipush 49, 2) := by decide +kernel
theorem d_X_doAct_68 : decode c_X_doAct 68 = .ok (.if_icmp .ne 13, 3) := by decide +kernel
theorem d_X_doAct_71 : decode c_X_doAct 71 = .ok (.aload_n 0, 1) := by decide +kernel
theorem d_X_doAct_72 : decode c_X_doAct 72 = .ok (.getfield 30, 3) := by decide +kernel
theorem d_X_doAct_75 : decode c_X_doAct 75 = .ok (.invokevirtual 174, 3) := by decide +kernel
theorem d_X_doAct_78 : decode c_X_doAct 78 = .ok (.goto 72, 3) := by decide +kernel
theorem d_X_doAct_81 : decode c_X_doAct 81 = .ok (.iload_n 1, 1) := by decide +kernel
theorem d_X_doAct_82 : decode c_X_doAct 82 = .ok (.bipush 50, 2) := by decide +kernel
theorem d_X_doAct_84 : decode c_X_doAct 84 = .ok (.if_icmp .ne 11, 3) := by decide +kernel
theorem d_X_doAct_87 : decode c_X_doAct 87 = .ok (.aload_n 0, 1) := by decide +kernel
theorem d_X_doAct_88 : decode c_X_doAct 88 = .ok (.aconst_null, 1) := by decide +kernel
theorem d_X_doAct_89 : decode c_X_doAct 89 = .ok (.putfield 79, 3) := by decide +kernel
theorem d_X_doAct_92 : decode c_X_doAct 92 = .ok (.goto 58, 3) := by decide +kernel
theorem d_X_doAct_95 : decode c_X_doAct 95 = .ok (.iload_n 1, 1) := by decide +kernel
theorem d_X_doAct_96 : decode c_X_doAct 96 = .ok (.bipush 64, 2) := by decide +kernel
theorem d_X_doAct_98 : decode c_X_doAct 98 = .ok (.isub, 1) := by decide +kernel
theorem d_X_doAct_99 : decode c_X_doAct 99 = .ok (.invokestatic 71, 3) := by decide +kernel
theorem d_X_doAct_102 : decode c_X_doAct 102 = .ok (.ifCond .eq 25, 3) := by decide +kernel
theorem d_X_doAct_105 : decode c_X_doAct 105 = .ok (.aload_n 0, 1) := by decide +kernel
theorem d_X_doAct_106 : decode c_X_doAct 106 = .ok (.aload_n 0, 1) := by decide +kernel
theorem d_X_doAct_107 : decode c_X_doAct 107 = .ok (.getfield 23, 3) := by decide +kernel
theorem d_X_doAct_110 : decode c_X_doAct 110 = .ok (.iload_n 1, 1) := by decide +kernel
theorem d_X_doAct_111 : decode c_X_doAct 111 = .ok (.bipush 64, 2) := by decide +kernel
theorem d_X_doAct_113 : decode c_X_doAct 113 = .ok (.isub, 1) := by decide +kernel
theorem d_X_doAct_114 : decode c_X_doAct 114 = .ok (.aaload, 1) := by decide +kernel
theorem d_X_doAct_115 : decode c_X_doAct 115 = .ok (.aload_n 0, 1) := by decide +kernel
theorem d_X_doAct_116 : decode c_X_doAct 116 = .ok (.getfield 106, 3) := by decide +kernel
theorem d_X_doAct_119 : decode c_X_doAct 119 = .ok (.iconst 3, 1) := by decide +kernel
theorem d_X_doAct_120 : decode c_X_doAct 120 = .ok (.iadd, 1) := by decide +kernel
theorem d_X_doAct_121 : decode c_X_doAct 121 = .ok (.invokevirtual 87, 3) := by decide +kernel
theorem d_X_doAct_124 : decode c_X_doAct 124 = .ok (.goto 26, 3) := by decide +kernel
theorem d_X_doAct_127 : decode c_X_doAct 127 = .ok (.iload_n 1, 1) := by decide +kernel
theorem d_X_doAct_128 : decode c_X_doAct 128 = .ok (.bipush 80, 2) := by decide +kernel
theorem d_X_doAct_130 : decode c_X_doAct 130 = .ok (.isub, 1) := by decide +kernel
theorem d_X_doAct_131 : decode c_X_doAct 131 = .ok (.invokestatic 71, 3) := by decide +kernel
theorem d_X_doAct_134 : decode c_X_doAct 134 = .ok (.ifCond .eq 16, 3) := by decide +kernel
theorem d_X_doAct_137 : decode c_X_doAct 137 = .ok (.aload_n 0, 1) := by decide +kernel
theorem d_X_doAct_138 : decode c_X_doAct 138 = .ok (.aload_n 0, 1) := by decide +kernel
theorem d_X_doAct_139 : decode c_X_doAct 139 = .ok (.getfield 23, 3) := by decide +kernel
theorem d_X_doAct_142 : decode c_X_doAct 142 = .ok (.iload_n 1, 1) := by decide +kernel
theorem d_X_doAct_143 : decode c_X_doAct 143 = .ok (.bipush 80, 2) := by decide +kernel
theorem d_X_doAct_145 : decode c_X_doAct 145 = .ok (.isub, 1) := by decide +kernel
theorem d_X_doAct_146 : decode c_X_doAct 146 = .ok (.aaload, 1) := by decide +kernel
theorem d_X_doAct_147 : decode c_X_doAct 147 = .ok (.putfield 79, 3) := by decide +kernel
theorem d_X_doAct_150 : decode c_X_doAct 150 = .ok (.return_, 1) := by decide +kernel
theorem d_X_doBehind_0 : decode c_X_doBehind 0 = .ok (.aload_n 0, 1) := by decide +kernel
theorem d_X_doBehind_1 : decode c_X_doBehind 1 = .ok (.invokevirtual 177, 3) := by decide +kernel
theorem d_X_doBehind_4 : decode c_X_doBehind 4 = .ok (.aload_n 0, 1) := by decide +kernel
theorem d_X_doBehind_5 : decode c_X_doBehind 5 = .ok (.getfield 53, 3) := by decide +kernel
theorem d_X_doBehind_8 : decode c_X_doBehind 8 = .ok (.ifnonnull 22, 3) := by decide +kernel
theorem d_X_doBehind_11 : decode c_X_doBehind 11 = .ok (.aload_n 0, 1) := by decide +kernel
theorem d_X_doBehind_12 : decode c_X_doBehind 12 = .ok (.getfield 83, 3) := by decide +kernel
theorem d_X_doBehind_15 : decode c_X_doBehind 15 = .ok (.ifnull 15, 3) := by decide +kernel
theorem d_X_doBehind_18 : decode c_X_doBehind 18 = .ok (.aload_n 0, 1) := by decide +kernel
theorem d_X_doBehind_19 : decode c_X_doBehind 19 = .ok (.aload_n 0, 1) := by decide +kernel
theorem d_X_doBehind_20 : decode c_X_doBehind 20 = .ok (.getfield 130, 3) := by decide +kernel
theorem d_X_doBehind_23 : decode c_X_doBehind 23 = .ok (.putfield 106, 3) := by decide +kernel
theorem d_X_doBehind_26 : decode c_X_doBehind 26 = .ok (.aload_n 0, 1) := by decide +kernel
theorem d_X_doBehind_27 : decode c_X_doBehind 27 = .ok (.invokevirtual 177, 3) := by decide +kernel
theorem d_X_doBehind_30 : decode c_X_doBehind 30 = .ok (.return_, 1) := by decide +kernel
theorem d_X_settle_0 : decode c_X_settle 0 = .ok (.aload_n 0, 1) := by decide +kernel
theorem d_X_settle_1 : decode c_X_settle 1 = .ok (.invokevirtual 180, 3) := by decide +kernel
theorem d_X_settle_4 : decode c_X_settle 4 = .ok (.aload_n 0, 1) := by decide +kernel
theorem d_X_settle_5 : decode c_X_settle 5 = .ok (.invokevirtual 183, 3) := by decide +kernel
theorem d_X_settle_8 : decode c_X_settle 8 = .ok (.aload_n 0, 1) := by decide +kernel
theorem d_X_settle_9 : decode c_X_settle 9 = .ok (.getfield 133, 3) := by decide +kernel
theorem d_X_settle_12 : decode c_X_settle 12 = .ok (.ifCond .eq 21, 3) := by decide +kernel
theorem d_X_settle_15 : decode c_X_settle 15 = .ok (.aload_n 0, 1) := by decide +kernel
theorem d_X_settle_16 : decode c_X_settle 16 = .ok (.aload_n 0, 1) := by decide +kernel
theorem d_X_settle_17 : decode c_X_settle 17 = .ok (.getfield 137, 3) := by decide +kernel
theorem d_X_settle_20 : decode c_X_settle 20 = .ok (.putfield 53, 3) := by decide +kernel
theorem d_X_settle_23 : decode c_X_settle 23 = .ok (.aload_n 0, 1) := by decide +kernel
theorem d_X_settle_24 : decode c_X_settle 24 = .ok (.iconst 0, 1) := by decide +kernel
theorem d_X_settle_25 : decode c_X_settle 25 = .ok (.putfield 133, 3) := by decide +kernel
theorem d_X_settle_28 : decode c_X_settle 28 = .ok (.aload_n 0, 1) := by decide +kernel
theorem d_X_settle_29 : decode c_X_settle 29 = .ok (.aconst_null, 1) := by decide +kernel
theorem d_X_settle_30 : decode c_X_settle 30 = .ok (.putfield 137, 3) := by decide +kernel
theorem d_X_settle_33 : decode c_X_settle 33 = .ok (.return_, 1) := by decide +kernel
theorem d_X_signalNewWords_0 : decode c_X_signalNewWords 0 = .ok (.aload_n 0, 1) := by decide +kernel
theorem d_X_signalNewWords_1 : decode c_X_signalNewWords 1 = .ok (.getfield 30, 3) := by decide +kernel
theorem d_X_signalNewWords_4 : decode c_X_signalNewWords 4 = .ok (.invokevirtual 186, 3) := by decide +kernel
theorem d_X_signalNewWords_7 : decode c_X_signalNewWords 7 = .ok (.istore_n 1, 1) := by decide +kernel
theorem d_X_signalNewWords_8 : decode c_X_signalNewWords 8 = .ok (.aload_n 0, 1) := by decide +kernel
theorem d_X_signalNewWords_9 : decode c_X_signalNewWords 9 = .ok (.getfield 79, 3) := by decide +kernel
theorem d_X_signalNewWords_12 : decode c_X_signalNewWords 12 = .ok (.ifnonnull 4, 3) := by decide +kernel
theorem d_X_signalNewWords_15 : decode c_X_signalNewWords 15 = .ok (.return_, 1) := by decide +kernel
theorem d_X_signalNewWords_16 : decode c_X_signalNewWords 16 = .ok (.iconst 0, 1) := by decide +kernel
theorem d_X_signalNewWords_17 : decode c_X_signalNewWords 17 = .ok (.istore_n 2, 1) := by decide +kernel
theorem d_X_signalNewWords_18 : decode c_X_signalNewWords 18 = .ok (.iload_n 2, 1) := by decide +kernel
theorem d_X_signalNewWords_19 : decode c_X_signalNewWords 19 = .ok (.iload_n 1, 1) := by decide +kernel
theorem d_X_signalNewWords_20 : decode c_X_signalNewWords 20 = .ok (.if_icmp .ge 17, 3) := by decide +kernel
theorem d_X_signalNewWords_23 : decode c_X_signalNewWords 23 = .ok (.aload_n 0, 1) := by decide +kernel
theorem d_X_signalNewWords_24 : decode c_X_signalNewWords 24 = .ok (.aload_n 0, 1) := by decide +kernel
theorem d_X_signalNewWords_25 : decode c_X_signalNewWords 25 = .ok (.getfield 79, 3) := by decide +kernel
theorem d_X_signalNewWords_28 : decode c_X_signalNewWords 28 = .ok (.invokevirtual 75, 3) := by decide +kernel
theorem d_X_signalNewWords_31 : decode c_X_signalNewWords 31 = .ok (.iinc 2 1, 3) := by decide +kernel
theorem d_X_signalNewWords_34 : decode c_X_signalNewWords 34 = .ok (.goto (-16), 3) := by decide +kernel
theorem d_X_signalNewWords_37 : decode c_X_signalNewWords 37 = .ok (.return_, 1) := by decide +kernel
theorem d_X_signalDueAlarm_0 : decode c_X_signalDueAlarm 0 = .ok (.aload_n 0, 1) := by decide +kernel
theorem d_X_signalDueAlarm_1 : decode c_X_signalDueAlarm 1 = .ok (.getfield 83, 3) := by decide +kernel
theorem d_X_signalDueAlarm_4 : decode c_X_signalDueAlarm 4 = .ok (.ifnull 14, 3) := by decide +kernel
theorem d_X_signalDueAlarm_7 : decode c_X_signalDueAlarm 7 = .ok (.aload_n 0, 1) := by decide +kernel
theorem d_X_signalDueAlarm_8 : decode c_X_signalDueAlarm 8 = .ok (.getfield 106, 3) := by decide +kernel
theorem d_X_signalDueAlarm_11 : decode c_X_signalDueAlarm 11 = .ok (.aload_n 0, 1) := by decide +kernel
theorem d_X_signalDueAlarm_12 : decode c_X_signalDueAlarm 12 = .ok (.getfield 130, 3) := by decide +kernel
theorem d_X_signalDueAlarm_15 : decode c_X_signalDueAlarm 15 = .ok (.if_icmp .ge 4, 3) := by decide +kernel
theorem d_X_signalDueAlarm_18 : decode c_X_signalDueAlarm 18 = .ok (.return_, 1) := by decide +kernel
theorem d_X_signalDueAlarm_19 : decode c_X_signalDueAlarm 19 = .ok (.aload_n 0, 1) := by decide +kernel
theorem d_X_signalDueAlarm_20 : decode c_X_signalDueAlarm 20 = .ok (.getfield 83, 3) := by decide +kernel
theorem d_X_signalDueAlarm_23 : decode c_X_signalDueAlarm 23 = .ok (.astore_n 1, 1) := by decide +kernel
theorem d_X_signalDueAlarm_24 : decode c_X_signalDueAlarm 24 = .ok (.aload_n 0, 1) := by decide +kernel
theorem d_X_signalDueAlarm_25 : decode c_X_signalDueAlarm 25 = .ok (.aconst_null, 1) := by decide +kernel
theorem d_X_signalDueAlarm_26 : decode c_X_signalDueAlarm 26 = .ok (.putfield 83, 3) := by decide +kernel
theorem d_X_signalDueAlarm_29 : decode c_X_signalDueAlarm 29 = .ok (.aload_n 0, 1) := by decide +kernel
theorem d_X_signalDueAlarm_30 : decode c_X_signalDueAlarm 30 = .ok (.aload_n 1, 1) := by decide +kernel
theorem d_X_signalDueAlarm_31 : decode c_X_signalDueAlarm 31 = .ok (.invokevirtual 75, 3) := by decide +kernel
theorem d_X_signalDueAlarm_34 : decode c_X_signalDueAlarm 34 = .ok (.return_, 1) := by decide +kernel
theorem d_P_init_0 : decode c_P_init 0 = .ok (.aload_n 0, 1) := by decide +kernel
theorem d_P_init_1 : decode c_P_init 1 = .ok (.invokespecial 3, 3) := by decide +kernel
theorem d_P_init_4 : decode c_P_init 4 = .ok (.aload_n 0, 1) := by decide +kernel
theorem d_P_init_5 : decode c_P_init 5 = .ok (.bipush 8, 2) := by decide +kernel
theorem d_P_init_7 : decode c_P_init 7 = .ok (.newarray .int, 2) := by decide +kernel
theorem d_P_init_9 : decode c_P_init 9 = .ok (.putfield 9, 3) := by decide +kernel
theorem d_P_init_12 : decode c_P_init 12 = .ok (.aload_n 0, 1) := by decide +kernel
theorem d_P_init_13 : decode c_P_init 13 = .ok (.iconst 0, 1) := by decide +kernel
theorem d_P_init_14 : decode c_P_init 14 = .ok (.putfield 15, 3) := by decide +kernel
theorem d_P_init_17 : decode c_P_init 17 = .ok (.aload_n 0, 1) := by decide +kernel
theorem d_P_init_18 : decode c_P_init 18 = .ok (.iload_n 1, 1) := by decide +kernel
theorem d_P_init_19 : decode c_P_init 19 = .ok (.putfield 19, 3) := by decide +kernel
theorem d_P_init_22 : decode c_P_init 22 = .ok (.aload_n 0, 1) := by decide +kernel
theorem d_P_init_23 : decode c_P_init 23 = .ok (.iload_n 2, 1) := by decide +kernel
theorem d_P_init_24 : decode c_P_init 24 = .ok (.putfield 22, 3) := by decide +kernel
theorem d_P_init_27 : decode c_P_init 27 = .ok (.aload_n 0, 1) := by decide +kernel
theorem d_P_init_28 : decode c_P_init 28 = .ok (.aload_n 3, 1) := by decide +kernel
theorem d_P_init_29 : decode c_P_init 29 = .ok (.putfield 25, 3) := by decide +kernel
theorem d_P_init_32 : decode c_P_init 32 = .ok (.return_, 1) := by decide +kernel
theorem d_P_nextAct_0 : decode c_P_nextAct 0 = .ok (.aload_n 0, 1) := by decide +kernel
theorem d_P_nextAct_1 : decode c_P_nextAct 1 = .ok (.getfield 9, 3) := by decide +kernel
theorem d_P_nextAct_4 : decode c_P_nextAct 4 = .ok (.aload_n 0, 1) := by decide +kernel
theorem d_P_nextAct_5 : decode c_P_nextAct 5 = .ok (.getfield 29, 3) := by decide +kernel
theorem d_P_nextAct_8 : decode c_P_nextAct 8 = .ok (.bipush 8, 2) := by decide +kernel
theorem d_P_nextAct_10 : decode c_P_nextAct 10 = .ok (.invokestatic 32, 3) := by decide +kernel
theorem d_P_nextAct_13 : decode c_P_nextAct 13 = .ok (.iaload, 1) := by decide +kernel
theorem d_P_nextAct_14 : decode c_P_nextAct 14 = .ok (.ireturn, 1) := by decide +kernel
theorem d_R_init_0 : decode c_R_init 0 = .ok (.aload_n 0, 1) := by decide +kernel
theorem d_R_init_1 : decode c_R_init 1 = .ok (.invokespecial 3, 3) := by decide +kernel
theorem d_R_init_4 : decode c_R_init 4 = .ok (.aload_n 0, 1) := by decide +kernel
theorem d_R_init_5 : decode c_R_init 5 = .ok (.iload_n 1, 1) := by decide +kernel
theorem d_R_init_6 : decode c_R_init 6 = .ok (.putfield 9, 3) := by decide +kernel
theorem d_R_init_9 : decode c_R_init 9 = .ok (.return_, 1) := by decide +kernel
theorem d_R_isEmpty_0 : decode c_R_isEmpty 0 = .ok (.aload_n 0, 1) := by decide +kernel
theorem d_R_isEmpty_1 : decode c_R_isEmpty 1 = .ok (.getfield 15, 3) := by decide +kernel
theorem d_R_isEmpty_4 : decode c_R_isEmpty 4 = .ok (.ifnonnull 7, 3) := by decide +kernel
theorem d_R_isEmpty_7 : decode c_R_isEmpty 7 = .ok (.iconst 1, 1) := by decide +kernel
theorem d_R_isEmpty_8 : decode c_R_isEmpty 8 = .ok (.goto 4, 3) := by decide +kernel
theorem d_R_isEmpty_11 : decode c_R_isEmpty 11 = .ok (.iconst 0, 1) := by decide +kernel
theorem d_R_isEmpty_12 : decode c_R_isEmpty 12 = .ok (.ireturn, 1) := by decide +kernel
theorem d_R_append_0 : decode c_R_append 0 = .ok (.aload_n 1, 1) := by decide +kernel
theorem d_R_append_1 : decode c_R_append 1 = .ok (.aload_n 0, 1) := by decide +kernel
theorem d_R_append_2 : decode c_R_append 2 = .ok (.getfield 9, 3) := by decide +kernel
theorem d_R_append_5 : decode c_R_append 5 = .ok (.putfield 19, 3) := by decide +kernel
theorem d_R_append_8 : decode c_R_append 8 = .ok (.aload_n 0, 1) := by decide +kernel
theorem d_R_append_9 : decode c_R_append 9 = .ok (.getfield 22, 3) := by decide +kernel
theorem d_R_append_12 : decode c_R_append 12 = .ok (.ifnonnull 11, 3) := by decide +kernel
theorem d_R_append_15 : decode c_R_append 15 = .ok (.aload_n 0, 1) := by decide +kernel
theorem d_R_append_16 : decode c_R_append 16 = .ok (.aload_n 1, 1) := by decide +kernel
theorem d_R_append_17 : decode c_R_append 17 = .ok (.putfield 15, 3) := by decide +kernel
theorem d_R_append_20 : decode c_R_append 20 = .ok (.goto 11, 3) := by decide +kernel
theorem d_R_append_23 : decode c_R_append 23 = .ok (.aload_n 0, 1) := by decide +kernel
theorem d_R_append_24 : decode c_R_append 24 = .ok (.getfield 22, 3) := by decide +kernel
theorem d_R_append_27 : decode c_R_append 27 = .ok (.aload_n 1, 1) := by decide +kernel
theorem d_R_append_28 : decode c_R_append 28 = .ok (.putfield 25, 3) := by decide +kernel
theorem d_R_append_31 : decode c_R_append 31 = .ok (.aload_n 0, 1) := by decide +kernel
theorem d_R_append_32 : decode c_R_append 32 = .ok (.aload_n 1, 1) := by decide +kernel
theorem d_R_append_33 : decode c_R_append 33 = .ok (.putfield 22, 3) := by decide +kernel
theorem d_R_append_36 : decode c_R_append 36 = .ok (.return_, 1) := by decide +kernel
theorem d_R_takeFirst_0 : decode c_R_takeFirst 0 = .ok (.aload_n 0, 1) := by decide +kernel
theorem d_R_takeFirst_1 : decode c_R_takeFirst 1 = .ok (.getfield 15, 3) := by decide +kernel
theorem d_R_takeFirst_4 : decode c_R_takeFirst 4 = .ok (.astore_n 1, 1) := by decide +kernel
theorem d_R_takeFirst_5 : decode c_R_takeFirst 5 = .ok (.aload_n 1, 1) := by decide +kernel
theorem d_R_takeFirst_6 : decode c_R_takeFirst 6 = .ok (.ifnonnull 5, 3) := by decide +kernel
theorem d_R_takeFirst_9 : decode c_R_takeFirst 9 = .ok (.aconst_null, 1) := by decide +kernel
theorem d_R_takeFirst_10 : decode c_R_takeFirst 10 = .ok (.areturn, 1) := by decide +kernel
theorem d_R_takeFirst_11 : decode c_R_takeFirst 11 = .ok (.aload_n 0, 1) := by decide +kernel
theorem d_R_takeFirst_12 : decode c_R_takeFirst 12 = .ok (.aload_n 1, 1) := by decide +kernel
theorem d_R_takeFirst_13 : decode c_R_takeFirst 13 = .ok (.getfield 25, 3) := by decide +kernel
theorem d_R_takeFirst_16 : decode c_R_takeFirst 16 = .ok (.putfield 15, 3) := by decide +kernel
theorem d_R_takeFirst_19 : decode c_R_takeFirst 19 = .ok (.aload_n 0, 1) := by decide +kernel
theorem d_R_takeFirst_20 : decode c_R_takeFirst 20 = .ok (.getfield 15, 3) := by decide +kernel
theorem d_R_takeFirst_23 : decode c_R_takeFirst 23 = .ok (.ifnonnull 8, 3) := by decide +kernel
theorem d_R_takeFirst_26 : decode c_R_takeFirst 26 = .ok (.aload_n 0, 1) := by decide +kernel
theorem d_R_takeFirst_27 : decode c_R_takeFirst 27 = .ok (.aconst_null, 1) := by decide +kernel
theorem d_R_takeFirst_28 : decode c_R_takeFirst 28 = .ok (.putfield 22, 3) := by decide +kernel
theorem d_R_takeFirst_31 : decode c_R_takeFirst 31 = .ok (.aload_n 1, 1) := by decide +kernel
theorem d_R_takeFirst_32 : decode c_R_takeFirst 32 = .ok (.aconst_null, 1) := by decide +kernel
theorem d_R_takeFirst_33 : decode c_R_takeFirst 33 = .ok (.putfield 25, 3) := by decide +kernel
theorem d_R_takeFirst_36 : decode c_R_takeFirst 36 = .ok (.aload_n 1, 1) := by decide +kernel
theorem d_R_takeFirst_37 : decode c_R_takeFirst 37 = .ok (.iconst 0, 1) := by decide +kernel
theorem d_R_takeFirst_38 : decode c_R_takeFirst 38 = .ok (.putfield 19, 3) := by decide +kernel
theorem d_R_takeFirst_41 : decode c_R_takeFirst 41 = .ok (.aload_n 1, 1) := by decide +kernel
theorem d_R_takeFirst_42 : decode c_R_takeFirst 42 = .ok (.areturn, 1) := by decide +kernel
theorem d_R_processAt_0 : decode c_R_processAt 0 = .ok (.iload_n 1, 1) := by decide +kernel
theorem d_R_processAt_1 : decode c_R_processAt 1 = .ok (.ifCond .lt 9, 3) := by decide +kernel
theorem d_R_processAt_4 : decode c_R_processAt 4 = .ok (.iload_n 1, 1) := by decide +kernel
theorem d_R_processAt_5 : decode c_R_processAt 5 = .ok (.bipush 32, 2) := by decide +kernel
theorem d_R_processAt_7 : decode c_R_processAt 7 = .ok (.if_icmp .lt 5, 3) := by decide +kernel
theorem d_R_processAt_10 : decode c_R_processAt 10 = .ok (.aconst_null, 1) := by decide +kernel
theorem d_R_processAt_11 : decode c_R_processAt 11 = .ok (.areturn, 1) := by decide +kernel
theorem d_R_processAt_12 : decode c_R_processAt 12 = .ok (.aload_n 0, 1) := by decide +kernel
theorem d_R_processAt_13 : decode c_R_processAt 13 = .ok (.getfield 15, 3) := by decide +kernel
theorem d_R_processAt_16 : decode c_R_processAt 16 = .ok (.astore_n 2, 1) := by decide +kernel
theorem d_R_processAt_17 : decode c_R_processAt 17 = .ok (.iconst 0, 1) := by decide +kernel
theorem d_R_processAt_18 : decode c_R_processAt 18 = .ok (.istore_n 3, 1) := by decide +kernel
theorem d_R_processAt_19 : decode c_R_processAt 19 = .ok (.iload_n 3, 1) := by decide +kernel
theorem d_R_processAt_20 : decode c_R_processAt 20 = .ok (.iload_n 1, 1) := by decide +kernel
theorem d_R_processAt_21 : decode c_R_processAt 21 = .ok (.if_icmp .ge 18, 3) := by decide +kernel
theorem d_R_processAt_24 : decode c_R_processAt 24 = .ok (.aload_n 2, 1) := by decide +kernel
theorem d_R_processAt_25 : decode c_R_processAt 25 = .ok (.ifnull 14, 3) := by decide +kernel
theorem d_R_processAt_28 : decode c_R_processAt 28 = .ok (.aload_n 2, 1) := by decide +kernel
theorem d_R_processAt_29 : decode c_R_processAt 29 = .ok (.getfield 25, 3) := by decide +kernel
theorem d_R_processAt_32 : decode c_R_processAt 32 = .ok (.astore_n 2, 1) := by decide +kernel
theorem d_R_processAt_33 : decode c_R_processAt 33 = .ok (.iinc 3 1, 3) := by decide +kernel
theorem d_R_processAt_36 : decode c_R_processAt 36 = .ok (.goto (-17), 3) := by decide +kernel
theorem d_R_processAt_39 : decode c_R_processAt 39 = .ok (.aload_n 2, 1) := by decide +kernel
theorem d_R_processAt_40 : decode c_R_processAt 40 = .ok (.areturn, 1) := by decide +kernel
theorem d_S_init_0 : decode c_S_init 0 = .ok (.aload_n 0, 1) := by decide +kernel
theorem d_S_init_1 : decode c_S_init 1 = .ok (.invokespecial 3, 3) := by decide +kernel
theorem d_S_init_4 : decode c_S_init 4 = .ok (.aload_n 0, 1) := by decide +kernel
theorem d_S_init_5 : decode c_S_init 5 = .ok (.iload_n 1, 1) := by decide +kernel
theorem d_S_init_6 : decode c_S_init 6 = .ok (.putfield 9, 3) := by decide +kernel
theorem d_S_init_9 : decode c_S_init 9 = .ok (.aload_n 0, 1) := by decide +kernel
theorem d_S_init_10 : decode c_S_init 10 = .ok (.new 15, 3) := by decide +kernel
theorem d_S_init_13 : decode c_S_init 13 = .ok (.dup, 1) := by decide +kernel
theorem d_S_init_14 : decode c_S_init 14 = .ok (.bipush 16, 2) := by decide +kernel
theorem d_S_init_16 : decode c_S_init 16 = .ok (.iload_n 1, 1) := by decide +kernel
theorem d_S_init_17 : decode c_S_init 17 = .ok (.iadd, 1) := by decide +kernel
theorem d_S_init_18 : decode c_S_init 18 = .ok (.invokespecial 17, 3) := by decide +kernel
theorem d_S_init_21 : decode c_S_init 21 = .ok (.putfield 20, 3) := by decide +kernel
theorem d_S_init_24 : decode c_S_init 24 = .ok (.return_, 1) := by decide +kernel
theorem d_W_init_0 : decode c_W_init 0 = .ok (.aload_n 0, 1) := by decide +kernel
theorem d_W_init_1 : decode c_W_init 1 = .ok (.invokespecial 3, 3) := by decide +kernel
theorem d_W_init_4 : decode c_W_init 4 = .ok (.aload_n 0, 1) := by decide +kernel
theorem d_W_init_5 : decode c_W_init 5 = .ok (.bipush 64, 2) := by decide +kernel
theorem d_W_init_7 : decode c_W_init 7 = .ok (.newarray .int, 2) := by decide +kernel
theorem d_W_init_9 : decode c_W_init 9 = .ok (.putfield 9, 3) := by decide +kernel
theorem d_W_init_12 : decode c_W_init 12 = .ok (.return_, 1) := by decide +kernel
theorem d_W_add_0 : decode c_W_add 0 = .ok (.aload_n 0, 1) := by decide +kernel
theorem d_W_add_1 : decode c_W_add 1 = .ok (.getfield 15, 3) := by decide +kernel
theorem d_W_add_4 : decode c_W_add 4 = .ok (.bipush 64, 2) := by decide +kernel
theorem d_W_add_6 : decode c_W_add 6 = .ok (.if_icmp .lt 5, 3) := by decide +kernel
theorem d_W_add_9 : decode c_W_add 9 = .ok (.iconst (-1), 1) := by decide +kernel
theorem d_W_add_10 : decode c_W_add 10 = .ok (.ireturn, 1) := by decide +kernel
theorem d_W_add_11 : decode c_W_add 11 = .ok (.aload_n 0, 1) := by decide +kernel
theorem d_W_add_12 : decode c_W_add 12 = .ok (.getfield 9, 3) := by decide +kernel
theorem d_W_add_15 : decode c_W_add 15 = .ok (.aload_n 0, 1) := by decide +kernel
theorem d_W_add_16 : decode c_W_add 16 = .ok (.aload_n 0, 1) := by decide +kernel
theorem d_W_add_17 : decode c_W_add 17 = .ok (.getfield 15, 3) := by decide +kernel
theorem d_W_add_20 : decode c_W_add 20 = .ok (.invokevirtual 19, 3) := by decide +kernel
theorem d_W_add_23 : decode c_W_add 23 = .ok (.iload_n 1, 1) := by decide +kernel
theorem d_W_add_24 : decode c_W_add 24 = .ok (.iastore, 1) := by decide +kernel
theorem d_W_add_25 : decode c_W_add 25 = .ok (.aload_n 0, 1) := by decide +kernel
theorem d_W_add_26 : decode c_W_add 26 = .ok (.dup, 1) := by decide +kernel
theorem d_W_add_27 : decode c_W_add 27 = .ok (.getfield 15, 3) := by decide +kernel
theorem d_W_add_30 : decode c_W_add 30 = .ok (.iconst 1, 1) := by decide +kernel
theorem d_W_add_31 : decode c_W_add 31 = .ok (.iadd, 1) := by decide +kernel
theorem d_W_add_32 : decode c_W_add 32 = .ok (.putfield 15, 3) := by decide +kernel
theorem d_W_add_35 : decode c_W_add 35 = .ok (.aload_n 0, 1) := by decide +kernel
theorem d_W_add_36 : decode c_W_add 36 = .ok (.dup, 1) := by decide +kernel
theorem d_W_add_37 : decode c_W_add 37 = .ok (.getfield 23, 3) := by decide +kernel
theorem d_W_add_40 : decode c_W_add 40 = .ok (.iconst 1, 1) := by decide +kernel
theorem d_W_add_41 : decode c_W_add 41 = .ok (.iadd, 1) := by decide +kernel
theorem d_W_add_42 : decode c_W_add 42 = .ok (.putfield 23, 3) := by decide +kernel
theorem d_W_add_45 : decode c_W_add 45 = .ok (.aload_n 0, 1) := by decide +kernel
theorem d_W_add_46 : decode c_W_add 46 = .ok (.getfield 15, 3) := by decide +kernel
theorem d_W_add_49 : decode c_W_add 49 = .ok (.ireturn, 1) := by decide +kernel
theorem d_W_dropFirst_0 : decode c_W_dropFirst 0 = .ok (.aload_n 0, 1) := by decide +kernel
theorem d_W_dropFirst_1 : decode c_W_dropFirst 1 = .ok (.getfield 15, 3) := by decide +kernel
theorem d_W_dropFirst_4 : decode c_W_dropFirst 4 = .ok (.ifCond .le 22, 3) := by decide +kernel
theorem d_W_dropFirst_7 : decode c_W_dropFirst 7 = .ok (.aload_n 0, 1) := by decide +kernel
theorem d_W_dropFirst_8 : decode c_W_dropFirst 8 = .ok (.aload_n 0, 1) := by decide +kernel
theorem d_W_dropFirst_9 : decode c_W_dropFirst 9 = .ok (.iconst 1, 1) := by decide +kernel
theorem d_W_dropFirst_10 : decode c_W_dropFirst 10 = .ok (.invokevirtual 19, 3) := by decide +kernel
theorem d_W_dropFirst_13 : decode c_W_dropFirst 13 = .ok (.putfield 26, 3) := by decide +kernel
theorem d_W_dropFirst_16 : decode c_W_dropFirst 16 = .ok (.aload_n 0, 1) := by decide +kernel
theorem d_W_dropFirst_17 : decode c_W_dropFirst 17 = .ok (.dup, 1) := by decide +kernel
theorem d_W_dropFirst_18 : decode c_W_dropFirst 18 = .ok (.getfield 15, 3) := by decide +kernel
theorem d_W_dropFirst_21 : decode c_W_dropFirst 21 = .ok (.iconst 1, 1) := by decide +kernel
theorem d_W_dropFirst_22 : decode c_W_dropFirst 22 = .ok (.isub, 1) := by decide +kernel
theorem d_W_dropFirst_23 : decode c_W_dropFirst 23 = .ok (.putfield 15, 3) := by decide +kernel
theorem d_W_dropFirst_26 : decode c_W_dropFirst 26 = .ok (.return_, 1) := by decide +kernel
theorem d_W_get_0 : decode c_W_get 0 = .ok (.iload_n 1, 1) := by decide +kernel
theorem d_W_get_1 : decode c_W_get 1 = .ok (.ifCond .lt 24, 3) := by decide +kernel
theorem d_W_get_4 : decode c_W_get 4 = .ok (.iload_n 1, 1) := by decide +kernel
theorem d_W_get_5 : decode c_W_get 5 = .ok (.aload_n 0, 1) := by decide +kernel
theorem d_W_get_6 : decode c_W_get 6 = .ok (.getfield 15, 3) := by decide +kernel
theorem d_W_get_9 : decode c_W_get 9 = .ok (.if_icmp .ge 16, 3) := by decide +kernel
theorem d_W_get_12 : decode c_W_get 12 = .ok (.aload_n 0, 1) := by decide +kernel
theorem d_W_get_13 : decode c_W_get 13 = .ok (.getfield 9, 3) := by decide +kernel
theorem d_W_get_16 : decode c_W_get 16 = .ok (.aload_n 0, 1) := by decide +kernel
theorem d_W_get_17 : decode c_W_get 17 = .ok (.iload_n 1, 1) := by decide +kernel
theorem d_W_get_18 : decode c_W_get 18 = .ok (.invokevirtual 19, 3) := by decide +kernel
theorem d_W_get_21 : decode c_W_get 21 = .ok (.iaload, 1) := by decide +kernel
theorem d_W_get_22 : decode c_W_get 22 = .ok (.goto 4, 3) := by decide +kernel
theorem d_W_get_25 : decode c_W_get 25 = .ok (.iconst (-1), 1) := by decide +kernel
theorem d_W_get_26 : decode c_W_get 26 = .ok (.ireturn, 1) := by decide +kernel
theorem d_W_takeUntold_0 : decode c_W_takeUntold 0 = .ok (.aload_n 0, 1) := by decide +kernel
theorem d_W_takeUntold_1 : decode c_W_takeUntold 1 = .ok (.getfield 23, 3) := by decide +kernel
theorem d_W_takeUntold_4 : decode c_W_takeUntold 4 = .ok (.istore_n 1, 1) := by decide +kernel
theorem d_W_takeUntold_5 : decode c_W_takeUntold 5 = .ok (.aload_n 0, 1) := by decide +kernel
theorem d_W_takeUntold_6 : decode c_W_takeUntold 6 = .ok (.iconst 0, 1) := by decide +kernel
theorem d_W_takeUntold_7 : decode c_W_takeUntold 7 = .ok (.putfield 23, 3) := by decide +kernel
theorem d_W_takeUntold_10 : decode c_W_takeUntold 10 = .ok (.iload_n 1, 1) := by decide +kernel
theorem d_W_takeUntold_11 : decode c_W_takeUntold 11 = .ok (.ireturn, 1) := by decide +kernel
theorem d_W_place_0 : decode c_W_place 0 = .ok (.aload_n 0, 1) := by decide +kernel
theorem d_W_place_1 : decode c_W_place 1 = .ok (.getfield 26, 3) := by decide +kernel
theorem d_W_place_4 : decode c_W_place 4 = .ok (.iload_n 1, 1) := by decide +kernel
theorem d_W_place_5 : decode c_W_place 5 = .ok (.iadd, 1) := by decide +kernel
theorem d_W_place_6 : decode c_W_place 6 = .ok (.bipush 64, 2) := by decide +kernel
theorem d_W_place_8 : decode c_W_place 8 = .ok (.invokestatic 29, 3) := by decide +kernel
theorem d_W_place_11 : decode c_W_place 11 = .ok (.ireturn, 1) := by decide +kernel
theorem d_J_floorMod_0 : decode c_J_floorMod 0 = .ok (.iload_n 0, 1) := by decide +kernel
theorem d_J_floorMod_1 : decode c_J_floorMod 1 = .ok (.iload_n 1, 1) := by decide +kernel
theorem d_J_floorMod_2 : decode c_J_floorMod 2 = .ok (.irem, 1) := by decide +kernel
theorem d_J_floorMod_3 : decode c_J_floorMod 3 = .ok (.istore_n 2, 1) := by decide +kernel
theorem d_J_floorMod_4 : decode c_J_floorMod 4 = .ok (.iload_n 0, 1) := by decide +kernel
theorem d_J_floorMod_5 : decode c_J_floorMod 5 = .ok (.iload_n 1, 1) := by decide +kernel
theorem d_J_floorMod_6 : decode c_J_floorMod 6 = .ok (.ixor, 1) := by decide +kernel
theorem d_J_floorMod_7 : decode c_J_floorMod 7 = .ok (.ifCond .ge 11, 3) := by decide +kernel
theorem d_J_floorMod_10 : decode c_J_floorMod 10 = .ok (.iload_n 2, 1) := by decide +kernel
theorem d_J_floorMod_11 : decode c_J_floorMod 11 = .ok (.ifCond .eq 7, 3) := by decide +kernel
theorem d_J_floorMod_14 : decode c_J_floorMod 14 = .ok (.iload_n 2, 1) := by decide +kernel
theorem d_J_floorMod_15 : decode c_J_floorMod 15 = .ok (.iload_n 1, 1) := by decide +kernel
theorem d_J_floorMod_16 : decode c_J_floorMod 16 = .ok (.iadd, 1) := by decide +kernel
theorem d_J_floorMod_17 : decode c_J_floorMod 17 = .ok (.ireturn, 1) := by decide +kernel
theorem d_J_floorMod_18 : decode c_J_floorMod 18 = .ok (.iload_n 2, 1) := by decide +kernel
theorem d_J_floorMod_19 : decode c_J_floorMod 19 = .ok (.ireturn, 1) := by decide +kernel

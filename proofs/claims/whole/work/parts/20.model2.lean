theorem dM_changed_0 : decode cM_changed 0 = .ok (.iconst 0, 1) := by decide +kernel
theorem dM_changed_1 : decode cM_changed 1 = .ok (.istore_n 1, 1) := by decide +kernel
theorem dM_changed_2 : decode cM_changed 2 = .ok (.iload_n 1, 1) := by decide +kernel
theorem dM_changed_3 : decode cM_changed 3 = .ok (.bipush 6, 2) := by decide +kernel
theorem dM_changed_5 : decode cM_changed 5 = .ok (.if_icmp .ge 16, 3) := by decide +kernel
theorem dM_changed_8 : decode cM_changed 8 = .ok (.aload_n 0, 1) := by decide +kernel
theorem dM_changed_9 : decode cM_changed 9 = .ok (.getfield 26, 3) := by decide +kernel
theorem dM_changed_12 : decode cM_changed 12 = .ok (.iload_n 1, 1) := by decide +kernel
theorem dM_changed_13 : decode cM_changed 13 = .ok (.iconst 0, 1) := by decide +kernel
theorem dM_changed_14 : decode cM_changed 14 = .ok (.bastore, 1) := by decide +kernel
theorem dM_changed_15 : decode cM_changed 15 = .ok (.iinc 1 1, 3) := by decide +kernel
theorem dM_changed_18 : decode cM_changed 18 = .ok (.goto (-16), 3) := by decide +kernel
theorem dM_changed_21 : decode cM_changed 21 = .ok (.return_, 1) := by decide +kernel
theorem dM_barred_0 : decode cM_barred 0 = .ok (.iconst 0, 1) := by decide +kernel
theorem dM_barred_1 : decode cM_barred 1 = .ok (.istore_n 2, 1) := by decide +kernel
theorem dM_barred_2 : decode cM_barred 2 = .ok (.iconst 0, 1) := by decide +kernel
theorem dM_barred_3 : decode cM_barred 3 = .ok (.istore_n 3, 1) := by decide +kernel
theorem dM_barred_4 : decode cM_barred 4 = .ok (.iload_n 3, 1) := by decide +kernel
theorem dM_barred_5 : decode cM_barred 5 = .ok (.aload_n 0, 1) := by decide +kernel
theorem dM_barred_6 : decode cM_barred 6 = .ok (.getfield 141, 3) := by decide +kernel
theorem dM_barred_9 : decode cM_barred 9 = .ok (.if_icmp .ge 28, 3) := by decide +kernel
theorem dM_barred_12 : decode cM_barred 12 = .ok (.iload_n 2, 1) := by decide +kernel
theorem dM_barred_13 : decode cM_barred 13 = .ok (.ifCond .ne 12, 3) := by decide +kernel
theorem dM_barred_16 : decode cM_barred 16 = .ok (.aload_n 0, 1) := by decide +kernel
theorem dM_barred_17 : decode cM_barred 17 = .ok (.iload_n 3, 1) := by decide +kernel
theorem dM_barred_18 : decode cM_barred 18 = .ok (.iload_n 1, 1) := by decide +kernel
theorem dM_barred_19 : decode cM_barred 19 = .ok (.invokevirtual 144, 3) := by decide +kernel
theorem dM_barred_22 : decode cM_barred 22 = .ok (.ifCond .eq 7, 3) := by decide +kernel
theorem dM_barred_25 : decode cM_barred 25 = .ok (.iconst 1, 1) := by decide +kernel
theorem dM_barred_26 : decode cM_barred 26 = .ok (.goto 4, 3) := by decide +kernel
theorem dM_barred_29 : decode cM_barred 29 = .ok (.iconst 0, 1) := by decide +kernel
theorem dM_barred_30 : decode cM_barred 30 = .ok (.istore_n 2, 1) := by decide +kernel
theorem dM_barred_31 : decode cM_barred 31 = .ok (.iinc 3 1, 3) := by decide +kernel
theorem dM_barred_34 : decode cM_barred 34 = .ok (.goto (-30), 3) := by decide +kernel
theorem dM_barred_37 : decode cM_barred 37 = .ok (.iload_n 2, 1) := by decide +kernel
theorem dM_barred_38 : decode cM_barred 38 = .ok (.ireturn, 1) := by decide +kernel
theorem dM_signals_0 : decode cM_signals 0 = .ok (.aload_n 0, 1) := by decide +kernel
theorem dM_signals_1 : decode cM_signals 1 = .ok (.iload_n 1, 1) := by decide +kernel
theorem dM_signals_2 : decode cM_signals 2 = .ok (.iload_n 2, 1) := by decide +kernel
theorem dM_signals_3 : decode cM_signals 3 = .ok (.iload_n 3, 1) := by decide +kernel
theorem dM_signals_4 : decode cM_signals 4 = .ok (.invokevirtual 101, 3) := by decide +kernel
theorem dM_signals_7 : decode cM_signals 7 = .ok (.ifCond .eq 22, 3) := by decide +kernel
theorem dM_signals_10 : decode cM_signals 10 = .ok (.aload_n 0, 1) := by decide +kernel
theorem dM_signals_11 : decode cM_signals 11 = .ok (.getfield 13, 3) := by decide +kernel
theorem dM_signals_14 : decode cM_signals 14 = .ok (.bipush 6, 2) := by decide +kernel
theorem dM_signals_16 : decode cM_signals 16 = .ok (.bipush 8, 2) := by decide +kernel
theorem dM_signals_18 : decode cM_signals 18 = .ok (.iload_n 2, 1) := by decide +kernel
theorem dM_signals_19 : decode cM_signals 19 = .ok (.imul, 1) := by decide +kernel
theorem dM_signals_20 : decode cM_signals 20 = .ok (.iload_n 1, 1) := by decide +kernel
theorem dM_signals_21 : decode cM_signals 21 = .ok (.iadd, 1) := by decide +kernel
theorem dM_signals_22 : decode cM_signals 22 = .ok (.imul, 1) := by decide +kernel
theorem dM_signals_23 : decode cM_signals 23 = .ok (.iload_n 3, 1) := by decide +kernel
theorem dM_signals_24 : decode cM_signals 24 = .ok (.iadd, 1) := by decide +kernel
theorem dM_signals_25 : decode cM_signals 25 = .ok (.iaload, 1) := by decide +kernel
theorem dM_signals_26 : decode cM_signals 26 = .ok (.goto 4, 3) := by decide +kernel
theorem dM_signals_29 : decode cM_signals 29 = .ok (.iconst (-1), 1) := by decide +kernel
theorem dM_signals_30 : decode cM_signals 30 = .ok (.ireturn, 1) := by decide +kernel
theorem dM_held_0 : decode cM_held 0 = .ok (.aload_n 0, 1) := by decide +kernel
theorem dM_held_1 : decode cM_held 1 = .ok (.iload_n 1, 1) := by decide +kernel
theorem dM_held_2 : decode cM_held 2 = .ok (.invokevirtual 210, 3) := by decide +kernel
theorem dM_held_5 : decode cM_held 5 = .ok (.ifCond .eq 17, 3) := by decide +kernel
theorem dM_held_8 : decode cM_held 8 = .ok (.iload_n 2, 1) := by decide +kernel
theorem dM_held_9 : decode cM_held 9 = .ok (.ifCond .lt 13, 3) := by decide +kernel
theorem dM_held_12 : decode cM_held 12 = .ok (.iload_n 2, 1) := by decide +kernel
theorem dM_held_13 : decode cM_held 13 = .ok (.aload_n 0, 1) := by decide +kernel
theorem dM_held_14 : decode cM_held 14 = .ok (.getfield 35, 3) := by decide +kernel
theorem dM_held_17 : decode cM_held 17 = .ok (.iload_n 1, 1) := by decide +kernel
theorem dM_held_18 : decode cM_held 18 = .ok (.iaload, 1) := by decide +kernel
theorem dM_held_19 : decode cM_held 19 = .ok (.if_icmp .lt 5, 3) := by decide +kernel
theorem dM_held_22 : decode cM_held 22 = .ok (.iconst (-1), 1) := by decide +kernel
theorem dM_held_23 : decode cM_held 23 = .ok (.ireturn, 1) := by decide +kernel
theorem dM_held_24 : decode cM_held 24 = .ok (.aload_n 0, 1) := by decide +kernel
theorem dM_held_25 : decode cM_held 25 = .ok (.getfield 32, 3) := by decide +kernel
theorem dM_held_28 : decode cM_held 28 = .ok (.sipush 300, 3) := by decide +kernel
theorem dM_held_31 : decode cM_held 31 = .ok (.iload_n 1, 1) := by decide +kernel
theorem dM_held_32 : decode cM_held 32 = .ok (.imul, 1) := by decide +kernel
theorem dM_held_33 : decode cM_held 33 = .ok (.iload_n 2, 1) := by decide +kernel
theorem dM_held_34 : decode cM_held 34 = .ok (.iadd, 1) := by decide +kernel
theorem dM_held_35 : decode cM_held 35 = .ok (.iaload, 1) := by decide +kernel
theorem dM_held_36 : decode cM_held 36 = .ok (.istore_n 3, 1) := by decide +kernel
theorem dM_held_37 : decode cM_held 37 = .ok (.iload_n 3, 1) := by decide +kernel
theorem dM_held_38 : decode cM_held 38 = .ok (.bipush 12, 2) := by decide +kernel
theorem dM_held_40 : decode cM_held 40 = .ok (.idiv, 1) := by decide +kernel
theorem dM_held_41 : decode cM_held 41 = .ok (.istore 4, 2) := by decide +kernel
theorem dM_held_43 : decode cM_held 43 = .ok (.iload 4, 2) := by decide +kernel
theorem dM_held_45 : decode cM_held 45 = .ok (.bipush 8, 2) := by decide +kernel
theorem dM_held_47 : decode cM_held 47 = .ok (.irem, 1) := by decide +kernel
theorem dM_held_48 : decode cM_held 48 = .ok (.bipush 8, 2) := by decide +kernel
theorem dM_held_50 : decode cM_held 50 = .ok (.iload 4, 2) := by decide +kernel
theorem dM_held_52 : decode cM_held 52 = .ok (.bipush 8, 2) := by decide +kernel
theorem dM_held_54 : decode cM_held 54 = .ok (.idiv, 1) := by decide +kernel
theorem dM_held_55 : decode cM_held 55 = .ok (.imul, 1) := by decide +kernel
theorem dM_held_56 : decode cM_held 56 = .ok (.iadd, 1) := by decide +kernel
theorem dM_held_57 : decode cM_held 57 = .ok (.bipush 64, 2) := by decide +kernel
theorem dM_held_59 : decode cM_held 59 = .ok (.iload_n 3, 1) := by decide +kernel
theorem dM_held_60 : decode cM_held 60 = .ok (.iconst 2, 1) := by decide +kernel
theorem dM_held_61 : decode cM_held 61 = .ok (.idiv, 1) := by decide +kernel
theorem dM_held_62 : decode cM_held 62 = .ok (.bipush 6, 2) := by decide +kernel
theorem dM_held_64 : decode cM_held 64 = .ok (.irem, 1) := by decide +kernel
theorem dM_held_65 : decode cM_held 65 = .ok (.imul, 1) := by decide +kernel
theorem dM_held_66 : decode cM_held 66 = .ok (.iadd, 1) := by decide +kernel
theorem dM_held_67 : decode cM_held 67 = .ok (.sipush 512, 3) := by decide +kernel
theorem dM_held_70 : decode cM_held 70 = .ok (.iload_n 3, 1) := by decide +kernel
theorem dM_held_71 : decode cM_held 71 = .ok (.invokestatic 109, 3) := by decide +kernel
theorem dM_held_74 : decode cM_held 74 = .ok (.imul, 1) := by decide +kernel
theorem dM_held_75 : decode cM_held 75 = .ok (.iadd, 1) := by decide +kernel
theorem dM_held_76 : decode cM_held 76 = .ok (.ireturn, 1) := by decide +kernel
theorem dM_motion_0 : decode cM_motion 0 = .ok (.aload_n 0, 1) := by decide +kernel
theorem dM_motion_1 : decode cM_motion 1 = .ok (.iload_n 1, 1) := by decide +kernel
theorem dM_motion_2 : decode cM_motion 2 = .ok (.invokevirtual 210, 3) := by decide +kernel
theorem dM_motion_5 : decode cM_motion 5 = .ok (.ifCond .eq 33, 3) := by decide +kernel
theorem dM_motion_8 : decode cM_motion 8 = .ok (.aload_n 0, 1) := by decide +kernel
theorem dM_motion_9 : decode cM_motion 9 = .ok (.iload_n 1, 1) := by decide +kernel
theorem dM_motion_10 : decode cM_motion 10 = .ok (.invokevirtual 135, 3) := by decide +kernel
theorem dM_motion_13 : decode cM_motion 13 = .ok (.sipush 1000, 3) := by decide +kernel
theorem dM_motion_16 : decode cM_motion 16 = .ok (.aload_n 0, 1) := by decide +kernel
theorem dM_motion_17 : decode cM_motion 17 = .ok (.getfield 41, 3) := by decide +kernel
theorem dM_motion_20 : decode cM_motion 20 = .ok (.iload_n 1, 1) := by decide +kernel
theorem dM_motion_21 : decode cM_motion 21 = .ok (.iaload, 1) := by decide +kernel
theorem dM_motion_22 : decode cM_motion 22 = .ok (.imul, 1) := by decide +kernel
theorem dM_motion_23 : decode cM_motion 23 = .ok (.iadd, 1) := by decide +kernel
theorem dM_motion_24 : decode cM_motion 24 = .ok (.sipush 10000, 3) := by decide +kernel
theorem dM_motion_27 : decode cM_motion 27 = .ok (.aload_n 0, 1) := by decide +kernel
theorem dM_motion_28 : decode cM_motion 28 = .ok (.getfield 44, 3) := by decide +kernel
theorem dM_motion_31 : decode cM_motion 31 = .ok (.iload_n 1, 1) := by decide +kernel
theorem dM_motion_32 : decode cM_motion 32 = .ok (.iaload, 1) := by decide +kernel
theorem dM_motion_33 : decode cM_motion 33 = .ok (.imul, 1) := by decide +kernel
theorem dM_motion_34 : decode cM_motion 34 = .ok (.iadd, 1) := by decide +kernel
theorem dM_motion_35 : decode cM_motion 35 = .ok (.goto 4, 3) := by decide +kernel
theorem dM_motion_38 : decode cM_motion 38 = .ok (.iconst (-1), 1) := by decide +kernel
theorem dM_motion_39 : decode cM_motion 39 = .ok (.ireturn, 1) := by decide +kernel
theorem dM_load_0 : decode cM_load 0 = .ok (.aload_n 0, 1) := by decide +kernel
theorem dM_load_1 : decode cM_load 1 = .ok (.iload_n 1, 1) := by decide +kernel
theorem dM_load_2 : decode cM_load 2 = .ok (.invokevirtual 210, 3) := by decide +kernel
theorem dM_load_5 : decode cM_load 5 = .ok (.ifCond .eq 12, 3) := by decide +kernel
theorem dM_load_8 : decode cM_load 8 = .ok (.aload_n 0, 1) := by decide +kernel
theorem dM_load_9 : decode cM_load 9 = .ok (.getfield 47, 3) := by decide +kernel
theorem dM_load_12 : decode cM_load 12 = .ok (.iload_n 1, 1) := by decide +kernel
theorem dM_load_13 : decode cM_load 13 = .ok (.iaload, 1) := by decide +kernel
theorem dM_load_14 : decode cM_load 14 = .ok (.goto 4, 3) := by decide +kernel
theorem dM_load_17 : decode cM_load 17 = .ok (.iconst (-1), 1) := by decide +kernel
theorem dM_load_18 : decode cM_load 18 = .ok (.ireturn, 1) := by decide +kernel
theorem dM_target_0 : decode cM_target 0 = .ok (.aload_n 0, 1) := by decide +kernel
theorem dM_target_1 : decode cM_target 1 = .ok (.iload_n 1, 1) := by decide +kernel
theorem dM_target_2 : decode cM_target 2 = .ok (.invokevirtual 210, 3) := by decide +kernel
theorem dM_target_5 : decode cM_target 5 = .ok (.ifCond .eq 20, 3) := by decide +kernel
theorem dM_target_8 : decode cM_target 8 = .ok (.aload_n 0, 1) := by decide +kernel
theorem dM_target_9 : decode cM_target 9 = .ok (.getfield 56, 3) := by decide +kernel
theorem dM_target_12 : decode cM_target 12 = .ok (.iload_n 1, 1) := by decide +kernel
theorem dM_target_13 : decode cM_target 13 = .ok (.iaload, 1) := by decide +kernel
theorem dM_target_14 : decode cM_target 14 = .ok (.ifCond .le 11, 3) := by decide +kernel
theorem dM_target_17 : decode cM_target 17 = .ok (.aload_n 0, 1) := by decide +kernel
theorem dM_target_18 : decode cM_target 18 = .ok (.iload_n 1, 1) := by decide +kernel
theorem dM_target_19 : decode cM_target 19 = .ok (.invokevirtual 132, 3) := by decide +kernel
theorem dM_target_22 : decode cM_target 22 = .ok (.goto 4, 3) := by decide +kernel
theorem dM_target_25 : decode cM_target 25 = .ok (.iconst (-1), 1) := by decide +kernel
theorem dM_target_26 : decode cM_target 26 = .ok (.ireturn, 1) := by decide +kernel
theorem dM_waiting_0 : decode cM_waiting 0 = .ok (.iload_n 1, 1) := by decide +kernel
theorem dM_waiting_1 : decode cM_waiting 1 = .ok (.ifCond .lt 20, 3) := by decide +kernel
theorem dM_waiting_4 : decode cM_waiting 4 = .ok (.iload_n 1, 1) := by decide +kernel
theorem dM_waiting_5 : decode cM_waiting 5 = .ok (.aload_n 0, 1) := by decide +kernel
theorem dM_waiting_6 : decode cM_waiting 6 = .ok (.getfield 185, 3) := by decide +kernel
theorem dM_waiting_9 : decode cM_waiting 9 = .ok (.if_icmp .ge 12, 3) := by decide +kernel
theorem dM_waiting_12 : decode cM_waiting 12 = .ok (.aload_n 0, 1) := by decide +kernel
theorem dM_waiting_13 : decode cM_waiting 13 = .ok (.getfield 23, 3) := by decide +kernel
theorem dM_waiting_16 : decode cM_waiting 16 = .ok (.iload_n 1, 1) := by decide +kernel
theorem dM_waiting_17 : decode cM_waiting 17 = .ok (.iaload, 1) := by decide +kernel
theorem dM_waiting_18 : decode cM_waiting 18 = .ok (.goto 4, 3) := by decide +kernel
theorem dM_waiting_21 : decode cM_waiting 21 = .ok (.iconst (-1), 1) := by decide +kernel
theorem dM_waiting_22 : decode cM_waiting 22 = .ok (.ireturn, 1) := by decide +kernel
theorem dM_produced_0 : decode cM_produced 0 = .ok (.aload_n 0, 1) := by decide +kernel
theorem dM_produced_1 : decode cM_produced 1 = .ok (.getfield 188, 3) := by decide +kernel
theorem dM_produced_4 : decode cM_produced 4 = .ok (.ireturn, 1) := by decide +kernel
theorem dM_delivered_0 : decode cM_delivered 0 = .ok (.aload_n 0, 1) := by decide +kernel
theorem dM_delivered_1 : decode cM_delivered 1 = .ok (.getfield 164, 3) := by decide +kernel
theorem dM_delivered_4 : decode cM_delivered 4 = .ok (.ireturn, 1) := by decide +kernel
theorem dM_clock_0 : decode cM_clock 0 = .ok (.aload_n 0, 1) := by decide +kernel
theorem dM_clock_1 : decode cM_clock 1 = .ok (.getfield 182, 3) := by decide +kernel
theorem dM_clock_4 : decode cM_clock 4 = .ok (.ireturn, 1) := by decide +kernel
theorem dM_stationed_0 : decode cM_stationed 0 = .ok (.iconst 0, 1) := by decide +kernel
theorem dM_stationed_1 : decode cM_stationed 1 = .ok (.istore 4, 2) := by decide +kernel
theorem dM_stationed_3 : decode cM_stationed 3 = .ok (.iconst 0, 1) := by decide +kernel
theorem dM_stationed_4 : decode cM_stationed 4 = .ok (.istore 5, 2) := by decide +kernel
theorem dM_stationed_6 : decode cM_stationed 6 = .ok (.iload 5, 2) := by decide +kernel
theorem dM_stationed_8 : decode cM_stationed 8 = .ok (.aload_n 0, 1) := by decide +kernel
theorem dM_stationed_9 : decode cM_stationed 9 = .ok (.getfield 185, 3) := by decide +kernel
theorem dM_stationed_12 : decode cM_stationed 12 = .ok (.if_icmp .ge 68, 3) := by decide +kernel
theorem dM_stationed_15 : decode cM_stationed 15 = .ok (.iload 4, 2) := by decide +kernel
theorem dM_stationed_17 : decode cM_stationed 17 = .ok (.ifCond .ne 50, 3) := by decide +kernel
theorem dM_stationed_20 : decode cM_stationed 20 = .ok (.iload_n 3, 1) := by decide +kernel
theorem dM_stationed_21 : decode cM_stationed 21 = .ok (.ifCond .ge 25, 3) := by decide +kernel
theorem dM_stationed_24 : decode cM_stationed 24 = .ok (.aload_n 0, 1) := by decide +kernel
theorem dM_stationed_25 : decode cM_stationed 25 = .ok (.getfield 17, 3) := by decide +kernel
theorem dM_stationed_28 : decode cM_stationed 28 = .ok (.iload 5, 2) := by decide +kernel
theorem dM_stationed_30 : decode cM_stationed 30 = .ok (.iaload, 1) := by decide +kernel
theorem dM_stationed_31 : decode cM_stationed 31 = .ok (.bipush 6, 2) := by decide +kernel
theorem dM_stationed_33 : decode cM_stationed 33 = .ok (.idiv, 1) := by decide +kernel
theorem dM_stationed_34 : decode cM_stationed 34 = .ok (.bipush 8, 2) := by decide +kernel
theorem dM_stationed_36 : decode cM_stationed 36 = .ok (.iload_n 2, 1) := by decide +kernel
theorem dM_stationed_37 : decode cM_stationed 37 = .ok (.imul, 1) := by decide +kernel
theorem dM_stationed_38 : decode cM_stationed 38 = .ok (.iload_n 1, 1) := by decide +kernel
theorem dM_stationed_39 : decode cM_stationed 39 = .ok (.iadd, 1) := by decide +kernel
theorem dM_stationed_40 : decode cM_stationed 40 = .ok (.if_icmp .ne 31, 3) := by decide +kernel
theorem dM_stationed_43 : decode cM_stationed 43 = .ok (.goto 24, 3) := by decide +kernel
theorem dM_stationed_46 : decode cM_stationed 46 = .ok (.aload_n 0, 1) := by decide +kernel
theorem dM_stationed_47 : decode cM_stationed 47 = .ok (.getfield 17, 3) := by decide +kernel
theorem dM_stationed_50 : decode cM_stationed 50 = .ok (.iload 5, 2) := by decide +kernel
theorem dM_stationed_52 : decode cM_stationed 52 = .ok (.iaload, 1) := by decide +kernel
theorem dM_stationed_53 : decode cM_stationed 53 = .ok (.bipush 6, 2) := by decide +kernel
theorem dM_stationed_55 : decode cM_stationed 55 = .ok (.bipush 8, 2) := by decide +kernel
theorem dM_stationed_57 : decode cM_stationed 57 = .ok (.iload_n 2, 1) := by decide +kernel
theorem dM_stationed_58 : decode cM_stationed 58 = .ok (.imul, 1) := by decide +kernel
theorem dM_stationed_59 : decode cM_stationed 59 = .ok (.iload_n 1, 1) := by decide +kernel
theorem dM_stationed_60 : decode cM_stationed 60 = .ok (.iadd, 1) := by decide +kernel
theorem dM_stationed_61 : decode cM_stationed 61 = .ok (.imul, 1) := by decide +kernel
theorem dM_stationed_62 : decode cM_stationed 62 = .ok (.iload_n 3, 1) := by decide +kernel
theorem dM_stationed_63 : decode cM_stationed 63 = .ok (.iadd, 1) := by decide +kernel
theorem dM_stationed_64 : decode cM_stationed 64 = .ok (.if_icmp .ne 7, 3) := by decide +kernel
theorem dM_stationed_67 : decode cM_stationed 67 = .ok (.iconst 1, 1) := by decide +kernel
theorem dM_stationed_68 : decode cM_stationed 68 = .ok (.goto 4, 3) := by decide +kernel
theorem dM_stationed_71 : decode cM_stationed 71 = .ok (.iconst 0, 1) := by decide +kernel
theorem dM_stationed_72 : decode cM_stationed 72 = .ok (.istore 4, 2) := by decide +kernel
theorem dM_stationed_74 : decode cM_stationed 74 = .ok (.iinc 5 1, 3) := by decide +kernel
theorem dM_stationed_77 : decode cM_stationed 77 = .ok (.goto (-71), 3) := by decide +kernel
theorem dM_stationed_80 : decode cM_stationed 80 = .ok (.iload 4, 2) := by decide +kernel
theorem dM_stationed_82 : decode cM_stationed 82 = .ok (.ireturn, 1) := by decide +kernel
theorem dM_tileHeld_0 : decode cM_tileHeld 0 = .ok (.iconst 0, 1) := by decide +kernel
theorem dM_tileHeld_1 : decode cM_tileHeld 1 = .ok (.istore_n 3, 1) := by decide +kernel
theorem dM_tileHeld_2 : decode cM_tileHeld 2 = .ok (.iconst 0, 1) := by decide +kernel
theorem dM_tileHeld_3 : decode cM_tileHeld 3 = .ok (.istore 4, 2) := by decide +kernel
theorem dM_tileHeld_5 : decode cM_tileHeld 5 = .ok (.iload 4, 2) := by decide +kernel
theorem dM_tileHeld_7 : decode cM_tileHeld 7 = .ok (.aload_n 0, 1) := by decide +kernel
theorem dM_tileHeld_8 : decode cM_tileHeld 8 = .ok (.getfield 141, 3) := by decide +kernel
theorem dM_tileHeld_11 : decode cM_tileHeld 11 = .ok (.if_icmp .ge 66, 3) := by decide +kernel
theorem dM_tileHeld_14 : decode cM_tileHeld 14 = .ok (.iconst 0, 1) := by decide +kernel
theorem dM_tileHeld_15 : decode cM_tileHeld 15 = .ok (.istore 5, 2) := by decide +kernel
theorem dM_tileHeld_17 : decode cM_tileHeld 17 = .ok (.iload 5, 2) := by decide +kernel
theorem dM_tileHeld_19 : decode cM_tileHeld 19 = .ok (.aload_n 0, 1) := by decide +kernel
theorem dM_tileHeld_20 : decode cM_tileHeld 20 = .ok (.getfield 35, 3) := by decide +kernel
theorem dM_tileHeld_23 : decode cM_tileHeld 23 = .ok (.iload 4, 2) := by decide +kernel
theorem dM_tileHeld_25 : decode cM_tileHeld 25 = .ok (.iaload, 1) := by decide +kernel
theorem dM_tileHeld_26 : decode cM_tileHeld 26 = .ok (.if_icmp .ge 45, 3) := by decide +kernel
theorem dM_tileHeld_29 : decode cM_tileHeld 29 = .ok (.iload_n 3, 1) := by decide +kernel
theorem dM_tileHeld_30 : decode cM_tileHeld 30 = .ok (.ifCond .ne 29, 3) := by decide +kernel
theorem dM_tileHeld_33 : decode cM_tileHeld 33 = .ok (.aload_n 0, 1) := by decide +kernel
theorem dM_tileHeld_34 : decode cM_tileHeld 34 = .ok (.getfield 32, 3) := by decide +kernel
theorem dM_tileHeld_37 : decode cM_tileHeld 37 = .ok (.sipush 300, 3) := by decide +kernel
theorem dM_tileHeld_40 : decode cM_tileHeld 40 = .ok (.iload 4, 2) := by decide +kernel
theorem dM_tileHeld_42 : decode cM_tileHeld 42 = .ok (.imul, 1) := by decide +kernel
theorem dM_tileHeld_43 : decode cM_tileHeld 43 = .ok (.iload 5, 2) := by decide +kernel
theorem dM_tileHeld_45 : decode cM_tileHeld 45 = .ok (.iadd, 1) := by decide +kernel
theorem dM_tileHeld_46 : decode cM_tileHeld 46 = .ok (.iaload, 1) := by decide +kernel
theorem dM_tileHeld_47 : decode cM_tileHeld 47 = .ok (.bipush 12, 2) := by decide +kernel
theorem dM_tileHeld_49 : decode cM_tileHeld 49 = .ok (.idiv, 1) := by decide +kernel
theorem dM_tileHeld_50 : decode cM_tileHeld 50 = .ok (.bipush 8, 2) := by decide +kernel
theorem dM_tileHeld_52 : decode cM_tileHeld 52 = .ok (.iload_n 2, 1) := by decide +kernel
theorem dM_tileHeld_53 : decode cM_tileHeld 53 = .ok (.imul, 1) := by decide +kernel
theorem dM_tileHeld_54 : decode cM_tileHeld 54 = .ok (.iload_n 1, 1) := by decide +kernel
theorem dM_tileHeld_55 : decode cM_tileHeld 55 = .ok (.iadd, 1) := by decide +kernel
theorem dM_tileHeld_56 : decode cM_tileHeld 56 = .ok (.if_icmp .ne 7, 3) := by decide +kernel
theorem dM_tileHeld_59 : decode cM_tileHeld 59 = .ok (.iconst 1, 1) := by decide +kernel
theorem dM_tileHeld_60 : decode cM_tileHeld 60 = .ok (.goto 4, 3) := by decide +kernel
theorem dM_tileHeld_63 : decode cM_tileHeld 63 = .ok (.iconst 0, 1) := by decide +kernel
theorem dM_tileHeld_64 : decode cM_tileHeld 64 = .ok (.istore_n 3, 1) := by decide +kernel
theorem dM_tileHeld_65 : decode cM_tileHeld 65 = .ok (.iinc 5 1, 3) := by decide +kernel
theorem dM_tileHeld_68 : decode cM_tileHeld 68 = .ok (.goto (-51), 3) := by decide +kernel
theorem dM_tileHeld_71 : decode cM_tileHeld 71 = .ok (.iinc 4 1, 3) := by decide +kernel
theorem dM_tileHeld_74 : decode cM_tileHeld 74 = .ok (.goto (-69), 3) := by decide +kernel
theorem dM_tileHeld_77 : decode cM_tileHeld 77 = .ok (.iload_n 3, 1) := by decide +kernel
theorem dM_tileHeld_78 : decode cM_tileHeld 78 = .ok (.ireturn, 1) := by decide +kernel
theorem lmM_144 : Cond.methodLink R_M 144 yM_bars ∈ bigW := bw 819 (by decide +kernel) rfl
theorem lmM_210 : Cond.methodLink R_M 210 yM_isTrain ∈ bigW := bw 875 (by decide +kernel) rfl
theorem lfM_41 : Cond.fieldLink R_M 41 "RailYardModel" "speed" "[I" ∈ bigW := bw 646 (by decide +kernel) rfl
theorem lfM_44 : Cond.fieldLink R_M 44 "RailYardModel" "wait" "[I" ∈ bigW := bw 647 (by decide +kernel) rfl
theorem lfM_47 : Cond.fieldLink R_M 47 "RailYardModel" "cargo" "[I" ∈ bigW := bw 648 (by decide +kernel) rfl
theorem lfM_56 : Cond.fieldLink R_M 56 "RailYardModel" "orderCount" "[I" ∈ bigW := bw 651 (by decide +kernel) rfl
theorem lfM_185 : Cond.fieldLink R_M 185 "RailYardModel" "stations" "I" ∈ bigW := bw 636 (by decide +kernel) rfl
theorem lfM_23 : Cond.fieldLink R_M 23 "RailYardModel" "waits" "[I" ∈ bigW := bw 639 (by decide +kernel) rfl
theorem lfM_188 : Cond.fieldLink R_M 188 "RailYardModel" "made" "I" ∈ bigW := bw 655 (by decide +kernel) rfl
theorem lfM_164 : Cond.fieldLink R_M 164 "RailYardModel" "brought" "I" ∈ bigW := bw 656 (by decide +kernel) rfl
theorem lfM_182 : Cond.fieldLink R_M 182 "RailYardModel" "now" "I" ∈ bigW := bw 657 (by decide +kernel) rfl
theorem miM_bars : MI yM_bars cM_bars 4 (some .boolean) 2 := ⟨bw 822 (by decide +kernel) rfl, bw 48 (by decide +kernel) rfl, ⟨by decide +kernel, by decide +kernel⟩, by decide +kernel, by decide⟩
theorem mvM_bars : MV yM_bars := ⟨bw 821 (by decide +kernel) rfl, bw 27 (by decide +kernel) rfl⟩
theorem miM_isTrain : MI yM_isTrain cM_isTrain 2 (some .boolean) 1 := ⟨bw 878 (by decide +kernel) rfl, bw 48 (by decide +kernel) rfl, ⟨by decide +kernel, by decide +kernel⟩, by decide +kernel, by decide⟩
theorem mvM_isTrain : MV yM_isTrain := ⟨bw 877 (by decide +kernel) rfl, bw 36 (by decide +kernel) rfl⟩
def chI (w u : RW) (n : Int) : Prop := (∀ j, j ≠ 83 → u j = w j) ∧ ∀ s, 0 ≤ s → s < n → u 83 s = 0
theorem lpM_changed {G : vG} {X : vX} {Q : State → Prop} {w : RW} (F : FX G X cM_changed yM_changed.cls 2 0) (hR : RetV G X cM_changed 2 Q (fun u => chI w u 6)) : ∀ (m : Nat) (i : Int) (u0 : RW), 0 ≤ i → i ≤ 6 → 6 - i < m → chI w u0 i → V G X 2 Q 2 [some (.inr 77), some (.inl i)] [] u0 := by
  intro m
  induction m with
  | zero => intro i u0 h1 h2 h3; omega
  | succ m ih =>
    intro i u0 h1 h2 h3 hI
    refine V_iload_n (i := 1) F dM_changed_2 rfl rfl ?_
    refine V_bipush F dM_changed_3 (by decide) ?_
    refine V_icmp_ge F 21 dM_changed_5 (by decide) (fun h5 => ?_) (fun h5 => ?_)
    · exact hR _ _ _ dM_changed_21 (by rw [show i = 6 by omega] at hI; exact hI)
    · refine V_aload_n (i := 0) F dM_changed_8 rfl rfl ?_
      refine V_getr (ci := 7) (C := R_M) (T := T_M) (N := 32) F dM_changed_9 (by first | rfl | assumption) rfl (j := 8) (by decide) rfl lfM_26 ?_
      refine V_iload_n (i := 1) F dM_changed_12 rfl rfl ?_
      refine V_iconst F dM_changed_13 (by decide) ?_
      refine V_zast F dM_changed_14 (by first | rfl | assumption) rfl (by omega) (by first | exact Or.inl rfl | exact Or.inr rfl | exact bz_01 _ | assumption) ?_
      refine V_iinc F dM_changed_15 (by decide) rfl (by omega) (by simp only [List.set_cons_zero, List.set_cons_succ]; exact rfl) ?_
      refine V_goto F 2 dM_changed_18 (by decide) ?_
      refine ih (i + 1) _ (by omega) (by omega) (by omega) ⟨fun j hj => ?_, fun s s1 s2 => ?_⟩
      · rw [upw_f hj]; exact hI.1 j hj
      · by_cases hs : s = i
        · rw [hs, upw_s]
        · rw [upw_i hs]; exact hI.2 s s1 (by omega)
theorem ctM_changed {G : vG} {l : Launch} {w : RW}  : CTv G l yM_changed cM_changed 2 0 [.inr 77] w (fun u => chI w u 6) := by
  refine CTv.intro (by decide) (Nat.le_of_ble_eq_true rfl) ?_
  intro X Q F hX hR
  subst hX
  show V G X 2 Q 0 [some (.inr 77), none] [] w
  refine V_iconst F dM_changed_0 (by decide) ?_
  refine V_istore_n (i := 1) F dM_changed_1 rfl (by decide) (by simp only [List.set_cons_zero, List.set_cons_succ]; exact rfl) ?_
  exact lpM_changed F hR 7 0 w (by omega) (by omega) (by omega) ⟨fun _ _ => rfl, fun s s1 s2 => by omega⟩
def brd (w : RW) (n p : Int) : Prop := ∃ t, 0 ≤ t ∧ t < n ∧ brs w t p
theorem brd_s {w : RW} {n p : Int} (h : 0 ≤ n) : brd w (n + 1) p ↔ brd w n p ∨ brs w n p := by
  constructor
  · rintro ⟨t, t1, t2, t3⟩
    by_cases e : t = n
    · rw [e] at t3; exact Or.inr t3
    · exact Or.inl ⟨t, t1, by omega, t3⟩
  · rintro (⟨t, t1, t2, t3⟩ | h2)
    · exact ⟨t, t1, by omega, t3⟩
    · exact ⟨n, h, by omega, h2⟩
theorem lpM_barred {G : vG} {X : vX} {Q : State → Prop} {w : RW} {p : Int} (hp : 0 ≤ p) (hm : mOK w) (F : FX G X cM_barred yM_barred.cls 4 2) (hR : RetZ G X cM_barred 4 Q (fun r u => r = bz (brd w (w 77 10) p) ∧ w = u)) : ∀ (m : Nat) (i f : Int), 0 ≤ i → i ≤ w 77 10 → w 77 10 - i < m → f = bz (brd w i p) → V G X 4 Q 4 [some (.inr 77), some (.inl p), some (.inl f), some (.inl i)] [] w := by
  have k3 := hm.2.2.1
  intro m
  induction m with
  | zero => intro i f h1 h2 h3; omega
  | succ m ih =>
    intro i f h1 h2 h3 hf
    have hf01 : f = 0 ∨ f = 1 := by rw [hf]; exact bz_01 _
    refine V_iload_n (i := 3) F dM_barred_4 rfl rfl ?_
    refine V_aload_n (i := 0) F dM_barred_5 rfl rfl ?_
    refine V_geti (ci := 7) (C := R_M) (T := T_M) (N := 32) F dM_barred_6 (by first | rfl | assumption) rfl (j := 10) 10 rfl (by decide) rfl lfM_141 ?_
    refine V_icmp_ge F 37 dM_barred_9 (by decide) (fun h9 => ?_) (fun h9 => ?_)
    · refine V_iload_n (i := 2) F dM_barred_37 rfl rfl ?_
      exact hR _ _ _ _ dM_barred_38 (by first | exact Or.inl rfl | exact Or.inr rfl | exact bz_01 _ | assumption) (by rw [show i = w 77 10 by omega] at hf; exact ⟨hf, rfl⟩)
    · refine V_iload_n (i := 2) F dM_barred_12 rfl rfl ?_
      refine V_if_ne F 25 dM_barred_13 (by decide) (fun h13 => ?_) (fun h13 => ?_)
      · refine V_iconst F dM_barred_25 (by decide) ?_
        refine V_goto F 30 dM_barred_26 (by decide) ?_
        refine V_istore_n (i := 2) F dM_barred_30 rfl (by decide) (by simp only [List.set_cons_zero, List.set_cons_succ]; exact rfl) ?_
        refine V_iinc F dM_barred_31 (by decide) rfl (by omega) (by simp only [List.set_cons_zero, List.set_cons_succ]; exact rfl) ?_
        refine V_goto F 4 dM_barred_34 (by decide) ?_
        first
        | exact ih (i + 1) _ (by omega) (by omega) (by omega) (bz_t ((brd_s h1).mpr (Or.inl (bz_ne0.mp (by rw [← hf]; exact h13))))).symm
        | exact ih (i + 1) _ (by omega) (by omega) (by omega) (bz_t ((brd_s h1).mpr (Or.inr (bz_ne0.mp h22)))).symm
        | exact ih (i + 1) _ (by omega) (by omega) (by omega) (bz_f (fun q => ((brd_s h1).mp q).elim (bz_eq0.mp (by rw [← hf]; exact h13)) (bz_eq0.mp h22))).symm
      · refine V_aload_n (i := 0) F dM_barred_16 rfl rfl ?_
        refine V_iload_n (i := 3) F dM_barred_17 rfl rfl ?_
        refine V_iload_n (i := 1) F dM_barred_18 rfl rfl ?_
        refine V_callVi F dM_barred_19 lmM_144 miM_bars mvM_bars (ctM_bars (by omega) hp hm) (by decide) (by first | rfl | assumption) rfl rfl (Nat.le_of_ble_eq_true rfl) (fun r u hr => ?_)
        obtain ⟨rfl, rfl⟩ := hr
        refine V_if_eq F 29 dM_barred_22 (by decide) (fun h22 => ?_) (fun h22 => ?_)
        · refine V_iconst F dM_barred_29 (by decide) ?_
          refine V_istore_n (i := 2) F dM_barred_30 rfl (by decide) (by simp only [List.set_cons_zero, List.set_cons_succ]; exact rfl) ?_
          refine V_iinc F dM_barred_31 (by decide) rfl (by omega) (by simp only [List.set_cons_zero, List.set_cons_succ]; exact rfl) ?_
          refine V_goto F 4 dM_barred_34 (by decide) ?_
          first
          | exact ih (i + 1) _ (by omega) (by omega) (by omega) (bz_t ((brd_s h1).mpr (Or.inl (bz_ne0.mp (by rw [← hf]; exact h13))))).symm
          | exact ih (i + 1) _ (by omega) (by omega) (by omega) (bz_t ((brd_s h1).mpr (Or.inr (bz_ne0.mp h22)))).symm
          | exact ih (i + 1) _ (by omega) (by omega) (by omega) (bz_f (fun q => ((brd_s h1).mp q).elim (bz_eq0.mp (by rw [← hf]; exact h13)) (bz_eq0.mp h22))).symm
        · refine V_iconst F dM_barred_25 (by decide) ?_
          refine V_goto F 30 dM_barred_26 (by decide) ?_
          refine V_istore_n (i := 2) F dM_barred_30 rfl (by decide) (by simp only [List.set_cons_zero, List.set_cons_succ]; exact rfl) ?_
          refine V_iinc F dM_barred_31 (by decide) rfl (by omega) (by simp only [List.set_cons_zero, List.set_cons_succ]; exact rfl) ?_
          refine V_goto F 4 dM_barred_34 (by decide) ?_
          first
          | exact ih (i + 1) _ (by omega) (by omega) (by omega) (bz_t ((brd_s h1).mpr (Or.inl (bz_ne0.mp (by rw [← hf]; exact h13))))).symm
          | exact ih (i + 1) _ (by omega) (by omega) (by omega) (bz_t ((brd_s h1).mpr (Or.inr (bz_ne0.mp h22)))).symm
          | exact ih (i + 1) _ (by omega) (by omega) (by omega) (bz_f (fun q => ((brd_s h1).mp q).elim (bz_eq0.mp (by rw [← hf]; exact h13)) (bz_eq0.mp h22))).symm
theorem ctM_barred {G : vG} {l : Launch} {w : RW} {p : Int} (hp : 0 ≤ p) (hm : mOK w) : CTi G l yM_barred cM_barred 4 .boolean 2 [.inr 77, .inl p] w (fun r u => r = bz (brd w (w 77 10) p) ∧ w = u) := by
  refine CTi.bool (by decide) (Nat.le_of_ble_eq_true rfl) ?_
  intro X Q F hX hR
  subst hX
  show V G X 4 Q 0 [some (.inr 77), some (.inl p), none, none] [] w
  refine V_iconst F dM_barred_0 (by decide) ?_
  refine V_istore_n (i := 2) F dM_barred_1 rfl (by decide) (by simp only [List.set_cons_zero, List.set_cons_succ]; exact rfl) ?_
  refine V_iconst F dM_barred_2 (by decide) ?_
  refine V_istore_n (i := 3) F dM_barred_3 rfl (by decide) (by simp only [List.set_cons_zero, List.set_cons_succ]; exact rfl) ?_
  exact lpM_barred hp hm F hR 7 0 0 (by omega) (by have := hm.2.2.1; omega) (by have := hm.2.2.1; omega) (bz_f (fun q => by obtain ⟨t, t1, t2, _⟩ := q; omega)).symm
theorem ctM_signals {G : vG} {l : Launch} {w : RW} {x y p : Int} (hm : mOK w) : CTi G l yM_signals cM_signals 4 .int 2 [.inr 77, .inl x, .inl y, .inl p] w (fun r u => r = cif (lpc w x y p) (w 79 (6 * (8 * y + x) + p)) (-1) ∧ w = u) := by
  refine CTi.int (by decide) (Nat.le_of_ble_eq_true rfl) ?_
  intro X Q F hX hR
  subst hX
  show V G X 4 Q 0 [some (.inr 77), some (.inl x), some (.inl y), some (.inl p)] [] w
  have hm0 := hm
  obtain ⟨k1, k2, k3, k4, k5, k6, k7⟩ := hm
  refine V_aload_n (i := 0) F dM_signals_0 rfl rfl ?_
  refine V_iload_n (i := 1) F dM_signals_1 rfl rfl ?_
  refine V_iload_n (i := 2) F dM_signals_2 rfl rfl ?_
  refine V_iload_n (i := 3) F dM_signals_3 rfl rfl ?_
  refine V_callVi F dM_signals_4 lmM_101 miM_isPiece mvM_isPiece (ctM_isPiece hm0) (by decide) (by first | rfl | assumption) rfl rfl (Nat.le_of_ble_eq_true rfl) (fun r u hr => ?_)
  obtain ⟨rfl, rfl⟩ := hr
  refine V_if_eq F 29 dM_signals_7 (by decide) (fun h7 => ?_) (fun h7 => ?_)
  · first | (replace h7 := bz_ne0.mp h7) | (replace h7 := bz_eq0.mp h7) | skip
    refine V_iconst F dM_signals_29 (by decide) ?_
    exact hR _ _ _ _ dM_signals_30 (by first | exact ⟨(cif_t h7).symm, rfl⟩ | exact ⟨(cif_f h7).symm, rfl⟩)
  · first | (replace h7 := bz_ne0.mp h7) | (replace h7 := bz_eq0.mp h7) | skip
    have hh := h7
    unfold lpc isT at hh
    refine V_aload_n (i := 0) F dM_signals_10 rfl rfl ?_
    refine V_getr (ci := 7) (C := R_M) (T := T_M) (N := 32) F dM_signals_11 (by first | rfl | assumption) rfl (j := 3) (by decide) rfl lfM_13 ?_
    refine V_bipush F dM_signals_14 (by decide) ?_
    refine V_bipush F dM_signals_16 (by decide) ?_
    refine V_iload_n (i := 2) F dM_signals_18 rfl rfl ?_
    refine V_imul F dM_signals_19 (by omega) ?_
    refine V_iload_n (i := 1) F dM_signals_20 rfl rfl ?_
    refine V_iadd F dM_signals_21 (by omega) ?_
    refine V_imul F dM_signals_22 (by omega) ?_
    refine V_iload_n (i := 3) F dM_signals_23 rfl rfl ?_
    refine V_iadd F dM_signals_24 (by omega) ?_
    first
      | refine V_sald F dM_signals_25 (by decide) (by omega) (stt_in _ _) ?_
      | refine V_iald F dM_signals_25 (by first | rfl | assumption) rfl (by omega) ?_
    refine V_goto F 30 dM_signals_26 (by decide) ?_
    exact hR _ _ _ _ dM_signals_30 (by first | exact ⟨(cif_t h7).symm, rfl⟩ | exact ⟨(cif_f h7).symm, rfl⟩)
theorem ctM_held {G : vG} {l : Launch} {w : RW} {t k : Int} (hm : mOK w) : CTi G l yM_held cM_held 5 .int 2 [.inr 77, .inl t, .inl k] w (fun r u => r = cif ((0 ≤ t ∧ t < w 77 10) ∧ 0 ≤ k ∧ k < w 86 t) (w 85 (300 * t + k) / 12 + 64 * (w 85 (300 * t + k) / 2 % 6) + 512 * eoQ (w 85 (300 * t + k))) (-1) ∧ w = u) := by
  refine CTi.int (by decide) (Nat.le_of_ble_eq_true rfl) ?_
  intro X Q F hX hR
  subst hX
  show V G X 5 Q 0 [some (.inr 77), some (.inl t), some (.inl k), none, none] [] w
  have hm0 := hm
  obtain ⟨k1, k2, k3, k4, k5, k6, k7⟩ := hm
  refine V_aload_n (i := 0) F dM_held_0 rfl rfl ?_
  refine V_iload_n (i := 1) F dM_held_1 rfl rfl ?_
  refine V_callVi F dM_held_2 lmM_210 miM_isTrain mvM_isTrain (ctM_isTrain) (by decide) (by first | rfl | assumption) rfl rfl (Nat.le_of_ble_eq_true rfl) (fun r u hr => ?_)
  obtain ⟨rfl, rfl⟩ := hr
  refine V_if_eq F 22 dM_held_5 (by decide) (fun h5 => ?_) (fun h5 => ?_)
  · first | (replace h5 := bz_ne0.mp h5) | (replace h5 := bz_eq0.mp h5) | skip
    refine V_iconst F dM_held_22 (by decide) ?_
    exact hR _ _ _ _ dM_held_23 (by first | exact ⟨(cif_t (P := (0 ≤ t ∧ t < w 77 10) ∧ 0 ≤ k ∧ k < w 86 t) (by omega)).symm ▸ (by omega), rfl⟩ | exact ⟨(cif_f (by omega)).symm, rfl⟩)
  · first | (replace h5 := bz_ne0.mp h5) | (replace h5 := bz_eq0.mp h5) | skip
    have ht := k5 t (by omega) (by omega)
    refine V_iload_n (i := 2) F dM_held_8 rfl rfl ?_
    refine V_if_lt F 22 dM_held_9 (by decide) (fun h9 => ?_) (fun h9 => ?_)
    · first | (replace h9 := bz_ne0.mp h9) | (replace h9 := bz_eq0.mp h9) | skip
      refine V_iconst F dM_held_22 (by decide) ?_
      exact hR _ _ _ _ dM_held_23 (by first | exact ⟨(cif_t (P := (0 ≤ t ∧ t < w 77 10) ∧ 0 ≤ k ∧ k < w 86 t) (by omega)).symm ▸ (by omega), rfl⟩ | exact ⟨(cif_f (by omega)).symm, rfl⟩)
    · first | (replace h9 := bz_ne0.mp h9) | (replace h9 := bz_eq0.mp h9) | skip
      refine V_iload_n (i := 2) F dM_held_12 rfl rfl ?_
      refine V_aload_n (i := 0) F dM_held_13 rfl rfl ?_
      refine V_getr (ci := 7) (C := R_M) (T := T_M) (N := 32) F dM_held_14 (by first | rfl | assumption) rfl (j := 12) (by decide) rfl lfM_35 ?_
      refine V_iload_n (i := 1) F dM_held_17 rfl rfl ?_
      first
        | refine V_sald F dM_held_18 (by decide) (by omega) (stt_in _ _) ?_
        | refine V_iald F dM_held_18 (by first | rfl | assumption) rfl (by omega) ?_
      refine V_icmp_lt F 24 dM_held_19 (by decide) (fun h19 => ?_) (fun h19 => ?_)
      · first | (replace h19 := bz_ne0.mp h19) | (replace h19 := bz_eq0.mp h19) | skip
        have hr6 := k6 (300 * t + k) (by omega) (by omega)
        have hq := eoQ_rng hr6.1
        refine V_aload_n (i := 0) F dM_held_24 rfl rfl ?_
        refine V_getr (ci := 7) (C := R_M) (T := T_M) (N := 32) F dM_held_25 (by first | rfl | assumption) rfl (j := 11) (by decide) rfl lfM_32 ?_
        refine V_sipush F dM_held_28 (by decide) ?_
        refine V_iload_n (i := 1) F dM_held_31 rfl rfl ?_
        refine V_imul F dM_held_32 (by omega) ?_
        refine V_iload_n (i := 2) F dM_held_33 rfl rfl ?_
        refine V_iadd F dM_held_34 (by omega) ?_
        first
          | refine V_sald F dM_held_35 (by decide) (by omega) (stt_in _ _) ?_
          | refine V_iald F dM_held_35 (by first | rfl | assumption) rfl (by omega) ?_
        refine V_istore_n (i := 3) F dM_held_36 rfl (by decide) (by simp only [List.set_cons_zero, List.set_cons_succ]; exact rfl) ?_
        refine V_iload_n (i := 3) F dM_held_37 rfl rfl ?_
        refine V_bipush F dM_held_38 (by decide) ?_
        refine V_idiv F dM_held_40 (by omega) ?_
        refine V_istore F dM_held_41 (by decide) (by simp only [List.set_cons_zero, List.set_cons_succ]; exact rfl) ?_
        refine V_iload F dM_held_43 rfl ?_
        refine V_bipush F dM_held_45 (by decide) ?_
        refine V_irem F dM_held_47 (by omega) ?_
        refine V_bipush F dM_held_48 (by decide) ?_
        refine V_iload F dM_held_50 rfl ?_
        refine V_bipush F dM_held_52 (by decide) ?_
        refine V_idiv F dM_held_54 (by omega) ?_
        refine V_imul F dM_held_55 (by omega) ?_
        refine V_iadd F dM_held_56 (by omega) ?_
        refine V_bipush F dM_held_57 (by decide) ?_
        refine V_iload_n (i := 3) F dM_held_59 rfl rfl ?_
        refine V_iconst F dM_held_60 (by decide) ?_
        refine V_idiv F dM_held_61 (by omega) ?_
        refine V_bipush F dM_held_62 (by decide) ?_
        refine V_irem F dM_held_64 (by omega) ?_
        refine V_imul F dM_held_65 (by omega) ?_
        refine V_iadd F dM_held_66 (by omega) ?_
        refine V_sipush F dM_held_67 (by decide) ?_
        refine V_iload_n (i := 3) F dM_held_70 rfl rfl ?_
        refine V_callSi F dM_held_71 lmM_109 miM_edgeOf msM_edgeOf (ctM_edgeOf (by omega)) (by decide) rfl (Nat.le_of_ble_eq_true rfl) (fun r u hr => ?_)
        obtain ⟨rfl, rfl⟩ := hr
        refine V_imul F dM_held_74 (by omega) ?_
        refine V_iadd F dM_held_75 (by omega) ?_
        exact hR _ _ _ _ dM_held_76 (by first | exact ⟨(cif_t (P := (0 ≤ t ∧ t < w 77 10) ∧ 0 ≤ k ∧ k < w 86 t) (by omega)).symm ▸ (by omega), rfl⟩ | exact ⟨(cif_f (by omega)).symm, rfl⟩)
      · first | (replace h19 := bz_ne0.mp h19) | (replace h19 := bz_eq0.mp h19) | skip
        refine V_iconst F dM_held_22 (by decide) ?_
        exact hR _ _ _ _ dM_held_23 (by first | exact ⟨(cif_t (P := (0 ≤ t ∧ t < w 77 10) ∧ 0 ≤ k ∧ k < w 86 t) (by omega)).symm ▸ (by omega), rfl⟩ | exact ⟨(cif_f (by omega)).symm, rfl⟩)
theorem ctM_motion {G : vG} {l : Launch} {w : RW} {t : Int} (hm : mOK w) : CTi G l yM_motion cM_motion 2 .int 1 [.inr 77, .inl t] w (fun r u => r = cif (0 ≤ t ∧ t < w 77 10) (w 86 t - w 87 t + 1000 * w 88 t + 10000 * w 89 t) (-1) ∧ w = u) := by
  refine CTi.int (by decide) (Nat.le_of_ble_eq_true rfl) ?_
  intro X Q F hX hR
  subst hX
  show V G X 2 Q 0 [some (.inr 77), some (.inl t)] [] w
  have hm0 := hm
  obtain ⟨k1, k2, k3, k4, k5, k6, k7⟩ := hm
  refine V_aload_n (i := 0) F dM_motion_0 rfl rfl ?_
  refine V_iload_n (i := 1) F dM_motion_1 rfl rfl ?_
  refine V_callVi F dM_motion_2 lmM_210 miM_isTrain mvM_isTrain (ctM_isTrain) (by decide) (by first | rfl | assumption) rfl rfl (Nat.le_of_ble_eq_true rfl) (fun r u hr => ?_)
  obtain ⟨rfl, rfl⟩ := hr
  refine V_if_eq F 38 dM_motion_5 (by decide) (fun h5 => ?_) (fun h5 => ?_)
  · first | (replace h5 := bz_ne0.mp h5) | (replace h5 := bz_eq0.mp h5) | skip
    refine V_iconst F dM_motion_38 (by decide) ?_
    exact hR _ _ _ _ dM_motion_39 (by first | exact ⟨(cif_t h5).symm, rfl⟩ | exact ⟨(cif_f h5).symm, rfl⟩)
  · first | (replace h5 := bz_ne0.mp h5) | (replace h5 := bz_eq0.mp h5) | skip
    have ht := k5 t (by omega) (by omega)
    refine V_aload_n (i := 0) F dM_motion_8 rfl rfl ?_
    refine V_iload_n (i := 1) F dM_motion_9 rfl rfl ?_
    refine V_callVi F dM_motion_10 lmM_135 miM_ahead mvM_ahead (ctM_ahead (by omega) hm0) (by decide) (by first | rfl | assumption) rfl rfl (Nat.le_of_ble_eq_true rfl) (fun r u hr => ?_)
    obtain ⟨rfl, rfl⟩ := hr
    refine V_sipush F dM_motion_13 (by decide) ?_
    refine V_aload_n (i := 0) F dM_motion_16 rfl rfl ?_
    refine V_getr (ci := 7) (C := R_M) (T := T_M) (N := 32) F dM_motion_17 (by first | rfl | assumption) rfl (j := 14) (by decide) rfl lfM_41 ?_
    refine V_iload_n (i := 1) F dM_motion_20 rfl rfl ?_
    first
      | refine V_sald F dM_motion_21 (by decide) (by omega) (stt_in _ _) ?_
      | refine V_iald F dM_motion_21 (by first | rfl | assumption) rfl (by omega) ?_
    refine V_imul F dM_motion_22 (by omega) ?_
    refine V_iadd F dM_motion_23 (by omega) ?_
    refine V_sipush F dM_motion_24 (by decide) ?_
    refine V_aload_n (i := 0) F dM_motion_27 rfl rfl ?_
    refine V_getr (ci := 7) (C := R_M) (T := T_M) (N := 32) F dM_motion_28 (by first | rfl | assumption) rfl (j := 15) (by decide) rfl lfM_44 ?_
    refine V_iload_n (i := 1) F dM_motion_31 rfl rfl ?_
    first
      | refine V_sald F dM_motion_32 (by decide) (by omega) (stt_in _ _) ?_
      | refine V_iald F dM_motion_32 (by first | rfl | assumption) rfl (by omega) ?_
    refine V_imul F dM_motion_33 (by omega) ?_
    refine V_iadd F dM_motion_34 (by omega) ?_
    refine V_goto F 39 dM_motion_35 (by decide) ?_
    exact hR _ _ _ _ dM_motion_39 (by first | exact ⟨(cif_t h5).symm, rfl⟩ | exact ⟨(cif_f h5).symm, rfl⟩)
theorem ctM_load {G : vG} {l : Launch} {w : RW} {t : Int} (hm : mOK w) : CTi G l yM_load cM_load 2 .int 1 [.inr 77, .inl t] w (fun r u => r = cif (0 ≤ t ∧ t < w 77 10) (w 90 t) (-1) ∧ w = u) := by
  refine CTi.int (by decide) (Nat.le_of_ble_eq_true rfl) ?_
  intro X Q F hX hR
  subst hX
  show V G X 2 Q 0 [some (.inr 77), some (.inl t)] [] w
  have hm0 := hm
  obtain ⟨k1, k2, k3, k4, k5, k6, k7⟩ := hm
  refine V_aload_n (i := 0) F dM_load_0 rfl rfl ?_
  refine V_iload_n (i := 1) F dM_load_1 rfl rfl ?_
  refine V_callVi F dM_load_2 lmM_210 miM_isTrain mvM_isTrain (ctM_isTrain) (by decide) (by first | rfl | assumption) rfl rfl (Nat.le_of_ble_eq_true rfl) (fun r u hr => ?_)
  obtain ⟨rfl, rfl⟩ := hr
  refine V_if_eq F 17 dM_load_5 (by decide) (fun h5 => ?_) (fun h5 => ?_)
  · first | (replace h5 := bz_ne0.mp h5) | (replace h5 := bz_eq0.mp h5) | skip
    refine V_iconst F dM_load_17 (by decide) ?_
    exact hR _ _ _ _ dM_load_18 (by first | exact ⟨(cif_t h5).symm, rfl⟩ | exact ⟨(cif_f h5).symm, rfl⟩)
  · first | (replace h5 := bz_ne0.mp h5) | (replace h5 := bz_eq0.mp h5) | skip
    have ht := k5 t (by omega) (by omega)
    refine V_aload_n (i := 0) F dM_load_8 rfl rfl ?_
    refine V_getr (ci := 7) (C := R_M) (T := T_M) (N := 32) F dM_load_9 (by first | rfl | assumption) rfl (j := 16) (by decide) rfl lfM_47 ?_
    refine V_iload_n (i := 1) F dM_load_12 rfl rfl ?_
    first
      | refine V_sald F dM_load_13 (by decide) (by omega) (stt_in _ _) ?_
      | refine V_iald F dM_load_13 (by first | rfl | assumption) rfl (by omega) ?_
    refine V_goto F 18 dM_load_14 (by decide) ?_
    exact hR _ _ _ _ dM_load_18 (by first | exact ⟨(cif_t h5).symm, rfl⟩ | exact ⟨(cif_f h5).symm, rfl⟩)
theorem ctM_target {G : vG} {l : Launch} {w : RW} {t : Int} (hm : mOK w) : CTi G l yM_target cM_target 2 .int 1 [.inr 77, .inl t] w (fun r u => r = cif (0 ≤ t ∧ t < w 77 10) (if 0 < w 93 t then w 92 (6 * t + w 94 t) else -1) (-1) ∧ w = u) := by
  refine CTi.int (by decide) (Nat.le_of_ble_eq_true rfl) ?_
  intro X Q F hX hR
  subst hX
  show V G X 2 Q 0 [some (.inr 77), some (.inl t)] [] w
  have hm0 := hm
  obtain ⟨k1, k2, k3, k4, k5, k6, k7⟩ := hm
  refine V_aload_n (i := 0) F dM_target_0 rfl rfl ?_
  refine V_iload_n (i := 1) F dM_target_1 rfl rfl ?_
  refine V_callVi F dM_target_2 lmM_210 miM_isTrain mvM_isTrain (ctM_isTrain) (by decide) (by first | rfl | assumption) rfl rfl (Nat.le_of_ble_eq_true rfl) (fun r u hr => ?_)
  obtain ⟨rfl, rfl⟩ := hr
  refine V_if_eq F 25 dM_target_5 (by decide) (fun h5 => ?_) (fun h5 => ?_)
  · first | (replace h5 := bz_ne0.mp h5) | (replace h5 := bz_eq0.mp h5) | skip
    refine V_iconst F dM_target_25 (by decide) ?_
    exact hR _ _ _ _ dM_target_26 (by first | exact ⟨(cif_f h5).symm, rfl⟩ | exact ⟨by rw [cif_t h5, if_pos (by omega)], rfl⟩ | exact ⟨by rw [cif_t h5, if_neg (by omega)], rfl⟩)
  · first | (replace h5 := bz_ne0.mp h5) | (replace h5 := bz_eq0.mp h5) | skip
    have ht := k5 t (by omega) (by omega)
    refine V_aload_n (i := 0) F dM_target_8 rfl rfl ?_
    refine V_getr (ci := 7) (C := R_M) (T := T_M) (N := 32) F dM_target_9 (by first | rfl | assumption) rfl (j := 19) (by decide) rfl lfM_56 ?_
    refine V_iload_n (i := 1) F dM_target_12 rfl rfl ?_
    first
      | refine V_sald F dM_target_13 (by decide) (by omega) (stt_in _ _) ?_
      | refine V_iald F dM_target_13 (by first | rfl | assumption) rfl (by omega) ?_
    refine V_if_le F 25 dM_target_14 (by decide) (fun h14 => ?_) (fun h14 => ?_)
    · first | (replace h14 := bz_ne0.mp h14) | (replace h14 := bz_eq0.mp h14) | skip
      refine V_iconst F dM_target_25 (by decide) ?_
      exact hR _ _ _ _ dM_target_26 (by first | exact ⟨(cif_f h5).symm, rfl⟩ | exact ⟨by rw [cif_t h5, if_pos (by omega)], rfl⟩ | exact ⟨by rw [cif_t h5, if_neg (by omega)], rfl⟩)
    · first | (replace h14 := bz_ne0.mp h14) | (replace h14 := bz_eq0.mp h14) | skip
      refine V_aload_n (i := 0) F dM_target_17 rfl rfl ?_
      refine V_iload_n (i := 1) F dM_target_18 rfl rfl ?_
      refine V_callVi F dM_target_19 lmM_132 miM_goal mvM_goal (ctM_goal (by omega) hm0) (by decide) (by first | rfl | assumption) rfl rfl (Nat.le_of_ble_eq_true rfl) (fun r u hr => ?_)
      obtain ⟨rfl, rfl⟩ := hr
      refine V_goto F 26 dM_target_22 (by decide) ?_
      exact hR _ _ _ _ dM_target_26 (by first | exact ⟨(cif_f h5).symm, rfl⟩ | exact ⟨by rw [cif_t h5, if_pos (by omega)], rfl⟩ | exact ⟨by rw [cif_t h5, if_neg (by omega)], rfl⟩)
theorem ctM_waiting {G : vG} {l : Launch} {w : RW} {s : Int} (hm : mOK w) : CTi G l yM_waiting cM_waiting 2 .int 0 [.inr 77, .inl s] w (fun r u => r = cif (0 ≤ s ∧ s < w 77 4) (w 82 s) (-1) ∧ w = u) := by
  refine CTi.int (by decide) (Nat.le_of_ble_eq_true rfl) ?_
  intro X Q F hX hR
  subst hX
  show V G X 2 Q 0 [some (.inr 77), some (.inl s)] [] w
  have hm0 := hm
  obtain ⟨k1, k2, k3, k4, k5, k6, k7⟩ := hm
  refine V_iload_n (i := 1) F dM_waiting_0 rfl rfl ?_
  refine V_if_lt F 21 dM_waiting_1 (by decide) (fun h1 => ?_) (fun h1 => ?_)
  · first | (replace h1 := bz_ne0.mp h1) | (replace h1 := bz_eq0.mp h1) | skip
    refine V_iconst F dM_waiting_21 (by decide) ?_
    exact hR _ _ _ _ dM_waiting_22 (by first | exact ⟨(cif_t (by omega)).symm, rfl⟩ | exact ⟨(cif_f (by omega)).symm, rfl⟩)
  · first | (replace h1 := bz_ne0.mp h1) | (replace h1 := bz_eq0.mp h1) | skip
    refine V_iload_n (i := 1) F dM_waiting_4 rfl rfl ?_
    refine V_aload_n (i := 0) F dM_waiting_5 rfl rfl ?_
    refine V_geti (ci := 7) (C := R_M) (T := T_M) (N := 32) F dM_waiting_6 (by first | rfl | assumption) rfl (j := 4) 4 rfl (by decide) rfl lfM_185 ?_
    refine V_icmp_ge F 21 dM_waiting_9 (by decide) (fun h9 => ?_) (fun h9 => ?_)
    · first | (replace h9 := bz_ne0.mp h9) | (replace h9 := bz_eq0.mp h9) | skip
      refine V_iconst F dM_waiting_21 (by decide) ?_
      exact hR _ _ _ _ dM_waiting_22 (by first | exact ⟨(cif_t (by omega)).symm, rfl⟩ | exact ⟨(cif_f (by omega)).symm, rfl⟩)
    · first | (replace h9 := bz_ne0.mp h9) | (replace h9 := bz_eq0.mp h9) | skip
      refine V_aload_n (i := 0) F dM_waiting_12 rfl rfl ?_
      refine V_getr (ci := 7) (C := R_M) (T := T_M) (N := 32) F dM_waiting_13 (by first | rfl | assumption) rfl (j := 7) (by decide) rfl lfM_23 ?_
      refine V_iload_n (i := 1) F dM_waiting_16 rfl rfl ?_
      first
        | refine V_sald F dM_waiting_17 (by decide) (by omega) (stt_in _ _) ?_
        | refine V_iald F dM_waiting_17 (by first | rfl | assumption) rfl (by omega) ?_
      refine V_goto F 22 dM_waiting_18 (by decide) ?_
      exact hR _ _ _ _ dM_waiting_22 (by first | exact ⟨(cif_t (by omega)).symm, rfl⟩ | exact ⟨(cif_f (by omega)).symm, rfl⟩)
theorem ctM_produced {G : vG} {l : Launch} {w : RW}  : CTi G l yM_produced cM_produced 1 .int 0 [.inr 77] w (fun r u => r = w 77 23 ∧ w = u) := by
  refine CTi.int (by decide) (Nat.le_of_ble_eq_true rfl) ?_
  intro X Q F hX hR
  subst hX
  show V G X 1 Q 0 [some (.inr 77)] [] w
  refine V_aload_n (i := 0) F dM_produced_0 rfl rfl ?_
  refine V_geti (ci := 7) (C := R_M) (T := T_M) (N := 32) F dM_produced_1 (by first | rfl | assumption) rfl (j := 23) 23 rfl (by decide) rfl lfM_188 ?_
  exact hR _ _ _ _ dM_produced_4 (⟨rfl, rfl⟩)
theorem ctM_delivered {G : vG} {l : Launch} {w : RW}  : CTi G l yM_delivered cM_delivered 1 .int 0 [.inr 77] w (fun r u => r = w 77 24 ∧ w = u) := by
  refine CTi.int (by decide) (Nat.le_of_ble_eq_true rfl) ?_
  intro X Q F hX hR
  subst hX
  show V G X 1 Q 0 [some (.inr 77)] [] w
  refine V_aload_n (i := 0) F dM_delivered_0 rfl rfl ?_
  refine V_geti (ci := 7) (C := R_M) (T := T_M) (N := 32) F dM_delivered_1 (by first | rfl | assumption) rfl (j := 24) 24 rfl (by decide) rfl lfM_164 ?_
  exact hR _ _ _ _ dM_delivered_4 (⟨rfl, rfl⟩)
theorem ctM_clock {G : vG} {l : Launch} {w : RW}  : CTi G l yM_clock cM_clock 1 .int 0 [.inr 77] w (fun r u => r = w 77 25 ∧ w = u) := by
  refine CTi.int (by decide) (Nat.le_of_ble_eq_true rfl) ?_
  intro X Q F hX hR
  subst hX
  show V G X 1 Q 0 [some (.inr 77)] [] w
  refine V_aload_n (i := 0) F dM_clock_0 rfl rfl ?_
  refine V_geti (ci := 7) (C := R_M) (T := T_M) (N := 32) F dM_clock_1 (by first | rfl | assumption) rfl (j := 25) 25 rfl (by decide) rfl lfM_182 ?_
  exact hR _ _ _ _ dM_clock_4 (⟨rfl, rfl⟩)
def stP (w : RW) (x y p s : Int) : Prop := (p < 0 → w 80 s / 6 = 8 * y + x) ∧ (¬ p < 0 → w 80 s = 6 * (8 * y + x) + p)
def stM (w : RW) (n x y p : Int) : Prop := ∃ s, 0 ≤ s ∧ s < n ∧ stP w x y p s
theorem stM_s {w : RW} {n x y p : Int} (h : 0 ≤ n) : stM w (n + 1) x y p ↔ stM w n x y p ∨ stP w x y p n := by
  constructor
  · rintro ⟨t, t1, t2, t3⟩
    by_cases e : t = n
    · rw [e] at t3; exact Or.inr t3
    · exact Or.inl ⟨t, t1, by omega, t3⟩
  · rintro (⟨t, t1, t2, t3⟩ | h2)
    · exact ⟨t, t1, by omega, t3⟩
    · exact ⟨n, h, by omega, h2⟩
theorem lpM_stationed {G : vG} {X : vX} {Q : State → Prop} {w : RW} {x y p : Int} (hx : 0 ≤ x ∧ x < 8 ∧ 0 ≤ y ∧ y < 8 ∧ -1 ≤ p ∧ p < 6) (hm : mOK w) (F : FX G X cM_stationed yM_stationed.cls 6 0) (hR : RetZ G X cM_stationed 6 Q (fun r u => r = bz (stM w (w 77 4) x y p) ∧ w = u)) : ∀ (m : Nat) (i f : Int), 0 ≤ i → i ≤ w 77 4 → w 77 4 - i < m → f = bz (stM w i x y p) → V G X 6 Q 6 [some (.inr 77), some (.inl x), some (.inl y), some (.inl p), some (.inl f), some (.inl i)] [] w := by
  have k3 := hm.2.2.1
  intro m
  induction m with
  | zero => intro i f h1 h2 h3; omega
  | succ m ih =>
    intro i f h1 h2 h3 hf
    have hf01 : f = 0 ∨ f = 1 := by rw [hf]; exact bz_01 _
    refine V_iload F dM_stationed_6 rfl ?_
    refine V_aload_n (i := 0) F dM_stationed_8 rfl rfl ?_
    refine V_geti (ci := 7) (C := R_M) (T := T_M) (N := 32) F dM_stationed_9 (by first | rfl | assumption) rfl (j := 4) 4 rfl (by decide) rfl lfM_185 ?_
    refine V_icmp_ge F 80 dM_stationed_12 (by decide) (fun h12 => ?_) (fun h12 => ?_)
    · refine V_iload F dM_stationed_80 rfl ?_
      exact hR _ _ _ _ dM_stationed_82 (by first | exact Or.inl rfl | exact Or.inr rfl | exact bz_01 _ | assumption) (by rw [show i = w 77 4 by omega] at hf; exact ⟨hf, rfl⟩)
    · refine V_iload F dM_stationed_15 rfl ?_
      refine V_if_ne F 67 dM_stationed_17 (by decide) (fun h17 => ?_) (fun h17 => ?_)
      · refine V_iconst F dM_stationed_67 (by decide) ?_
        refine V_goto F 72 dM_stationed_68 (by decide) ?_
        refine V_istore F dM_stationed_72 (by decide) (by simp only [List.set_cons_zero, List.set_cons_succ]; exact rfl) ?_
        refine V_iinc F dM_stationed_74 (by decide) rfl (by omega) (by simp only [List.set_cons_zero, List.set_cons_succ]; exact rfl) ?_
        refine V_goto F 6 dM_stationed_77 (by decide) ?_
        first
        | exact ih (i + 1) _ (by omega) (by omega) (by omega) (bz_t ((stM_s h1).mpr (Or.inl (bz_ne0.mp (by rw [← hf]; exact h17))))).symm
        | exact ih (i + 1) _ (by omega) (by omega) (by omega) (bz_t ((stM_s h1).mpr (Or.inr (by unfold stP; omega)))).symm
        | exact ih (i + 1) _ (by omega) (by omega) (by omega) (bz_f (fun q => ((stM_s h1).mp q).elim (bz_eq0.mp (by rw [← hf]; exact h17)) (fun z => by unfold stP at z; omega))).symm
      · have k4 := hm.2.2.2.1 i h1 (by omega)
        refine V_iload_n (i := 3) F dM_stationed_20 rfl rfl ?_
        refine V_if_ge F 46 dM_stationed_21 (by decide) (fun h21 => ?_) (fun h21 => ?_)
        · refine V_aload_n (i := 0) F dM_stationed_46 rfl rfl ?_
          refine V_getr (ci := 7) (C := R_M) (T := T_M) (N := 32) F dM_stationed_47 (by first | rfl | assumption) rfl (j := 5) (by decide) rfl lfM_17 ?_
          refine V_iload F dM_stationed_50 rfl ?_
          first
            | refine V_sald F dM_stationed_52 (by decide) (by omega) (stt_in _ _) ?_
            | refine V_iald F dM_stationed_52 (by first | rfl | assumption) rfl (by omega) ?_
          refine V_bipush F dM_stationed_53 (by decide) ?_
          refine V_bipush F dM_stationed_55 (by decide) ?_
          refine V_iload_n (i := 2) F dM_stationed_57 rfl rfl ?_
          refine V_imul F dM_stationed_58 (by omega) ?_
          refine V_iload_n (i := 1) F dM_stationed_59 rfl rfl ?_
          refine V_iadd F dM_stationed_60 (by omega) ?_
          refine V_imul F dM_stationed_61 (by omega) ?_
          refine V_iload_n (i := 3) F dM_stationed_62 rfl rfl ?_
          refine V_iadd F dM_stationed_63 (by omega) ?_
          refine V_icmp_ne F 71 dM_stationed_64 (by decide) (fun h64 => ?_) (fun h64 => ?_)
          · refine V_iconst F dM_stationed_71 (by decide) ?_
            refine V_istore F dM_stationed_72 (by decide) (by simp only [List.set_cons_zero, List.set_cons_succ]; exact rfl) ?_
            refine V_iinc F dM_stationed_74 (by decide) rfl (by omega) (by simp only [List.set_cons_zero, List.set_cons_succ]; exact rfl) ?_
            refine V_goto F 6 dM_stationed_77 (by decide) ?_
            first
            | exact ih (i + 1) _ (by omega) (by omega) (by omega) (bz_t ((stM_s h1).mpr (Or.inl (bz_ne0.mp (by rw [← hf]; exact h17))))).symm
            | exact ih (i + 1) _ (by omega) (by omega) (by omega) (bz_t ((stM_s h1).mpr (Or.inr (by unfold stP; omega)))).symm
            | exact ih (i + 1) _ (by omega) (by omega) (by omega) (bz_f (fun q => ((stM_s h1).mp q).elim (bz_eq0.mp (by rw [← hf]; exact h17)) (fun z => by unfold stP at z; omega))).symm
          · refine V_iconst F dM_stationed_67 (by decide) ?_
            refine V_goto F 72 dM_stationed_68 (by decide) ?_
            refine V_istore F dM_stationed_72 (by decide) (by simp only [List.set_cons_zero, List.set_cons_succ]; exact rfl) ?_
            refine V_iinc F dM_stationed_74 (by decide) rfl (by omega) (by simp only [List.set_cons_zero, List.set_cons_succ]; exact rfl) ?_
            refine V_goto F 6 dM_stationed_77 (by decide) ?_
            first
            | exact ih (i + 1) _ (by omega) (by omega) (by omega) (bz_t ((stM_s h1).mpr (Or.inl (bz_ne0.mp (by rw [← hf]; exact h17))))).symm
            | exact ih (i + 1) _ (by omega) (by omega) (by omega) (bz_t ((stM_s h1).mpr (Or.inr (by unfold stP; omega)))).symm
            | exact ih (i + 1) _ (by omega) (by omega) (by omega) (bz_f (fun q => ((stM_s h1).mp q).elim (bz_eq0.mp (by rw [← hf]; exact h17)) (fun z => by unfold stP at z; omega))).symm
        · refine V_aload_n (i := 0) F dM_stationed_24 rfl rfl ?_
          refine V_getr (ci := 7) (C := R_M) (T := T_M) (N := 32) F dM_stationed_25 (by first | rfl | assumption) rfl (j := 5) (by decide) rfl lfM_17 ?_
          refine V_iload F dM_stationed_28 rfl ?_
          first
            | refine V_sald F dM_stationed_30 (by decide) (by omega) (stt_in _ _) ?_
            | refine V_iald F dM_stationed_30 (by first | rfl | assumption) rfl (by omega) ?_
          refine V_bipush F dM_stationed_31 (by decide) ?_
          refine V_idiv F dM_stationed_33 (by omega) ?_
          refine V_bipush F dM_stationed_34 (by decide) ?_
          refine V_iload_n (i := 2) F dM_stationed_36 rfl rfl ?_
          refine V_imul F dM_stationed_37 (by omega) ?_
          refine V_iload_n (i := 1) F dM_stationed_38 rfl rfl ?_
          refine V_iadd F dM_stationed_39 (by omega) ?_
          refine V_icmp_ne F 71 dM_stationed_40 (by decide) (fun h40 => ?_) (fun h40 => ?_)
          · refine V_iconst F dM_stationed_71 (by decide) ?_
            refine V_istore F dM_stationed_72 (by decide) (by simp only [List.set_cons_zero, List.set_cons_succ]; exact rfl) ?_
            refine V_iinc F dM_stationed_74 (by decide) rfl (by omega) (by simp only [List.set_cons_zero, List.set_cons_succ]; exact rfl) ?_
            refine V_goto F 6 dM_stationed_77 (by decide) ?_
            first
            | exact ih (i + 1) _ (by omega) (by omega) (by omega) (bz_t ((stM_s h1).mpr (Or.inl (bz_ne0.mp (by rw [← hf]; exact h17))))).symm
            | exact ih (i + 1) _ (by omega) (by omega) (by omega) (bz_t ((stM_s h1).mpr (Or.inr (by unfold stP; omega)))).symm
            | exact ih (i + 1) _ (by omega) (by omega) (by omega) (bz_f (fun q => ((stM_s h1).mp q).elim (bz_eq0.mp (by rw [← hf]; exact h17)) (fun z => by unfold stP at z; omega))).symm
          · refine V_goto F 67 dM_stationed_43 (by decide) ?_
            refine V_iconst F dM_stationed_67 (by decide) ?_
            refine V_goto F 72 dM_stationed_68 (by decide) ?_
            refine V_istore F dM_stationed_72 (by decide) (by simp only [List.set_cons_zero, List.set_cons_succ]; exact rfl) ?_
            refine V_iinc F dM_stationed_74 (by decide) rfl (by omega) (by simp only [List.set_cons_zero, List.set_cons_succ]; exact rfl) ?_
            refine V_goto F 6 dM_stationed_77 (by decide) ?_
            first
            | exact ih (i + 1) _ (by omega) (by omega) (by omega) (bz_t ((stM_s h1).mpr (Or.inl (bz_ne0.mp (by rw [← hf]; exact h17))))).symm
            | exact ih (i + 1) _ (by omega) (by omega) (by omega) (bz_t ((stM_s h1).mpr (Or.inr (by unfold stP; omega)))).symm
            | exact ih (i + 1) _ (by omega) (by omega) (by omega) (bz_f (fun q => ((stM_s h1).mp q).elim (bz_eq0.mp (by rw [← hf]; exact h17)) (fun z => by unfold stP at z; omega))).symm
theorem ctM_stationed {G : vG} {l : Launch} {w : RW} {x y p : Int} (hx : 0 ≤ x ∧ x < 8 ∧ 0 ≤ y ∧ y < 8 ∧ -1 ≤ p ∧ p < 6) (hm : mOK w) : CTi G l yM_stationed cM_stationed 6 .boolean 0 [.inr 77, .inl x, .inl y, .inl p] w (fun r u => r = bz (stM w (w 77 4) x y p) ∧ w = u) := by
  refine CTi.bool (by decide) (Nat.le_of_ble_eq_true rfl) ?_
  intro X Q F hX hR
  subst hX
  show V G X 6 Q 0 [some (.inr 77), some (.inl x), some (.inl y), some (.inl p), none, none] [] w
  refine V_iconst F dM_stationed_0 (by decide) ?_
  refine V_istore F dM_stationed_1 (by decide) (by simp only [List.set_cons_zero, List.set_cons_succ]; exact rfl) ?_
  refine V_iconst F dM_stationed_3 (by decide) ?_
  refine V_istore F dM_stationed_4 (by decide) (by simp only [List.set_cons_zero, List.set_cons_succ]; exact rfl) ?_
  exact lpM_stationed hx hm F hR 7 0 0 (by omega) (by have := hm.2.2.1; omega) (by have := hm.2.2.1; omega) (bz_f (fun q => by obtain ⟨t, t1, t2, _⟩ := q; omega)).symm
def hd1 (w : RW) (c t n : Int) : Prop := ∃ k, 0 ≤ k ∧ k < n ∧ w 85 (300 * t + k) / 12 = c
def hdM (w : RW) (c n : Int) : Prop := ∃ t, 0 ≤ t ∧ t < n ∧ hd1 w c t (w 86 t)
theorem hd1_s {w : RW} {c t n : Int} (h : 0 ≤ n) : hd1 w c t (n + 1) ↔ hd1 w c t n ∨ w 85 (300 * t + n) / 12 = c := by
  constructor
  · rintro ⟨k, t1, t2, t3⟩
    by_cases e : k = n
    · rw [e] at t3; exact Or.inr t3
    · exact Or.inl ⟨k, t1, by omega, t3⟩
  · rintro (⟨t, t1, t2, t3⟩ | h2)
    · exact ⟨t, t1, by omega, t3⟩
    · exact ⟨n, h, by omega, h2⟩
theorem hdM_s {w : RW} {c n : Int} (h : 0 ≤ n) : hdM w c (n + 1) ↔ hdM w c n ∨ hd1 w c n (w 86 n) := by
  constructor
  · rintro ⟨k, t1, t2, t3⟩
    by_cases e : k = n
    · rw [e] at t3; exact Or.inr t3
    · exact Or.inl ⟨k, t1, by omega, t3⟩
  · rintro (⟨t, t1, t2, t3⟩ | h2)
    · exact ⟨t, t1, by omega, t3⟩
    · exact ⟨n, h, by omega, h2⟩
theorem lpM_tileHeldI {G : vG} {X : vX} {Q : State → Prop} {w : RW} {x y t : Int} (hx : 0 ≤ x ∧ x < 8 ∧ 0 ≤ y ∧ y < 8) (ht : 0 ≤ t ∧ t < w 77 10) (hm : mOK w) (F : FX G X cM_tileHeld yM_tileHeld.cls 6 0) (K : ∀ f k, f = bz (hdM w (8 * y + x) t ∨ hd1 w (8 * y + x) t (w 86 t)) → V G X 6 Q 71 [some (.inr 77), some (.inl x), some (.inl y), some (.inl f), some (.inl t), some (.inl k)] [] w) : ∀ (m : Nat) (k f : Int), 0 ≤ k → k ≤ w 86 t → w 86 t - k < m → f = bz (hdM w (8 * y + x) t ∨ hd1 w (8 * y + x) t k) → V G X 6 Q 17 [some (.inr 77), some (.inl x), some (.inl y), some (.inl f), some (.inl t), some (.inl k)] [] w := by
  have k3 := hm.2.2.1
  have k5 := hm.2.2.2.2.1 t ht.1 (by omega)
  intro m
  induction m with
  | zero => intro k f h1 h2 h3; omega
  | succ m ih =>
    intro k f h1 h2 h3 hf
    have hf01 : f = 0 ∨ f = 1 := by rw [hf]; exact bz_01 _
    refine V_iload F dM_tileHeld_17 rfl ?_
    refine V_aload_n (i := 0) F dM_tileHeld_19 rfl rfl ?_
    refine V_getr (ci := 7) (C := R_M) (T := T_M) (N := 32) F dM_tileHeld_20 (by first | rfl | assumption) rfl (j := 12) (by decide) rfl lfM_35 ?_
    refine V_iload F dM_tileHeld_23 rfl ?_
    first
      | refine V_sald F dM_tileHeld_25 (by decide) (by omega) (stt_in _ _) ?_
      | refine V_iald F dM_tileHeld_25 (by first | rfl | assumption) rfl (by omega) ?_
    refine V_icmp_ge F 71 dM_tileHeld_26 (by decide) (fun h26 => ?_) (fun h26 => ?_)
    · exact K f k (by rw [show w 86 t = k by omega]; exact hf)
    · refine V_iload_n (i := 3) F dM_tileHeld_29 rfl rfl ?_
      refine V_if_ne F 59 dM_tileHeld_30 (by decide) (fun h30 => ?_) (fun h30 => ?_)
      · refine V_iconst F dM_tileHeld_59 (by decide) ?_
        refine V_goto F 64 dM_tileHeld_60 (by decide) ?_
        refine V_istore_n (i := 3) F dM_tileHeld_64 rfl (by decide) (by simp only [List.set_cons_zero, List.set_cons_succ]; exact rfl) ?_
        refine V_iinc F dM_tileHeld_65 (by decide) rfl (by omega) (by simp only [List.set_cons_zero, List.set_cons_succ]; exact rfl) ?_
        refine V_goto F 17 dM_tileHeld_68 (by decide) ?_
        first
        | exact ih (k + 1) _ (by omega) (by omega) (by omega) (bz_t (Or.imp_right (fun q => (hd1_s h1).mpr (Or.inl q)) ((bz_ne0 (P := hdM w (8 * y + x) t ∨ hd1 w (8 * y + x) t k)).mp (by rw [← hf]; exact h30)))).symm
        | exact ih (k + 1) _ (by omega) (by omega) (by omega) (bz_t (Or.inr ((hd1_s h1).mpr (Or.inr (by omega))))).symm
        | exact ih (k + 1) _ (by omega) (by omega) (by omega) (bz_f (fun q => (bz_eq0 (P := hdM w (8 * y + x) t ∨ hd1 w (8 * y + x) t k)).mp (by rw [← hf]; exact h30) (Or.imp_right (fun z => ((hd1_s h1).mp z).elim id (fun z => absurd z (by omega))) q))).symm
      · have k6 := hm.2.2.2.2.2.1 (300 * t + k) (by omega) (by omega)
        refine V_aload_n (i := 0) F dM_tileHeld_33 rfl rfl ?_
        refine V_getr (ci := 7) (C := R_M) (T := T_M) (N := 32) F dM_tileHeld_34 (by first | rfl | assumption) rfl (j := 11) (by decide) rfl lfM_32 ?_
        refine V_sipush F dM_tileHeld_37 (by decide) ?_
        refine V_iload F dM_tileHeld_40 rfl ?_
        refine V_imul F dM_tileHeld_42 (by omega) ?_
        refine V_iload F dM_tileHeld_43 rfl ?_
        refine V_iadd F dM_tileHeld_45 (by omega) ?_
        first
          | refine V_sald F dM_tileHeld_46 (by decide) (by omega) (stt_in _ _) ?_
          | refine V_iald F dM_tileHeld_46 (by first | rfl | assumption) rfl (by omega) ?_
        refine V_bipush F dM_tileHeld_47 (by decide) ?_
        refine V_idiv F dM_tileHeld_49 (by omega) ?_
        refine V_bipush F dM_tileHeld_50 (by decide) ?_
        refine V_iload_n (i := 2) F dM_tileHeld_52 rfl rfl ?_
        refine V_imul F dM_tileHeld_53 (by omega) ?_
        refine V_iload_n (i := 1) F dM_tileHeld_54 rfl rfl ?_
        refine V_iadd F dM_tileHeld_55 (by omega) ?_
        refine V_icmp_ne F 63 dM_tileHeld_56 (by decide) (fun h56 => ?_) (fun h56 => ?_)
        · refine V_iconst F dM_tileHeld_63 (by decide) ?_
          refine V_istore_n (i := 3) F dM_tileHeld_64 rfl (by decide) (by simp only [List.set_cons_zero, List.set_cons_succ]; exact rfl) ?_
          refine V_iinc F dM_tileHeld_65 (by decide) rfl (by omega) (by simp only [List.set_cons_zero, List.set_cons_succ]; exact rfl) ?_
          refine V_goto F 17 dM_tileHeld_68 (by decide) ?_
          first
          | exact ih (k + 1) _ (by omega) (by omega) (by omega) (bz_t (Or.imp_right (fun q => (hd1_s h1).mpr (Or.inl q)) ((bz_ne0 (P := hdM w (8 * y + x) t ∨ hd1 w (8 * y + x) t k)).mp (by rw [← hf]; exact h30)))).symm
          | exact ih (k + 1) _ (by omega) (by omega) (by omega) (bz_t (Or.inr ((hd1_s h1).mpr (Or.inr (by omega))))).symm
          | exact ih (k + 1) _ (by omega) (by omega) (by omega) (bz_f (fun q => (bz_eq0 (P := hdM w (8 * y + x) t ∨ hd1 w (8 * y + x) t k)).mp (by rw [← hf]; exact h30) (Or.imp_right (fun z => ((hd1_s h1).mp z).elim id (fun z => absurd z (by omega))) q))).symm
        · refine V_iconst F dM_tileHeld_59 (by decide) ?_
          refine V_goto F 64 dM_tileHeld_60 (by decide) ?_
          refine V_istore_n (i := 3) F dM_tileHeld_64 rfl (by decide) (by simp only [List.set_cons_zero, List.set_cons_succ]; exact rfl) ?_
          refine V_iinc F dM_tileHeld_65 (by decide) rfl (by omega) (by simp only [List.set_cons_zero, List.set_cons_succ]; exact rfl) ?_
          refine V_goto F 17 dM_tileHeld_68 (by decide) ?_
          first
          | exact ih (k + 1) _ (by omega) (by omega) (by omega) (bz_t (Or.imp_right (fun q => (hd1_s h1).mpr (Or.inl q)) ((bz_ne0 (P := hdM w (8 * y + x) t ∨ hd1 w (8 * y + x) t k)).mp (by rw [← hf]; exact h30)))).symm
          | exact ih (k + 1) _ (by omega) (by omega) (by omega) (bz_t (Or.inr ((hd1_s h1).mpr (Or.inr (by omega))))).symm
          | exact ih (k + 1) _ (by omega) (by omega) (by omega) (bz_f (fun q => (bz_eq0 (P := hdM w (8 * y + x) t ∨ hd1 w (8 * y + x) t k)).mp (by rw [← hf]; exact h30) (Or.imp_right (fun z => ((hd1_s h1).mp z).elim id (fun z => absurd z (by omega))) q))).symm
theorem lpM_tileHeld {G : vG} {X : vX} {Q : State → Prop} {w : RW} {x y : Int} (hx : 0 ≤ x ∧ x < 8 ∧ 0 ≤ y ∧ y < 8) (hm : mOK w) (F : FX G X cM_tileHeld yM_tileHeld.cls 6 0) (hR : RetZ G X cM_tileHeld 6 Q (fun r u => r = bz (hdM w (8 * y + x) (w 77 10)) ∧ w = u)) : ∀ (m : Nat) (i f : Int) (o : Option RV), 0 ≤ i → i ≤ w 77 10 → w 77 10 - i < m → f = bz (hdM w (8 * y + x) i) → V G X 6 Q 5 [some (.inr 77), some (.inl x), some (.inl y), some (.inl f), some (.inl i), o] [] w := by
  have k3 := hm.2.2.1
  intro m
  induction m with
  | zero => intro i f o h1 h2 h3; omega
  | succ m ih =>
    intro i f o h1 h2 h3 hf
    have hf01 : f = 0 ∨ f = 1 := by rw [hf]; exact bz_01 _
    refine V_iload F dM_tileHeld_5 rfl ?_
    refine V_aload_n (i := 0) F dM_tileHeld_7 rfl rfl ?_
    refine V_geti (ci := 7) (C := R_M) (T := T_M) (N := 32) F dM_tileHeld_8 (by first | rfl | assumption) rfl (j := 10) 10 rfl (by decide) rfl lfM_141 ?_
    refine V_icmp_ge F 77 dM_tileHeld_11 (by decide) (fun h11 => ?_) (fun h11 => ?_)
    · refine V_iload_n (i := 3) F dM_tileHeld_77 rfl rfl ?_
      exact hR _ _ _ _ dM_tileHeld_78 (by first | exact Or.inl rfl | exact Or.inr rfl | exact bz_01 _ | assumption) (by rw [show i = w 77 10 by omega] at hf; exact ⟨hf, rfl⟩)
    · have k5 := hm.2.2.2.2.1 i h1 (by omega)
      refine V_iconst F dM_tileHeld_14 (by decide) ?_
      refine V_istore F dM_tileHeld_15 (by decide) (by simp only [List.set_cons_zero, List.set_cons_succ]; exact rfl) ?_
      refine lpM_tileHeldI hx ⟨h1, by omega⟩ hm F (fun f2 k2 hf2 => ?_) ((w 86 i).toNat + 1) 0 f (by omega) (by omega) (by omega) (by rw [hf]; exact bz_c ⟨Or.inl, fun q => q.elim id (fun z => by obtain ⟨k, a, b, _⟩ := z; omega)⟩)
      refine V_iinc F dM_tileHeld_71 (by decide) rfl (by omega) (by simp only [List.set_cons_zero, List.set_cons_succ]; exact rfl) ?_
      refine V_goto F 5 dM_tileHeld_74 (by decide) ?_
      exact ih (i + 1) _ _ (by omega) (by omega) (by omega) (by rw [hf2]; exact bz_c (hdM_s h1).symm)
theorem ctM_tileHeld {G : vG} {l : Launch} {w : RW} {x y : Int} (hx : 0 ≤ x ∧ x < 8 ∧ 0 ≤ y ∧ y < 8) (hm : mOK w) : CTi G l yM_tileHeld cM_tileHeld 6 .boolean 0 [.inr 77, .inl x, .inl y] w (fun r u => r = bz (hdM w (8 * y + x) (w 77 10)) ∧ w = u) := by
  refine CTi.bool (by decide) (Nat.le_of_ble_eq_true rfl) ?_
  intro X Q F hX hR
  subst hX
  show V G X 6 Q 0 [some (.inr 77), some (.inl x), some (.inl y), none, none, none] [] w
  refine V_iconst F dM_tileHeld_0 (by decide) ?_
  refine V_istore_n (i := 3) F dM_tileHeld_1 rfl (by decide) (by simp only [List.set_cons_zero, List.set_cons_succ]; exact rfl) ?_
  refine V_iconst F dM_tileHeld_2 (by decide) ?_
  refine V_istore F dM_tileHeld_3 (by decide) (by simp only [List.set_cons_zero, List.set_cons_succ]; exact rfl) ?_
  exact lpM_tileHeld hx hm F hR 7 0 0 none (by omega) (by have := hm.2.2.1; omega) (by have := hm.2.2.1; omega) (bz_f (fun q => by obtain ⟨t, t1, t2, _⟩ := q; omega)).symm

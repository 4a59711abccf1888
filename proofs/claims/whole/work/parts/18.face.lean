theorem dX_pieces_0 : decode cX_pieces 0 = .ok (.aload_n 0, 1) := by decide +kernel
theorem dX_pieces_1 : decode cX_pieces 1 = .ok (.getfield 41, 3) := by decide +kernel
theorem dX_pieces_4 : decode cX_pieces 4 = .ok (.getfield 48, 3) := by decide +kernel
theorem dX_pieces_7 : decode cX_pieces 7 = .ok (.iload_n 1, 1) := by decide +kernel
theorem dX_pieces_8 : decode cX_pieces 8 = .ok (.iload_n 2, 1) := by decide +kernel
theorem dX_pieces_9 : decode cX_pieces 9 = .ok (.invokevirtual 52, 3) := by decide +kernel
theorem dX_pieces_12 : decode cX_pieces 12 = .ok (.ifCond .eq 22, 3) := by decide +kernel
theorem dX_pieces_15 : decode cX_pieces 15 = .ok (.aload_n 0, 1) := by decide +kernel
theorem dX_pieces_16 : decode cX_pieces 16 = .ok (.getfield 41, 3) := by decide +kernel
theorem dX_pieces_19 : decode cX_pieces 19 = .ok (.getfield 48, 3) := by decide +kernel
theorem dX_pieces_22 : decode cX_pieces 22 = .ok (.getfield 77, 3) := by decide +kernel
theorem dX_pieces_25 : decode cX_pieces 25 = .ok (.iload_n 1, 1) := by decide +kernel
theorem dX_pieces_26 : decode cX_pieces 26 = .ok (.iload_n 2, 1) := by decide +kernel
theorem dX_pieces_27 : decode cX_pieces 27 = .ok (.invokestatic 58, 3) := by decide +kernel
theorem dX_pieces_30 : decode cX_pieces 30 = .ok (.iaload, 1) := by decide +kernel
theorem dX_pieces_31 : decode cX_pieces 31 = .ok (.goto 4, 3) := by decide +kernel
theorem dX_pieces_34 : decode cX_pieces 34 = .ok (.iconst (-1), 1) := by decide +kernel
theorem dX_pieces_35 : decode cX_pieces 35 = .ok (.ireturn, 1) := by decide +kernel
theorem dX_holder_0 : decode cX_holder 0 = .ok (.aload_n 0, 1) := by decide +kernel
theorem dX_holder_1 : decode cX_holder 1 = .ok (.getfield 41, 3) := by decide +kernel
theorem dX_holder_4 : decode cX_holder 4 = .ok (.getfield 48, 3) := by decide +kernel
theorem dX_holder_7 : decode cX_holder 7 = .ok (.iload_n 1, 1) := by decide +kernel
theorem dX_holder_8 : decode cX_holder 8 = .ok (.iload_n 2, 1) := by decide +kernel
theorem dX_holder_9 : decode cX_holder 9 = .ok (.iload_n 3, 1) := by decide +kernel
theorem dX_holder_10 : decode cX_holder 10 = .ok (.invokevirtual 86, 3) := by decide +kernel
theorem dX_holder_13 : decode cX_holder 13 = .ok (.ifCond .ne 5, 3) := by decide +kernel
theorem dX_holder_16 : decode cX_holder 16 = .ok (.iconst (-1), 1) := by decide +kernel
theorem dX_holder_17 : decode cX_holder 17 = .ok (.ireturn, 1) := by decide +kernel
theorem dX_holder_18 : decode cX_holder 18 = .ok (.aload_n 0, 1) := by decide +kernel
theorem dX_holder_19 : decode cX_holder 19 = .ok (.getfield 41, 3) := by decide +kernel
theorem dX_holder_22 : decode cX_holder 22 = .ok (.getfield 48, 3) := by decide +kernel
theorem dX_holder_25 : decode cX_holder 25 = .ok (.getfield 190, 3) := by decide +kernel
theorem dX_holder_28 : decode cX_holder 28 = .ok (.iload_n 1, 1) := by decide +kernel
theorem dX_holder_29 : decode cX_holder 29 = .ok (.iload_n 2, 1) := by decide +kernel
theorem dX_holder_30 : decode cX_holder 30 = .ok (.invokestatic 58, 3) := by decide +kernel
theorem dX_holder_33 : decode cX_holder 33 = .ok (.iload_n 3, 1) := by decide +kernel
theorem dX_holder_34 : decode cX_holder 34 = .ok (.invokestatic 63, 3) := by decide +kernel
theorem dX_holder_37 : decode cX_holder 37 = .ok (.iaload, 1) := by decide +kernel
theorem dX_holder_38 : decode cX_holder 38 = .ok (.ireturn, 1) := by decide +kernel
theorem dX_signals_0 : decode cX_signals 0 = .ok (.aload_n 0, 1) := by decide +kernel
theorem dX_signals_1 : decode cX_signals 1 = .ok (.getfield 41, 3) := by decide +kernel
theorem dX_signals_4 : decode cX_signals 4 = .ok (.getfield 48, 3) := by decide +kernel
theorem dX_signals_7 : decode cX_signals 7 = .ok (.iload_n 1, 1) := by decide +kernel
theorem dX_signals_8 : decode cX_signals 8 = .ok (.iload_n 2, 1) := by decide +kernel
theorem dX_signals_9 : decode cX_signals 9 = .ok (.iload_n 3, 1) := by decide +kernel
theorem dX_signals_10 : decode cX_signals 10 = .ok (.invokevirtual 86, 3) := by decide +kernel
theorem dX_signals_13 : decode cX_signals 13 = .ok (.ifCond .ne 5, 3) := by decide +kernel
theorem dX_signals_16 : decode cX_signals 16 = .ok (.iconst (-1), 1) := by decide +kernel
theorem dX_signals_17 : decode cX_signals 17 = .ok (.ireturn, 1) := by decide +kernel
theorem dX_signals_18 : decode cX_signals 18 = .ok (.aload_n 0, 1) := by decide +kernel
theorem dX_signals_19 : decode cX_signals 19 = .ok (.getfield 41, 3) := by decide +kernel
theorem dX_signals_22 : decode cX_signals 22 = .ok (.getfield 48, 3) := by decide +kernel
theorem dX_signals_25 : decode cX_signals 25 = .ok (.getfield 80, 3) := by decide +kernel
theorem dX_signals_28 : decode cX_signals 28 = .ok (.iload_n 1, 1) := by decide +kernel
theorem dX_signals_29 : decode cX_signals 29 = .ok (.iload_n 2, 1) := by decide +kernel
theorem dX_signals_30 : decode cX_signals 30 = .ok (.invokestatic 58, 3) := by decide +kernel
theorem dX_signals_33 : decode cX_signals 33 = .ok (.iload_n 3, 1) := by decide +kernel
theorem dX_signals_34 : decode cX_signals 34 = .ok (.invokestatic 63, 3) := by decide +kernel
theorem dX_signals_37 : decode cX_signals 37 = .ok (.iaload, 1) := by decide +kernel
theorem dX_signals_38 : decode cX_signals 38 = .ok (.istore 4, 2) := by decide +kernel
theorem dX_signals_40 : decode cX_signals 40 = .ok (.iload 4, 2) := by decide +kernel
theorem dX_signals_42 : decode cX_signals 42 = .ok (.getstatic 184, 3) := by decide +kernel
theorem dX_signals_45 : decode cX_signals 45 = .ok (.iload_n 3, 1) := by decide +kernel
theorem dX_signals_46 : decode cX_signals 46 = .ok (.iaload, 1) := by decide +kernel
theorem dX_signals_47 : decode cX_signals 47 = .ok (.ishr, 1) := by decide +kernel
theorem dX_signals_48 : decode cX_signals 48 = .ok (.iconst 1, 1) := by decide +kernel
theorem dX_signals_49 : decode cX_signals 49 = .ok (.iand, 1) := by decide +kernel
theorem dX_signals_50 : decode cX_signals 50 = .ok (.istore 5, 2) := by decide +kernel
theorem dX_signals_52 : decode cX_signals 52 = .ok (.iload 4, 2) := by decide +kernel
theorem dX_signals_54 : decode cX_signals 54 = .ok (.getstatic 187, 3) := by decide +kernel
theorem dX_signals_57 : decode cX_signals 57 = .ok (.iload_n 3, 1) := by decide +kernel
theorem dX_signals_58 : decode cX_signals 58 = .ok (.iaload, 1) := by decide +kernel
theorem dX_signals_59 : decode cX_signals 59 = .ok (.ishr, 1) := by decide +kernel
theorem dX_signals_60 : decode cX_signals 60 = .ok (.iconst 1, 1) := by decide +kernel
theorem dX_signals_61 : decode cX_signals 61 = .ok (.iand, 1) := by decide +kernel
theorem dX_signals_62 : decode cX_signals 62 = .ok (.istore 6, 2) := by decide +kernel
theorem dX_signals_64 : decode cX_signals 64 = .ok (.iload 5, 2) := by decide +kernel
theorem dX_signals_66 : decode cX_signals 66 = .ok (.iconst 2, 1) := by decide +kernel
theorem dX_signals_67 : decode cX_signals 67 = .ok (.iload 6, 2) := by decide +kernel
theorem dX_signals_69 : decode cX_signals 69 = .ok (.imul, 1) := by decide +kernel
theorem dX_signals_70 : decode cX_signals 70 = .ok (.iadd, 1) := by decide +kernel
theorem dX_signals_71 : decode cX_signals 71 = .ok (.ireturn, 1) := by decide +kernel
theorem dX_held_0 : decode cX_held 0 = .ok (.aload_n 0, 1) := by decide +kernel
theorem dX_held_1 : decode cX_held 1 = .ok (.getfield 41, 3) := by decide +kernel
theorem dX_held_4 : decode cX_held 4 = .ok (.iload_n 1, 1) := by decide +kernel
theorem dX_held_5 : decode cX_held 5 = .ok (.invokevirtual 143, 3) := by decide +kernel
theorem dX_held_8 : decode cX_held 8 = .ok (.ifCond .eq 23, 3) := by decide +kernel
theorem dX_held_11 : decode cX_held 11 = .ok (.iload_n 2, 1) := by decide +kernel
theorem dX_held_12 : decode cX_held 12 = .ok (.ifCond .lt 19, 3) := by decide +kernel
theorem dX_held_15 : decode cX_held 15 = .ok (.iload_n 2, 1) := by decide +kernel
theorem dX_held_16 : decode cX_held 16 = .ok (.aload_n 0, 1) := by decide +kernel
theorem dX_held_17 : decode cX_held 17 = .ok (.getfield 41, 3) := by decide +kernel
theorem dX_held_20 : decode cX_held 20 = .ok (.getfield 129, 3) := by decide +kernel
theorem dX_held_23 : decode cX_held 23 = .ok (.iload_n 1, 1) := by decide +kernel
theorem dX_held_24 : decode cX_held 24 = .ok (.aaload, 1) := by decide +kernel
theorem dX_held_25 : decode cX_held 25 = .ok (.getfield 165, 3) := by decide +kernel
theorem dX_held_28 : decode cX_held 28 = .ok (.if_icmp .lt 5, 3) := by decide +kernel
theorem dX_held_31 : decode cX_held 31 = .ok (.iconst (-1), 1) := by decide +kernel
theorem dX_held_32 : decode cX_held 32 = .ok (.ireturn, 1) := by decide +kernel
theorem dX_held_33 : decode cX_held 33 = .ok (.aload_n 0, 1) := by decide +kernel
theorem dX_held_34 : decode cX_held 34 = .ok (.getfield 41, 3) := by decide +kernel
theorem dX_held_37 : decode cX_held 37 = .ok (.getfield 129, 3) := by decide +kernel
theorem dX_held_40 : decode cX_held 40 = .ok (.iload_n 1, 1) := by decide +kernel
theorem dX_held_41 : decode cX_held 41 = .ok (.aaload, 1) := by decide +kernel
theorem dX_held_42 : decode cX_held 42 = .ok (.getfield 166, 3) := by decide +kernel
theorem dX_held_45 : decode cX_held 45 = .ok (.iload_n 2, 1) := by decide +kernel
theorem dX_held_46 : decode cX_held 46 = .ok (.iaload, 1) := by decide +kernel
theorem dX_held_47 : decode cX_held 47 = .ok (.ireturn, 1) := by decide +kernel
theorem dX_motion_0 : decode cX_motion 0 = .ok (.aload_n 0, 1) := by decide +kernel
theorem dX_motion_1 : decode cX_motion 1 = .ok (.getfield 41, 3) := by decide +kernel
theorem dX_motion_4 : decode cX_motion 4 = .ok (.iload_n 1, 1) := by decide +kernel
theorem dX_motion_5 : decode cX_motion 5 = .ok (.invokevirtual 143, 3) := by decide +kernel
theorem dX_motion_8 : decode cX_motion 8 = .ok (.ifCond .ne 5, 3) := by decide +kernel
theorem dX_motion_11 : decode cX_motion 11 = .ok (.iconst (-1), 1) := by decide +kernel
theorem dX_motion_12 : decode cX_motion 12 = .ok (.ireturn, 1) := by decide +kernel
theorem dX_motion_13 : decode cX_motion 13 = .ok (.aload_n 0, 1) := by decide +kernel
theorem dX_motion_14 : decode cX_motion 14 = .ok (.getfield 41, 3) := by decide +kernel
theorem dX_motion_17 : decode cX_motion 17 = .ok (.getfield 129, 3) := by decide +kernel
theorem dX_motion_20 : decode cX_motion 20 = .ok (.iload_n 1, 1) := by decide +kernel
theorem dX_motion_21 : decode cX_motion 21 = .ok (.aaload, 1) := by decide +kernel
theorem dX_motion_22 : decode cX_motion 22 = .ok (.astore_n 2, 1) := by decide +kernel
theorem dX_motion_23 : decode cX_motion 23 = .ok (.aload_n 2, 1) := by decide +kernel
theorem dX_motion_24 : decode cX_motion 24 = .ok (.invokevirtual 161, 3) := by decide +kernel
theorem dX_motion_27 : decode cX_motion 27 = .ok (.sipush 1000, 3) := by decide +kernel
theorem dX_motion_30 : decode cX_motion 30 = .ok (.aload_n 2, 1) := by decide +kernel
theorem dX_motion_31 : decode cX_motion 31 = .ok (.getfield 155, 3) := by decide +kernel
theorem dX_motion_34 : decode cX_motion 34 = .ok (.imul, 1) := by decide +kernel
theorem dX_motion_35 : decode cX_motion 35 = .ok (.iadd, 1) := by decide +kernel
theorem dX_motion_36 : decode cX_motion 36 = .ok (.sipush 10000, 3) := by decide +kernel
theorem dX_motion_39 : decode cX_motion 39 = .ok (.aload_n 2, 1) := by decide +kernel
theorem dX_motion_40 : decode cX_motion 40 = .ok (.getfield 158, 3) := by decide +kernel
theorem dX_motion_43 : decode cX_motion 43 = .ok (.imul, 1) := by decide +kernel
theorem dX_motion_44 : decode cX_motion 44 = .ok (.iadd, 1) := by decide +kernel
theorem dX_motion_45 : decode cX_motion 45 = .ok (.ireturn, 1) := by decide +kernel
theorem dX_load_0 : decode cX_load 0 = .ok (.aload_n 0, 1) := by decide +kernel
theorem dX_load_1 : decode cX_load 1 = .ok (.getfield 41, 3) := by decide +kernel
theorem dX_load_4 : decode cX_load 4 = .ok (.iload_n 1, 1) := by decide +kernel
theorem dX_load_5 : decode cX_load 5 = .ok (.invokevirtual 143, 3) := by decide +kernel
theorem dX_load_8 : decode cX_load 8 = .ok (.ifCond .eq 18, 3) := by decide +kernel
theorem dX_load_11 : decode cX_load 11 = .ok (.aload_n 0, 1) := by decide +kernel
theorem dX_load_12 : decode cX_load 12 = .ok (.getfield 41, 3) := by decide +kernel
theorem dX_load_15 : decode cX_load 15 = .ok (.getfield 129, 3) := by decide +kernel
theorem dX_load_18 : decode cX_load 18 = .ok (.iload_n 1, 1) := by decide +kernel
theorem dX_load_19 : decode cX_load 19 = .ok (.aaload, 1) := by decide +kernel
theorem dX_load_20 : decode cX_load 20 = .ok (.getfield 203, 3) := by decide +kernel
theorem dX_load_23 : decode cX_load 23 = .ok (.goto 4, 3) := by decide +kernel
theorem dX_load_26 : decode cX_load 26 = .ok (.iconst (-1), 1) := by decide +kernel
theorem dX_load_27 : decode cX_load 27 = .ok (.ireturn, 1) := by decide +kernel
theorem dX_target_0 : decode cX_target 0 = .ok (.aload_n 0, 1) := by decide +kernel
theorem dX_target_1 : decode cX_target 1 = .ok (.getfield 41, 3) := by decide +kernel
theorem dX_target_4 : decode cX_target 4 = .ok (.iload_n 1, 1) := by decide +kernel
theorem dX_target_5 : decode cX_target 5 = .ok (.invokevirtual 143, 3) := by decide +kernel
theorem dX_target_8 : decode cX_target 8 = .ok (.ifCond .eq 18, 3) := by decide +kernel
theorem dX_target_11 : decode cX_target 11 = .ok (.aload_n 0, 1) := by decide +kernel
theorem dX_target_12 : decode cX_target 12 = .ok (.getfield 41, 3) := by decide +kernel
theorem dX_target_15 : decode cX_target 15 = .ok (.getfield 129, 3) := by decide +kernel
theorem dX_target_18 : decode cX_target 18 = .ok (.iload_n 1, 1) := by decide +kernel
theorem dX_target_19 : decode cX_target 19 = .ok (.aaload, 1) := by decide +kernel
theorem dX_target_20 : decode cX_target 20 = .ok (.invokevirtual 206, 3) := by decide +kernel
theorem dX_target_23 : decode cX_target 23 = .ok (.goto 4, 3) := by decide +kernel
theorem dX_target_26 : decode cX_target 26 = .ok (.iconst (-1), 1) := by decide +kernel
theorem dX_target_27 : decode cX_target 27 = .ok (.ireturn, 1) := by decide +kernel
theorem dX_waiting_0 : decode cX_waiting 0 = .ok (.aload_n 0, 1) := by decide +kernel
theorem dX_waiting_1 : decode cX_waiting 1 = .ok (.getfield 41, 3) := by decide +kernel
theorem dX_waiting_4 : decode cX_waiting 4 = .ok (.iload_n 1, 1) := by decide +kernel
theorem dX_waiting_5 : decode cX_waiting 5 = .ok (.invokevirtual 146, 3) := by decide +kernel
theorem dX_waiting_8 : decode cX_waiting 8 = .ok (.ifCond .eq 18, 3) := by decide +kernel
theorem dX_waiting_11 : decode cX_waiting 11 = .ok (.aload_n 0, 1) := by decide +kernel
theorem dX_waiting_12 : decode cX_waiting 12 = .ok (.getfield 41, 3) := by decide +kernel
theorem dX_waiting_15 : decode cX_waiting 15 = .ok (.getfield 106, 3) := by decide +kernel
theorem dX_waiting_18 : decode cX_waiting 18 = .ok (.iload_n 1, 1) := by decide +kernel
theorem dX_waiting_19 : decode cX_waiting 19 = .ok (.aaload, 1) := by decide +kernel
theorem dX_waiting_20 : decode cX_waiting 20 = .ok (.getfield 209, 3) := by decide +kernel
theorem dX_waiting_23 : decode cX_waiting 23 = .ok (.goto 4, 3) := by decide +kernel
theorem dX_waiting_26 : decode cX_waiting 26 = .ok (.iconst (-1), 1) := by decide +kernel
theorem dX_waiting_27 : decode cX_waiting 27 = .ok (.ireturn, 1) := by decide +kernel
theorem dX_produced_0 : decode cX_produced 0 = .ok (.aload_n 0, 1) := by decide +kernel
theorem dX_produced_1 : decode cX_produced 1 = .ok (.getfield 41, 3) := by decide +kernel
theorem dX_produced_4 : decode cX_produced 4 = .ok (.getfield 210, 3) := by decide +kernel
theorem dX_produced_7 : decode cX_produced 7 = .ok (.ireturn, 1) := by decide +kernel
theorem dX_delivered_0 : decode cX_delivered 0 = .ok (.aload_n 0, 1) := by decide +kernel
theorem dX_delivered_1 : decode cX_delivered 1 = .ok (.getfield 41, 3) := by decide +kernel
theorem dX_delivered_4 : decode cX_delivered 4 = .ok (.getfield 213, 3) := by decide +kernel
theorem dX_delivered_7 : decode cX_delivered 7 = .ok (.ireturn, 1) := by decide +kernel
theorem dX_clock_0 : decode cX_clock 0 = .ok (.aload_n 0, 1) := by decide +kernel
theorem dX_clock_1 : decode cX_clock 1 = .ok (.getfield 41, 3) := by decide +kernel
theorem dX_clock_4 : decode cX_clock 4 = .ok (.getfield 181, 3) := by decide +kernel
theorem dX_clock_7 : decode cX_clock 7 = .ok (.ireturn, 1) := by decide +kernel
theorem dX_track_0 : decode cX_track 0 = .ok (.aload_n 0, 1) := by decide +kernel
theorem dX_track_1 : decode cX_track 1 = .ok (.getfield 41, 3) := by decide +kernel
theorem dX_track_4 : decode cX_track 4 = .ok (.getfield 48, 3) := by decide +kernel
theorem dX_track_7 : decode cX_track 7 = .ok (.iload_n 1, 1) := by decide +kernel
theorem dX_track_8 : decode cX_track 8 = .ok (.iload_n 2, 1) := by decide +kernel
theorem dX_track_9 : decode cX_track 9 = .ok (.invokevirtual 52, 3) := by decide +kernel
theorem dX_track_12 : decode cX_track 12 = .ok (.ifCond .eq 13, 3) := by decide +kernel
theorem dX_track_15 : decode cX_track 15 = .ok (.iload_n 3, 1) := by decide +kernel
theorem dX_track_16 : decode cX_track 16 = .ok (.ifCond .lt 9, 3) := by decide +kernel
theorem dX_track_19 : decode cX_track 19 = .ok (.iload_n 3, 1) := by decide +kernel
theorem dX_track_20 : decode cX_track 20 = .ok (.bipush 6, 2) := by decide +kernel
theorem dX_track_22 : decode cX_track 22 = .ok (.if_icmp .lt 5, 3) := by decide +kernel
theorem dX_track_25 : decode cX_track 25 = .ok (.iconst 0, 1) := by decide +kernel
theorem dX_track_26 : decode cX_track 26 = .ok (.ireturn, 1) := by decide +kernel
theorem dX_track_27 : decode cX_track 27 = .ok (.iload_n 1, 1) := by decide +kernel
theorem dX_track_28 : decode cX_track 28 = .ok (.iload_n 2, 1) := by decide +kernel
theorem dX_track_29 : decode cX_track 29 = .ok (.invokestatic 58, 3) := by decide +kernel
theorem dX_track_32 : decode cX_track 32 = .ok (.istore 5, 2) := by decide +kernel
theorem dX_track_34 : decode cX_track 34 = .ok (.iload 5, 2) := by decide +kernel
theorem dX_track_36 : decode cX_track 36 = .ok (.iload_n 3, 1) := by decide +kernel
theorem dX_track_37 : decode cX_track 37 = .ok (.invokestatic 63, 3) := by decide +kernel
theorem dX_track_40 : decode cX_track 40 = .ok (.istore 6, 2) := by decide +kernel
theorem dX_track_42 : decode cX_track 42 = .ok (.aload_n 0, 1) := by decide +kernel
theorem dX_track_43 : decode cX_track 43 = .ok (.getfield 41, 3) := by decide +kernel
theorem dX_track_46 : decode cX_track 46 = .ok (.getfield 48, 3) := by decide +kernel
theorem dX_track_49 : decode cX_track 49 = .ok (.iload 5, 2) := by decide +kernel
theorem dX_track_51 : decode cX_track 51 = .ok (.invokevirtual 66, 3) := by decide +kernel
theorem dX_track_54 : decode cX_track 54 = .ok (.ifCond .ne 21, 3) := by decide +kernel
theorem dX_track_57 : decode cX_track 57 = .ok (.aload_n 0, 1) := by decide +kernel
theorem dX_track_58 : decode cX_track 58 = .ok (.getfield 41, 3) := by decide +kernel
theorem dX_track_61 : decode cX_track 61 = .ok (.getfield 48, 3) := by decide +kernel
theorem dX_track_64 : decode cX_track 64 = .ok (.iload 5, 2) := by decide +kernel
theorem dX_track_66 : decode cX_track 66 = .ok (.iload_n 3, 1) := by decide +kernel
theorem dX_track_67 : decode cX_track 67 = .ok (.invokevirtual 70, 3) := by decide +kernel
theorem dX_track_70 : decode cX_track 70 = .ok (.iload 4, 2) := by decide +kernel
theorem dX_track_72 : decode cX_track 72 = .ok (.if_icmp .ne 5, 3) := by decide +kernel
theorem dX_track_75 : decode cX_track 75 = .ok (.iconst 0, 1) := by decide +kernel
theorem dX_track_76 : decode cX_track 76 = .ok (.ireturn, 1) := by decide +kernel
theorem dX_track_77 : decode cX_track 77 = .ok (.iload 4, 2) := by decide +kernel
theorem dX_track_79 : decode cX_track 79 = .ok (.ifCond .ne 18, 3) := by decide +kernel
theorem dX_track_82 : decode cX_track 82 = .ok (.aload_n 0, 1) := by decide +kernel
theorem dX_track_83 : decode cX_track 83 = .ok (.getfield 41, 3) := by decide +kernel
theorem dX_track_86 : decode cX_track 86 = .ok (.iload 6, 2) := by decide +kernel
theorem dX_track_88 : decode cX_track 88 = .ok (.invokevirtual 73, 3) := by decide +kernel
theorem dX_track_91 : decode cX_track 91 = .ok (.iconst (-1), 1) := by decide +kernel
theorem dX_track_92 : decode cX_track 92 = .ok (.if_icmp .eq 5, 3) := by decide +kernel
theorem dX_track_95 : decode cX_track 95 = .ok (.iconst 0, 1) := by decide +kernel
theorem dX_track_96 : decode cX_track 96 = .ok (.ireturn, 1) := by decide +kernel
theorem dX_track_97 : decode cX_track 97 = .ok (.aload_n 0, 1) := by decide +kernel
theorem dX_track_98 : decode cX_track 98 = .ok (.getfield 41, 3) := by decide +kernel
theorem dX_track_101 : decode cX_track 101 = .ok (.getfield 48, 3) := by decide +kernel
theorem dX_track_104 : decode cX_track 104 = .ok (.getfield 77, 3) := by decide +kernel
theorem dX_track_107 : decode cX_track 107 = .ok (.iload 5, 2) := by decide +kernel
theorem dX_track_109 : decode cX_track 109 = .ok (.dup2, 1) := by decide +kernel
theorem dX_track_110 : decode cX_track 110 = .ok (.iaload, 1) := by decide +kernel
theorem dX_track_111 : decode cX_track 111 = .ok (.iconst 1, 1) := by decide +kernel
theorem dX_track_112 : decode cX_track 112 = .ok (.iload_n 3, 1) := by decide +kernel
theorem dX_track_113 : decode cX_track 113 = .ok (.ishl, 1) := by decide +kernel
theorem dX_track_114 : decode cX_track 114 = .ok (.ixor, 1) := by decide +kernel
theorem dX_track_115 : decode cX_track 115 = .ok (.iastore, 1) := by decide +kernel
theorem dX_track_116 : decode cX_track 116 = .ok (.aload_n 0, 1) := by decide +kernel
theorem dX_track_117 : decode cX_track 117 = .ok (.getfield 41, 3) := by decide +kernel
theorem dX_track_120 : decode cX_track 120 = .ok (.getfield 48, 3) := by decide +kernel
theorem dX_track_123 : decode cX_track 123 = .ok (.getfield 80, 3) := by decide +kernel
theorem dX_track_126 : decode cX_track 126 = .ok (.iload 6, 2) := by decide +kernel
theorem dX_track_128 : decode cX_track 128 = .ok (.iconst 0, 1) := by decide +kernel
theorem dX_track_129 : decode cX_track 129 = .ok (.iastore, 1) := by decide +kernel
theorem dX_track_130 : decode cX_track 130 = .ok (.aload_n 0, 1) := by decide +kernel
theorem dX_track_131 : decode cX_track 131 = .ok (.getfield 12, 3) := by decide +kernel
theorem dX_track_134 : decode cX_track 134 = .ok (.invokevirtual 83, 3) := by decide +kernel
theorem dX_track_137 : decode cX_track 137 = .ok (.iconst 1, 1) := by decide +kernel
theorem dX_track_138 : decode cX_track 138 = .ok (.ireturn, 1) := by decide +kernel
theorem dX_signal_0 : decode cX_signal 0 = .ok (.aload_n 0, 1) := by decide +kernel
theorem dX_signal_1 : decode cX_signal 1 = .ok (.getfield 41, 3) := by decide +kernel
theorem dX_signal_4 : decode cX_signal 4 = .ok (.getfield 48, 3) := by decide +kernel
theorem dX_signal_7 : decode cX_signal 7 = .ok (.iload_n 1, 1) := by decide +kernel
theorem dX_signal_8 : decode cX_signal 8 = .ok (.iload_n 2, 1) := by decide +kernel
theorem dX_signal_9 : decode cX_signal 9 = .ok (.iload_n 3, 1) := by decide +kernel
theorem dX_signal_10 : decode cX_signal 10 = .ok (.invokevirtual 86, 3) := by decide +kernel
theorem dX_signal_13 : decode cX_signal 13 = .ok (.ifCond .eq 12, 3) := by decide +kernel
theorem dX_signal_16 : decode cX_signal 16 = .ok (.iload_n 3, 1) := by decide +kernel
theorem dX_signal_17 : decode cX_signal 17 = .ok (.iload 4, 2) := by decide +kernel
theorem dX_signal_19 : decode cX_signal 19 = .ok (.invokestatic 90, 3) := by decide +kernel
theorem dX_signal_22 : decode cX_signal 22 = .ok (.ifCond .ne 5, 3) := by decide +kernel
theorem dX_signal_25 : decode cX_signal 25 = .ok (.iconst 0, 1) := by decide +kernel
theorem dX_signal_26 : decode cX_signal 26 = .ok (.ireturn, 1) := by decide +kernel
theorem dX_signal_27 : decode cX_signal 27 = .ok (.iload_n 1, 1) := by decide +kernel
theorem dX_signal_28 : decode cX_signal 28 = .ok (.iload_n 2, 1) := by decide +kernel
theorem dX_signal_29 : decode cX_signal 29 = .ok (.invokestatic 58, 3) := by decide +kernel
theorem dX_signal_32 : decode cX_signal 32 = .ok (.istore 6, 2) := by decide +kernel
theorem dX_signal_34 : decode cX_signal 34 = .ok (.iload 6, 2) := by decide +kernel
theorem dX_signal_36 : decode cX_signal 36 = .ok (.iload_n 3, 1) := by decide +kernel
theorem dX_signal_37 : decode cX_signal 37 = .ok (.invokestatic 63, 3) := by decide +kernel
theorem dX_signal_40 : decode cX_signal 40 = .ok (.istore 7, 2) := by decide +kernel
theorem dX_signal_42 : decode cX_signal 42 = .ok (.aload_n 0, 1) := by decide +kernel
theorem dX_signal_43 : decode cX_signal 43 = .ok (.getfield 41, 3) := by decide +kernel
theorem dX_signal_46 : decode cX_signal 46 = .ok (.getfield 48, 3) := by decide +kernel
theorem dX_signal_49 : decode cX_signal 49 = .ok (.iload 6, 2) := by decide +kernel
theorem dX_signal_51 : decode cX_signal 51 = .ok (.invokevirtual 66, 3) := by decide +kernel
theorem dX_signal_54 : decode cX_signal 54 = .ok (.ifCond .ne 16, 3) := by decide +kernel
theorem dX_signal_57 : decode cX_signal 57 = .ok (.aload_n 0, 1) := by decide +kernel
theorem dX_signal_58 : decode cX_signal 58 = .ok (.getfield 41, 3) := by decide +kernel
theorem dX_signal_61 : decode cX_signal 61 = .ok (.iload 7, 2) := by decide +kernel
theorem dX_signal_63 : decode cX_signal 63 = .ok (.invokevirtual 73, 3) := by decide +kernel
theorem dX_signal_66 : decode cX_signal 66 = .ok (.iconst (-1), 1) := by decide +kernel
theorem dX_signal_67 : decode cX_signal 67 = .ok (.if_icmp .eq 5, 3) := by decide +kernel
theorem dX_signal_70 : decode cX_signal 70 = .ok (.iconst 0, 1) := by decide +kernel
theorem dX_signal_71 : decode cX_signal 71 = .ok (.ireturn, 1) := by decide +kernel
theorem dX_signal_72 : decode cX_signal 72 = .ok (.aload_n 0, 1) := by decide +kernel
theorem dX_signal_73 : decode cX_signal 73 = .ok (.getfield 41, 3) := by decide +kernel
theorem dX_signal_76 : decode cX_signal 76 = .ok (.getfield 48, 3) := by decide +kernel
theorem dX_signal_79 : decode cX_signal 79 = .ok (.iload 7, 2) := by decide +kernel
theorem dX_signal_81 : decode cX_signal 81 = .ok (.iload 4, 2) := by decide +kernel
theorem dX_signal_83 : decode cX_signal 83 = .ok (.invokestatic 93, 3) := by decide +kernel
theorem dX_signal_86 : decode cX_signal 86 = .ok (.invokevirtual 96, 3) := by decide +kernel
theorem dX_signal_89 : decode cX_signal 89 = .ok (.iload 5, 2) := by decide +kernel
theorem dX_signal_91 : decode cX_signal 91 = .ok (.if_icmp .ne 5, 3) := by decide +kernel
theorem dX_signal_94 : decode cX_signal 94 = .ok (.iconst 0, 1) := by decide +kernel
theorem dX_signal_95 : decode cX_signal 95 = .ok (.ireturn, 1) := by decide +kernel
theorem dX_signal_96 : decode cX_signal 96 = .ok (.aload_n 0, 1) := by decide +kernel
theorem dX_signal_97 : decode cX_signal 97 = .ok (.getfield 41, 3) := by decide +kernel
theorem dX_signal_100 : decode cX_signal 100 = .ok (.getfield 48, 3) := by decide +kernel
theorem dX_signal_103 : decode cX_signal 103 = .ok (.getfield 80, 3) := by decide +kernel
theorem dX_signal_106 : decode cX_signal 106 = .ok (.iload 7, 2) := by decide +kernel
theorem dX_signal_108 : decode cX_signal 108 = .ok (.dup2, 1) := by decide +kernel
theorem dX_signal_109 : decode cX_signal 109 = .ok (.iaload, 1) := by decide +kernel
theorem dX_signal_110 : decode cX_signal 110 = .ok (.iconst 1, 1) := by decide +kernel
theorem dX_signal_111 : decode cX_signal 111 = .ok (.iload 4, 2) := by decide +kernel
theorem dX_signal_113 : decode cX_signal 113 = .ok (.ishl, 1) := by decide +kernel
theorem dX_signal_114 : decode cX_signal 114 = .ok (.ixor, 1) := by decide +kernel
theorem dX_signal_115 : decode cX_signal 115 = .ok (.iastore, 1) := by decide +kernel
theorem dX_signal_116 : decode cX_signal 116 = .ok (.aload_n 0, 1) := by decide +kernel
theorem dX_signal_117 : decode cX_signal 117 = .ok (.getfield 12, 3) := by decide +kernel
theorem dX_signal_120 : decode cX_signal 120 = .ok (.invokevirtual 83, 3) := by decide +kernel
theorem dX_signal_123 : decode cX_signal 123 = .ok (.iconst 1, 1) := by decide +kernel
theorem dX_signal_124 : decode cX_signal 124 = .ok (.ireturn, 1) := by decide +kernel
theorem dX_station_0 : decode cX_station 0 = .ok (.iload 4, 2) := by decide +kernel
theorem dX_station_2 : decode cX_station 2 = .ok (.ifCond .lt 31, 3) := by decide +kernel
theorem dX_station_5 : decode cX_station 5 = .ok (.iload 4, 2) := by decide +kernel
theorem dX_station_7 : decode cX_station 7 = .ok (.bipush 50, 2) := by decide +kernel
theorem dX_station_9 : decode cX_station 9 = .ok (.if_icmp .gt 24, 3) := by decide +kernel
theorem dX_station_12 : decode cX_station 12 = .ok (.iload_n 3, 1) := by decide +kernel
theorem dX_station_13 : decode cX_station 13 = .ok (.iconst 1, 1) := by decide +kernel
theorem dX_station_14 : decode cX_station 14 = .ok (.if_icmp .gt 19, 3) := by decide +kernel
theorem dX_station_17 : decode cX_station 17 = .ok (.aload_n 0, 1) := by decide +kernel
theorem dX_station_18 : decode cX_station 18 = .ok (.getfield 41, 3) := by decide +kernel
theorem dX_station_21 : decode cX_station 21 = .ok (.getfield 48, 3) := by decide +kernel
theorem dX_station_24 : decode cX_station 24 = .ok (.iload_n 1, 1) := by decide +kernel
theorem dX_station_25 : decode cX_station 25 = .ok (.iload_n 2, 1) := by decide +kernel
theorem dX_station_26 : decode cX_station 26 = .ok (.iload_n 3, 1) := by decide +kernel
theorem dX_station_27 : decode cX_station 27 = .ok (.invokevirtual 86, 3) := by decide +kernel
theorem dX_station_30 : decode cX_station 30 = .ok (.ifCond .ne 5, 3) := by decide +kernel
theorem dX_station_33 : decode cX_station 33 = .ok (.iconst (-1), 1) := by decide +kernel
theorem dX_station_34 : decode cX_station 34 = .ok (.ireturn, 1) := by decide +kernel
theorem dX_station_35 : decode cX_station 35 = .ok (.iload_n 1, 1) := by decide +kernel
theorem dX_station_36 : decode cX_station 36 = .ok (.iload_n 2, 1) := by decide +kernel
theorem dX_station_37 : decode cX_station 37 = .ok (.invokestatic 58, 3) := by decide +kernel
theorem dX_station_40 : decode cX_station 40 = .ok (.istore 5, 2) := by decide +kernel
theorem dX_station_42 : decode cX_station 42 = .ok (.iload 5, 2) := by decide +kernel
theorem dX_station_44 : decode cX_station 44 = .ok (.iload_n 3, 1) := by decide +kernel
theorem dX_station_45 : decode cX_station 45 = .ok (.invokestatic 63, 3) := by decide +kernel
theorem dX_station_48 : decode cX_station 48 = .ok (.istore 6, 2) := by decide +kernel
theorem dX_station_50 : decode cX_station 50 = .ok (.aload_n 0, 1) := by decide +kernel
theorem dX_station_51 : decode cX_station 51 = .ok (.getfield 41, 3) := by decide +kernel
theorem dX_station_54 : decode cX_station 54 = .ok (.getfield 48, 3) := by decide +kernel
theorem dX_station_57 : decode cX_station 57 = .ok (.getfield 80, 3) := by decide +kernel
theorem dX_station_60 : decode cX_station 60 = .ok (.iload 6, 2) := by decide +kernel
theorem dX_station_62 : decode cX_station 62 = .ok (.iaload, 1) := by decide +kernel
theorem dX_station_63 : decode cX_station 63 = .ok (.ifCond .ne 30, 3) := by decide +kernel
theorem dX_station_66 : decode cX_station 66 = .ok (.aload_n 0, 1) := by decide +kernel
theorem dX_station_67 : decode cX_station 67 = .ok (.getfield 41, 3) := by decide +kernel
theorem dX_station_70 : decode cX_station 70 = .ok (.getfield 48, 3) := by decide +kernel
theorem dX_station_73 : decode cX_station 73 = .ok (.iload 5, 2) := by decide +kernel
theorem dX_station_75 : decode cX_station 75 = .ok (.invokevirtual 66, 3) := by decide +kernel
theorem dX_station_78 : decode cX_station 78 = .ok (.ifCond .ne 15, 3) := by decide +kernel
theorem dX_station_81 : decode cX_station 81 = .ok (.aload_n 0, 1) := by decide +kernel
theorem dX_station_82 : decode cX_station 82 = .ok (.getfield 41, 3) := by decide +kernel
theorem dX_station_85 : decode cX_station 85 = .ok (.iload 5, 2) := by decide +kernel
theorem dX_station_87 : decode cX_station 87 = .ok (.invokevirtual 99, 3) := by decide +kernel
theorem dX_station_90 : decode cX_station 90 = .ok (.ifCond .eq 5, 3) := by decide +kernel
theorem dX_station_93 : decode cX_station 93 = .ok (.iconst (-1), 1) := by decide +kernel
theorem dX_station_94 : decode cX_station 94 = .ok (.ireturn, 1) := by decide +kernel
theorem dX_station_95 : decode cX_station 95 = .ok (.aload_n 0, 1) := by decide +kernel
theorem dX_station_96 : decode cX_station 96 = .ok (.getfield 41, 3) := by decide +kernel
theorem dX_station_99 : decode cX_station 99 = .ok (.getfield 102, 3) := by decide +kernel
theorem dX_station_102 : decode cX_station 102 = .ok (.bipush 6, 2) := by decide +kernel
theorem dX_station_104 : decode cX_station 104 = .ok (.if_icmp .lt 6, 3) := by decide +kernel
theorem dX_station_107 : decode cX_station 107 = .ok (.bipush (-2), 2) := by decide +kernel
theorem dX_station_109 : decode cX_station 109 = .ok (.ireturn, 1) := by decide +kernel
theorem dX_station_110 : decode cX_station 110 = .ok (.aload_n 0, 1) := by decide +kernel
theorem dX_station_111 : decode cX_station 111 = .ok (.getfield 41, 3) := by decide +kernel
theorem dX_station_114 : decode cX_station 114 = .ok (.getfield 102, 3) := by decide +kernel
theorem dX_station_117 : decode cX_station 117 = .ok (.istore 7, 2) := by decide +kernel
theorem dX_station_119 : decode cX_station 119 = .ok (.aload_n 0, 1) := by decide +kernel
theorem dX_station_120 : decode cX_station 120 = .ok (.getfield 41, 3) := by decide +kernel
theorem dX_station_123 : decode cX_station 123 = .ok (.getfield 106, 3) := by decide +kernel
theorem dX_station_126 : decode cX_station 126 = .ok (.iload 7, 2) := by decide +kernel
theorem dX_station_128 : decode cX_station 128 = .ok (.aaload, 1) := by decide +kernel
theorem dX_station_129 : decode cX_station 129 = .ok (.iload 6, 2) := by decide +kernel
theorem dX_station_131 : decode cX_station 131 = .ok (.iload 4, 2) := by decide +kernel
theorem dX_station_133 : decode cX_station 133 = .ok (.invokevirtual 110, 3) := by decide +kernel
theorem dX_station_136 : decode cX_station 136 = .ok (.aload_n 0, 1) := by decide +kernel
theorem dX_station_137 : decode cX_station 137 = .ok (.getfield 41, 3) := by decide +kernel
theorem dX_station_140 : decode cX_station 140 = .ok (.dup, 1) := by decide +kernel
theorem dX_station_141 : decode cX_station 141 = .ok (.getfield 102, 3) := by decide +kernel
theorem dX_station_144 : decode cX_station 144 = .ok (.iconst 1, 1) := by decide +kernel
theorem dX_station_145 : decode cX_station 145 = .ok (.iadd, 1) := by decide +kernel
theorem dX_station_146 : decode cX_station 146 = .ok (.putfield 102, 3) := by decide +kernel
theorem dX_station_149 : decode cX_station 149 = .ok (.iload 7, 2) := by decide +kernel
theorem dX_station_151 : decode cX_station 151 = .ok (.ireturn, 1) := by decide +kernel
theorem dX_order_0 : decode cX_order 0 = .ok (.aload_n 0, 1) := by decide +kernel
theorem dX_order_1 : decode cX_order 1 = .ok (.getfield 41, 3) := by decide +kernel
theorem dX_order_4 : decode cX_order 4 = .ok (.iload_n 1, 1) := by decide +kernel
theorem dX_order_5 : decode cX_order 5 = .ok (.invokevirtual 143, 3) := by decide +kernel
theorem dX_order_8 : decode cX_order 8 = .ok (.ifCond .eq 31, 3) := by decide +kernel
theorem dX_order_11 : decode cX_order 11 = .ok (.aload_n 0, 1) := by decide +kernel
theorem dX_order_12 : decode cX_order 12 = .ok (.getfield 41, 3) := by decide +kernel
theorem dX_order_15 : decode cX_order 15 = .ok (.iload_n 2, 1) := by decide +kernel
theorem dX_order_16 : decode cX_order 16 = .ok (.invokevirtual 146, 3) := by decide +kernel
theorem dX_order_19 : decode cX_order 19 = .ok (.ifCond .eq 20, 3) := by decide +kernel
theorem dX_order_22 : decode cX_order 22 = .ok (.aload_n 0, 1) := by decide +kernel
theorem dX_order_23 : decode cX_order 23 = .ok (.getfield 41, 3) := by decide +kernel
theorem dX_order_26 : decode cX_order 26 = .ok (.getfield 129, 3) := by decide +kernel
theorem dX_order_29 : decode cX_order 29 = .ok (.iload_n 1, 1) := by decide +kernel
theorem dX_order_30 : decode cX_order 30 = .ok (.aaload, 1) := by decide +kernel
theorem dX_order_31 : decode cX_order 31 = .ok (.getfield 149, 3) := by decide +kernel
theorem dX_order_34 : decode cX_order 34 = .ok (.bipush 6, 2) := by decide +kernel
theorem dX_order_36 : decode cX_order 36 = .ok (.if_icmp .lt 5, 3) := by decide +kernel
theorem dX_order_39 : decode cX_order 39 = .ok (.iconst 0, 1) := by decide +kernel
theorem dX_order_40 : decode cX_order 40 = .ok (.ireturn, 1) := by decide +kernel
theorem dX_order_41 : decode cX_order 41 = .ok (.aload_n 0, 1) := by decide +kernel
theorem dX_order_42 : decode cX_order 42 = .ok (.getfield 41, 3) := by decide +kernel
theorem dX_order_45 : decode cX_order 45 = .ok (.getfield 129, 3) := by decide +kernel
theorem dX_order_48 : decode cX_order 48 = .ok (.iload_n 1, 1) := by decide +kernel
theorem dX_order_49 : decode cX_order 49 = .ok (.aaload, 1) := by decide +kernel
theorem dX_order_50 : decode cX_order 50 = .ok (.astore_n 3, 1) := by decide +kernel
theorem dX_order_51 : decode cX_order 51 = .ok (.aload_n 3, 1) := by decide +kernel
theorem dX_order_52 : decode cX_order 52 = .ok (.getfield 152, 3) := by decide +kernel
theorem dX_order_55 : decode cX_order 55 = .ok (.aload_n 3, 1) := by decide +kernel
theorem dX_order_56 : decode cX_order 56 = .ok (.getfield 149, 3) := by decide +kernel
theorem dX_order_59 : decode cX_order 59 = .ok (.iload_n 2, 1) := by decide +kernel
theorem dX_order_60 : decode cX_order 60 = .ok (.iastore, 1) := by decide +kernel
theorem dX_order_61 : decode cX_order 61 = .ok (.aload_n 3, 1) := by decide +kernel
theorem dX_order_62 : decode cX_order 62 = .ok (.dup, 1) := by decide +kernel
theorem dX_order_63 : decode cX_order 63 = .ok (.getfield 149, 3) := by decide +kernel
theorem dX_order_66 : decode cX_order 66 = .ok (.iconst 1, 1) := by decide +kernel
theorem dX_order_67 : decode cX_order 67 = .ok (.iadd, 1) := by decide +kernel
theorem dX_order_68 : decode cX_order 68 = .ok (.putfield 149, 3) := by decide +kernel
theorem dX_order_71 : decode cX_order 71 = .ok (.iconst 1, 1) := by decide +kernel
theorem dX_order_72 : decode cX_order 72 = .ok (.ireturn, 1) := by decide +kernel
theorem dX_toGo_0 : decode cX_toGo 0 = .ok (.aload_n 0, 1) := by decide +kernel
theorem dX_toGo_1 : decode cX_toGo 1 = .ok (.getfield 41, 3) := by decide +kernel
theorem dX_toGo_4 : decode cX_toGo 4 = .ok (.getfield 48, 3) := by decide +kernel
theorem dX_toGo_7 : decode cX_toGo 7 = .ok (.iload_n 1, 1) := by decide +kernel
theorem dX_toGo_8 : decode cX_toGo 8 = .ok (.iload_n 2, 1) := by decide +kernel
theorem dX_toGo_9 : decode cX_toGo 9 = .ok (.iload_n 3, 1) := by decide +kernel
theorem dX_toGo_10 : decode cX_toGo 10 = .ok (.invokevirtual 86, 3) := by decide +kernel
theorem dX_toGo_13 : decode cX_toGo 13 = .ok (.ifCond .eq 24, 3) := by decide +kernel
theorem dX_toGo_16 : decode cX_toGo 16 = .ok (.iload_n 3, 1) := by decide +kernel
theorem dX_toGo_17 : decode cX_toGo 17 = .ok (.iload 4, 2) := by decide +kernel
theorem dX_toGo_19 : decode cX_toGo 19 = .ok (.invokestatic 90, 3) := by decide +kernel
theorem dX_toGo_22 : decode cX_toGo 22 = .ok (.ifCond .eq 15, 3) := by decide +kernel
theorem dX_toGo_25 : decode cX_toGo 25 = .ok (.aload_n 0, 1) := by decide +kernel
theorem dX_toGo_26 : decode cX_toGo 26 = .ok (.getfield 41, 3) := by decide +kernel
theorem dX_toGo_29 : decode cX_toGo 29 = .ok (.iload 5, 2) := by decide +kernel
theorem dX_toGo_31 : decode cX_toGo 31 = .ok (.invokevirtual 146, 3) := by decide +kernel
theorem dX_toGo_34 : decode cX_toGo 34 = .ok (.ifCond .ne 5, 3) := by decide +kernel
theorem dX_toGo_37 : decode cX_toGo 37 = .ok (.iconst (-1), 1) := by decide +kernel
theorem dX_toGo_38 : decode cX_toGo 38 = .ok (.ireturn, 1) := by decide +kernel
theorem dX_toGo_39 : decode cX_toGo 39 = .ok (.aload_n 0, 1) := by decide +kernel
theorem dX_toGo_40 : decode cX_toGo 40 = .ok (.getfield 41, 3) := by decide +kernel
theorem dX_toGo_43 : decode cX_toGo 43 = .ok (.getfield 106, 3) := by decide +kernel
theorem dX_toGo_46 : decode cX_toGo 46 = .ok (.iload 5, 2) := by decide +kernel
theorem dX_toGo_48 : decode cX_toGo 48 = .ok (.aaload, 1) := by decide +kernel
theorem dX_toGo_49 : decode cX_toGo 49 = .ok (.getfield 193, 3) := by decide +kernel
theorem dX_toGo_52 : decode cX_toGo 52 = .ok (.istore 6, 2) := by decide +kernel
theorem dX_toGo_54 : decode cX_toGo 54 = .ok (.aload_n 0, 1) := by decide +kernel
theorem dX_toGo_55 : decode cX_toGo 55 = .ok (.getfield 12, 3) := by decide +kernel
theorem dX_toGo_58 : decode cX_toGo 58 = .ok (.aload_n 0, 1) := by decide +kernel
theorem dX_toGo_59 : decode cX_toGo 59 = .ok (.getfield 41, 3) := by decide +kernel
theorem dX_toGo_62 : decode cX_toGo 62 = .ok (.getfield 48, 3) := by decide +kernel
theorem dX_toGo_65 : decode cX_toGo 65 = .ok (.iload 5, 2) := by decide +kernel
theorem dX_toGo_67 : decode cX_toGo 67 = .ok (.iload 6, 2) := by decide +kernel
theorem dX_toGo_69 : decode cX_toGo 69 = .ok (.invokevirtual 195, 3) := by decide +kernel
theorem dX_toGo_72 : decode cX_toGo 72 = .ok (.aload_n 0, 1) := by decide +kernel
theorem dX_toGo_73 : decode cX_toGo 73 = .ok (.getfield 12, 3) := by decide +kernel
theorem dX_toGo_76 : decode cX_toGo 76 = .ok (.iload_n 1, 1) := by decide +kernel
theorem dX_toGo_77 : decode cX_toGo 77 = .ok (.iload_n 2, 1) := by decide +kernel
theorem dX_toGo_78 : decode cX_toGo 78 = .ok (.invokestatic 58, 3) := by decide +kernel
theorem dX_toGo_81 : decode cX_toGo 81 = .ok (.iload_n 3, 1) := by decide +kernel
theorem dX_toGo_82 : decode cX_toGo 82 = .ok (.invokestatic 63, 3) := by decide +kernel
theorem dX_toGo_85 : decode cX_toGo 85 = .ok (.iload 4, 2) := by decide +kernel
theorem dX_toGo_87 : decode cX_toGo 87 = .ok (.invokestatic 93, 3) := by decide +kernel
theorem dX_toGo_90 : decode cX_toGo 90 = .ok (.iload 5, 2) := by decide +kernel
theorem dX_toGo_92 : decode cX_toGo 92 = .ok (.iload 6, 2) := by decide +kernel
theorem dX_toGo_94 : decode cX_toGo 94 = .ok (.invokevirtual 198, 3) := by decide +kernel
theorem dX_toGo_97 : decode cX_toGo 97 = .ok (.istore 7, 2) := by decide +kernel
theorem dX_toGo_99 : decode cX_toGo 99 = .ok (.iload 7, 2) := by decide +kernel
theorem dX_toGo_101 : decode cX_toGo 101 = .ok (.ldc 202, 2) := by decide +kernel
theorem dX_toGo_103 : decode cX_toGo 103 = .ok (.if_icmp .ge 8, 3) := by decide +kernel
theorem dX_toGo_106 : decode cX_toGo 106 = .ok (.iload 7, 2) := by decide +kernel
theorem dX_toGo_108 : decode cX_toGo 108 = .ok (.goto 4, 3) := by decide +kernel
theorem dX_toGo_111 : decode cX_toGo 111 = .ok (.iconst (-1), 1) := by decide +kernel
theorem dX_toGo_112 : decode cX_toGo 112 = .ok (.ireturn, 1) := by decide +kernel
theorem lfX_41 : Cond.fieldLink R_X 41 "RailYard" "now" "LRailYard$Yard;" ∈ bigW := bw 247 (by decide +kernel) rfl
theorem lfX_48 : Cond.fieldLinkNest R_X 48 "RailYard$Yard" "grid" "LRailYard$Grid;" hostN ∈ nestW := nw 215 (by decide +kernel) rfl
theorem lmX_52 : Cond.methodLink R_X 52 yG_hasTile ∈ bigW := bw 267 (by decide +kernel) rfl
theorem lfX_77 : Cond.fieldLinkNest R_X 77 "RailYard$Grid" "tracks" "[I" hostN ∈ nestW := nw 134 (by decide +kernel) rfl
theorem lmX_58 : Cond.methodLink R_X 58 yS_tile ∈ bigW := bw 271 (by decide +kernel) rfl
theorem lmX_86 : Cond.methodLink R_X 86 yG_hasTrack ∈ bigW := bw 298 (by decide +kernel) rfl
theorem lfX_190 : Cond.fieldLinkNest R_X 190 "RailYard$Grid" "holders" "[I" hostN ∈ nestW := nw 139 (by decide +kernel) rfl
theorem lmX_63 : Cond.methodLink R_X 63 yS_place ∈ bigW := bw 274 (by decide +kernel) rfl
theorem lfX_80 : Cond.fieldLinkNest R_X 80 "RailYard$Grid" "lights" "[I" hostN ∈ nestW := nw 136 (by decide +kernel) rfl
theorem lfX_184 : Cond.fieldLinkNest R_X 184 "RailYard$Spot" "FIRST_EDGE" "[I" hostN ∈ nestW := nw 546 (by decide +kernel) rfl
theorem lfX_187 : Cond.fieldLinkNest R_X 187 "RailYard$Spot" "SECOND_EDGE" "[I" hostN ∈ nestW := nw 547 (by decide +kernel) rfl
theorem lmX_143 : Cond.methodLink R_X 143 yY_hasTrain ∈ bigW := bw 402 (by decide +kernel) rfl
theorem lfX_129 : Cond.fieldLinkNest R_X 129 "RailYard$Yard" "trains" "[LRailYard$Train;" hostN ∈ nestW := nw 219 (by decide +kernel) rfl
theorem lfX_165 : Cond.fieldLinkNest R_X 165 "RailYard$Train" "count" "I" hostN ∈ nestW := nw 177 (by decide +kernel) rfl
theorem lfX_166 : Cond.fieldLinkNest R_X 166 "RailYard$Train" "runs" "[I" hostN ∈ nestW := nw 175 (by decide +kernel) rfl
theorem lmX_161 : Cond.methodLink R_X 161 yN_ahead ∈ bigW := bw 414 (by decide +kernel) rfl
theorem lfX_155 : Cond.fieldLinkNest R_X 155 "RailYard$Train" "speed" "I" hostN ∈ nestW := nw 181 (by decide +kernel) rfl
theorem lfX_158 : Cond.fieldLinkNest R_X 158 "RailYard$Train" "loading" "I" hostN ∈ nestW := nw 183 (by decide +kernel) rfl
theorem lfX_203 : Cond.fieldLinkNest R_X 203 "RailYard$Train" "cargo" "I" hostN ∈ nestW := nw 185 (by decide +kernel) rfl
theorem lmX_206 : Cond.methodLink R_X 206 yN_goesFor ∈ bigW := bw 447 (by decide +kernel) rfl
theorem lmX_146 : Cond.methodLink R_X 146 yY_isStation ∈ bigW := bw 406 (by decide +kernel) rfl
theorem lfX_106 : Cond.fieldLinkNest R_X 106 "RailYard$Yard" "stations" "[LRailYard$Station;" hostN ∈ nestW := nw 217 (by decide +kernel) rfl
theorem lfX_209 : Cond.fieldLinkNest R_X 209 "RailYard$Station" "cargo" "I" hostN ∈ nestW := nw 161 (by decide +kernel) rfl
theorem lfX_210 : Cond.fieldLinkNest R_X 210 "RailYard$Yard" "madeCargo" "I" hostN ∈ nestW := nw 225 (by decide +kernel) rfl
theorem lfX_213 : Cond.fieldLinkNest R_X 213 "RailYard$Yard" "broughtCargo" "I" hostN ∈ nestW := nw 227 (by decide +kernel) rfl
theorem lfX_181 : Cond.fieldLinkNest R_X 181 "RailYard$Yard" "time" "I" hostN ∈ nestW := nw 229 (by decide +kernel) rfl
theorem lmX_66 : Cond.methodLink R_X 66 yG_isHeld ∈ bigW := bw 277 (by decide +kernel) rfl
theorem lmX_70 : Cond.methodLink R_X 70 yG_hasPiece ∈ bigW := bw 282 (by decide +kernel) rfl
theorem lfX_12 : Cond.fieldLink R_X 12 "RailYard" "ways" "LRailYard$Ways;" ∈ bigW := bw 249 (by decide +kernel) rfl
theorem lmX_83 : Cond.methodLink R_X 83 yW_forget ∈ bigW := bw 290 (by decide +kernel) rfl
theorem lmX_73 : Cond.methodLink R_X 73 yY_stationOn ∈ bigW := bw 286 (by decide +kernel) rfl
theorem lmX_90 : Cond.methodLink R_X 90 yS_hasEdge ∈ bigW := bw 305 (by decide +kernel) rfl
theorem lmX_93 : Cond.methodLink R_X 93 yS_run ∈ bigW := bw 312 (by decide +kernel) rfl
theorem lmX_96 : Cond.methodLink R_X 96 yG_isLit ∈ bigW := bw 315 (by decide +kernel) rfl
theorem lmX_99 : Cond.methodLink R_X 99 yY_hasStation ∈ bigW := bw 329 (by decide +kernel) rfl
theorem lfX_102 : Cond.fieldLinkNest R_X 102 "RailYard$Yard" "stationCount" "I" hostN ∈ nestW := nw 221 (by decide +kernel) rfl
theorem lmX_110 : Cond.methodLink R_X 110 yT_open ∈ bigW := bw 335 (by decide +kernel) rfl
theorem lfX_149 : Cond.fieldLinkNest R_X 149 "RailYard$Train" "orderCount" "I" hostN ∈ nestW := nw 189 (by decide +kernel) rfl
theorem lfX_152 : Cond.fieldLinkNest R_X 152 "RailYard$Train" "orders" "[I" hostN ∈ nestW := nw 187 (by decide +kernel) rfl
theorem lfX_193 : Cond.fieldLinkNest R_X 193 "RailYard$Station" "place" "I" hostN ∈ nestW := nw 158 (by decide +kernel) rfl
theorem lmX_195 : Cond.methodLink R_X 195 yW_learn ∈ bigW := bw 471 (by decide +kernel) rfl
theorem lmX_198 : Cond.methodLink R_X 198 yW_rest ∈ bigW := bw 556 (by decide +kernel) rfl
theorem lcX_202 : Cond.constant R_X 202 (Int32.ofInt 1048576) ∈ bigW := bw 557 (by decide +kernel) rfl
theorem miG_hasTrack : MI yG_hasTrack cG_hasTrack 4 (some .boolean) 3 := ⟨bw 301 (by decide +kernel) rfl, bw 44 (by decide +kernel) rfl, ⟨by decide +kernel, by decide +kernel⟩, by decide +kernel, by decide⟩
theorem mvG_hasTrack : MV yG_hasTrack := ⟨bw 299 (by decide +kernel) rfl, bw 300 (by decide +kernel) rfl⟩
theorem miY_hasTrain : MI yY_hasTrain cY_hasTrain 2 (some .boolean) 1 := ⟨bw 405 (by decide +kernel) rfl, bw 43 (by decide +kernel) rfl, ⟨by decide +kernel, by decide +kernel⟩, by decide +kernel, by decide⟩
theorem mvY_hasTrain : MV yY_hasTrain := ⟨bw 403 (by decide +kernel) rfl, bw 404 (by decide +kernel) rfl⟩
theorem miN_goesFor : MI yN_goesFor cN_goesFor 1 (some .int) 0 := ⟨bw 450 (by decide +kernel) rfl, bw 47 (by decide +kernel) rfl, ⟨by decide +kernel, by decide +kernel⟩, by decide +kernel, by decide⟩
theorem mvN_goesFor : MV yN_goesFor := ⟨bw 448 (by decide +kernel) rfl, bw 449 (by decide +kernel) rfl⟩
theorem miY_isStation : MI yY_isStation cY_isStation 2 (some .boolean) 1 := ⟨bw 409 (by decide +kernel) rfl, bw 43 (by decide +kernel) rfl, ⟨by decide +kernel, by decide +kernel⟩, by decide +kernel, by decide⟩
theorem mvY_isStation : MV yY_isStation := ⟨bw 407 (by decide +kernel) rfl, bw 408 (by decide +kernel) rfl⟩
theorem miG_isHeld : MI yG_isHeld cG_isHeld 3 (some .boolean) 1 := ⟨bw 280 (by decide +kernel) rfl, bw 44 (by decide +kernel) rfl, ⟨by decide +kernel, by decide +kernel⟩, by decide +kernel, by decide⟩
theorem mvG_isHeld : MV yG_isHeld := ⟨bw 278 (by decide +kernel) rfl, bw 279 (by decide +kernel) rfl⟩
theorem miW_forget : MI yW_forget cW_forget 1 none 0 := ⟨bw 293 (by decide +kernel) rfl, bw 40 (by decide +kernel) rfl, ⟨by decide +kernel, by decide +kernel⟩, by decide +kernel, by decide⟩
theorem mvW_forget : MV yW_forget := ⟨bw 291 (by decide +kernel) rfl, bw 292 (by decide +kernel) rfl⟩
theorem miG_isLit : MI yG_isLit cG_isLit 2 (some .boolean) 1 := ⟨bw 318 (by decide +kernel) rfl, bw 44 (by decide +kernel) rfl, ⟨by decide +kernel, by decide +kernel⟩, by decide +kernel, by decide⟩
theorem mvG_isLit : MV yG_isLit := ⟨bw 316 (by decide +kernel) rfl, bw 317 (by decide +kernel) rfl⟩
theorem miY_hasStation : MI yY_hasStation cY_hasStation 2 (some .boolean) 1 := ⟨bw 332 (by decide +kernel) rfl, bw 43 (by decide +kernel) rfl, ⟨by decide +kernel, by decide +kernel⟩, by decide +kernel, by decide⟩
theorem mvY_hasStation : MV yY_hasStation := ⟨bw 330 (by decide +kernel) rfl, bw 331 (by decide +kernel) rfl⟩
theorem miT_open : MI yT_open cT_open 3 none 2 := ⟨bw 338 (by decide +kernel) rfl, bw 46 (by decide +kernel) rfl, ⟨by decide +kernel, by decide +kernel⟩, by decide +kernel, by decide⟩
theorem mvT_open : MV yT_open := ⟨bw 336 (by decide +kernel) rfl, bw 337 (by decide +kernel) rfl⟩
theorem miW_learn : MI yW_learn cW_learn 10 none 3 := ⟨bw 474 (by decide +kernel) rfl, bw 40 (by decide +kernel) rfl, ⟨by decide +kernel, by decide +kernel⟩, by decide +kernel, by decide⟩
theorem mvW_learn : MV yW_learn := ⟨bw 472 (by decide +kernel) rfl, bw 473 (by decide +kernel) rfl⟩
/-- the class's numbers are in their ranges -/
def gok (w : RW) (g : Int) : Prop := (0 ≤ g ∧ g < 384) ∧ isT (w 2 0) (w 2 1) (g % 64 % 8) (g % 64 / 8) ∧ tb (w 3 (g % 64)) (g / 64)
def tok (w : RW) (k r o : Nat) (ns : Int) : Prop := (1 ≤ w k 2 ∧ w k 2 ≤ 5 ∧ w k 2 ≤ w k 1 ∧ w k 1 ≤ 96) ∧ (0 ≤ w k 3 ∧ w k 3 ≤ 3 ∧ 0 ≤ w k 4 ∧ w k 4 ≤ 2 ∧ 0 ≤ w k 5 ∧ w k 5 ≤ 100) ∧ (0 ≤ w k 7 ∧ w k 7 ≤ 6 ∧ 0 ≤ w k 8 ∧ (w k 8 < w k 7 ∨ (w k 7 = 0 ∧ w k 8 = 0)) ∧ (w k 9 = 0 ∨ w k 9 = 1)) ∧ (∀ i, 0 ≤ i → i < w k 1 → okR (w r i)) ∧ ∀ i, 0 ≤ i → i < w k 7 → 0 ≤ w o i ∧ w o i < ns
def cOK (w : RW) : Prop :=
  (3 ≤ w 2 0 ∧ w 2 0 ≤ 8 ∧ 3 ≤ w 2 1 ∧ w 2 1 ≤ 6) ∧
  (∀ t, 0 ≤ t → t < 64 → 0 ≤ w 3 t ∧ w 3 t < 64) ∧
  (∀ p, 0 ≤ p → p < 384 → 0 ≤ w 4 p ∧ w 4 p < 16 ∧ -1 ≤ w 5 p ∧ w 5 p < 6) ∧
  (0 ≤ w 1 3 ∧ w 1 3 ≤ 6 ∧ 0 ≤ w 1 4 ∧ w 1 4 ≤ 6) ∧
  (∀ s, 0 ≤ s → s < w 1 3 → gok w (w (7 + s.toNat) 0) ∧ 0 ≤ w (7 + s.toNat) 1 ∧ w (7 + s.toNat) 1 ≤ 50 ∧ 0 ≤ w (7 + s.toNat) 2 ∧ w (7 + s.toNat) 2 ≤ 500) ∧
  ∀ t, 0 ≤ t → t < w 1 4 → tok w (14 + t.toNat) (20 + t.toNat) (26 + t.toNat) (w 1 3)
def hTr (w : RW) (x y p : Int) : Prop := isT (w 2 0) (w 2 1) x y ∧ (0 ≤ p ∧ p < 6) ∧ tb (w 3 (x + 8 * y)) p
theorem ctX_pieces {G : vG} {l : Launch} {w : RW} {x y : Int} (hc : cOK w) : CTi G l yX_pieces cX_pieces 3 .int 1 [.inr 0, .inl x, .inl y] w (fun r u => r = cif (isT (w 2 0) (w 2 1) x y) (w 3 (x + 8 * y)) (-1) ∧ w = u) := by
  refine CTi.int (by decide) (Nat.le_of_ble_eq_true rfl) ?_
  intro X Q F hX hR
  subst hX
  show V G X 3 Q 0 [some (.inr 0), some (.inl x), some (.inl y)] [] w
  obtain ⟨k1, k2, k3, k4, k5, k6⟩ := hc
  refine V_aload_n (i := 0) F dX_pieces_0 rfl rfl ?_
  refine V_getr (ci := 6) (C := R_X) (T := T_X) (N := 5) F dX_pieces_1 (by first | rfl | assumption) rfl (j := 0) (by decide) rfl lfX_41 ?_
  refine V_getrN (ci := 5) (C := R_Y) (T := T_Y) (N := 8) F dX_pieces_4 (by first | rfl | assumption) rfl (j := 0) (by decide) rfl lfX_48 ?_
  refine V_iload_n (i := 1) F dX_pieces_7 rfl rfl ?_
  refine V_iload_n (i := 2) F dX_pieces_8 rfl rfl ?_
  refine V_callVi F dX_pieces_9 lmX_52 miG_hasTile mvG_hasTile (ctG_hasTile) (by decide) (by first | rfl | assumption) rfl rfl (Nat.le_of_ble_eq_true rfl) (fun r u hr => ?_)
  obtain ⟨rfl, rfl⟩ := hr
  refine V_if_eq F 34 dX_pieces_12 (by decide) (fun h12 => ?_) (fun h12 => ?_)
  · first | (replace h12 := bz_ne0.mp h12) | (replace h12 := bz_eq0.mp h12) | skip
    refine V_iconst F dX_pieces_34 (by decide) ?_
    exact hR _ _ _ _ dX_pieces_35 (by first | exact ⟨(cif_t h12).symm, rfl⟩ | exact ⟨(cif_f h12).symm, rfl⟩)
  · first | (replace h12 := bz_ne0.mp h12) | (replace h12 := bz_eq0.mp h12) | skip
    have hh := h12
    unfold isT at hh
    refine V_aload_n (i := 0) F dX_pieces_15 rfl rfl ?_
    refine V_getr (ci := 6) (C := R_X) (T := T_X) (N := 5) F dX_pieces_16 (by first | rfl | assumption) rfl (j := 0) (by decide) rfl lfX_41 ?_
    refine V_getrN (ci := 5) (C := R_Y) (T := T_Y) (N := 8) F dX_pieces_19 (by first | rfl | assumption) rfl (j := 0) (by decide) rfl lfX_48 ?_
    refine V_getrN (ci := 0) (C := R_G) (T := T_G) (N := 5) F dX_pieces_22 (by first | rfl | assumption) rfl (j := 2) (by decide) rfl lfX_77 ?_
    refine V_iload_n (i := 1) F dX_pieces_25 rfl rfl ?_
    refine V_iload_n (i := 2) F dX_pieces_26 rfl rfl ?_
    refine V_callSi F dX_pieces_27 lmX_58 miS_tile msS_tile (ctS_tile (by omega)) (by decide) rfl (Nat.le_of_ble_eq_true rfl) (fun r u hr => ?_)
    obtain ⟨rfl, rfl⟩ := hr
    first
      | refine V_sald F dX_pieces_30 (by decide) (by omega) (stt_in _ _) ?_
      | refine V_iald F dX_pieces_30 (by first | rfl | assumption) rfl (by omega) ?_
    refine V_goto F 35 dX_pieces_31 (by decide) ?_
    exact hR _ _ _ _ dX_pieces_35 (by first | exact ⟨(cif_t h12).symm, rfl⟩ | exact ⟨(cif_f h12).symm, rfl⟩)
theorem ctX_holder {G : vG} {l : Launch} {w : RW} {x y p : Int} (hc : cOK w) : CTi G l yX_holder cX_holder 4 .int 2 [.inr 0, .inl x, .inl y, .inl p] w (fun r u => r = cif (hTr w x y p) (w 5 (x + 8 * y + 64 * p)) (-1) ∧ w = u) := by
  refine CTi.int (by decide) (Nat.le_of_ble_eq_true rfl) ?_
  intro X Q F hX hR
  subst hX
  show V G X 4 Q 0 [some (.inr 0), some (.inl x), some (.inl y), some (.inl p)] [] w
  obtain ⟨k1, k2, k3, k4, k5, k6⟩ := hc
  refine V_aload_n (i := 0) F dX_holder_0 rfl rfl ?_
  refine V_getr (ci := 6) (C := R_X) (T := T_X) (N := 5) F dX_holder_1 (by first | rfl | assumption) rfl (j := 0) (by decide) rfl lfX_41 ?_
  refine V_getrN (ci := 5) (C := R_Y) (T := T_Y) (N := 8) F dX_holder_4 (by first | rfl | assumption) rfl (j := 0) (by decide) rfl lfX_48 ?_
  refine V_iload_n (i := 1) F dX_holder_7 rfl rfl ?_
  refine V_iload_n (i := 2) F dX_holder_8 rfl rfl ?_
  refine V_iload_n (i := 3) F dX_holder_9 rfl rfl ?_
  refine V_callVi F dX_holder_10 lmX_86 miG_hasTrack mvG_hasTrack (ctG_hasTrack (by omega) (fun t t1 t2 => (k2 t t1 t2).1)) (by decide) (by first | rfl | assumption) rfl rfl (Nat.le_of_ble_eq_true rfl) (fun r u hr => ?_)
  obtain ⟨rfl, rfl⟩ := hr
  show V _ _ _ _ _ _ (.inl (bz (hTr w x y p)) :: _) _
  refine V_if_ne F 18 dX_holder_13 (by decide) (fun h13 => ?_) (fun h13 => ?_)
  · first | (replace h13 := bz_ne0.mp h13) | (replace h13 := bz_eq0.mp h13) | skip
    have hh := h13.1
    unfold isT at hh
    have hp := h13.2.1
    refine V_aload_n (i := 0) F dX_holder_18 rfl rfl ?_
    refine V_getr (ci := 6) (C := R_X) (T := T_X) (N := 5) F dX_holder_19 (by first | rfl | assumption) rfl (j := 0) (by decide) rfl lfX_41 ?_
    refine V_getrN (ci := 5) (C := R_Y) (T := T_Y) (N := 8) F dX_holder_22 (by first | rfl | assumption) rfl (j := 0) (by decide) rfl lfX_48 ?_
    refine V_getrN (ci := 0) (C := R_G) (T := T_G) (N := 5) F dX_holder_25 (by first | rfl | assumption) rfl (j := 4) (by decide) rfl lfX_190 ?_
    refine V_iload_n (i := 1) F dX_holder_28 rfl rfl ?_
    refine V_iload_n (i := 2) F dX_holder_29 rfl rfl ?_
    refine V_callSi F dX_holder_30 lmX_58 miS_tile msS_tile (ctS_tile (by omega)) (by decide) rfl (Nat.le_of_ble_eq_true rfl) (fun r u hr => ?_)
    obtain ⟨rfl, rfl⟩ := hr
    refine V_iload_n (i := 3) F dX_holder_33 rfl rfl ?_
    refine V_callSi F dX_holder_34 lmX_63 miS_place msS_place (ctS_place (by omega)) (by decide) rfl (Nat.le_of_ble_eq_true rfl) (fun r u hr => ?_)
    obtain ⟨rfl, rfl⟩ := hr
    first
      | refine V_sald F dX_holder_37 (by decide) (by omega) (stt_in _ _) ?_
      | refine V_iald F dX_holder_37 (by first | rfl | assumption) rfl (by omega) ?_
    exact hR _ _ _ _ dX_holder_38 (by first | exact ⟨(cif_t h13).symm, rfl⟩ | exact ⟨(cif_f h13).symm, rfl⟩)
  · first | (replace h13 := bz_ne0.mp h13) | (replace h13 := bz_eq0.mp h13) | skip
    refine V_iconst F dX_holder_16 (by decide) ?_
    exact hR _ _ _ _ dX_holder_17 (by first | exact ⟨(cif_t h13).symm, rfl⟩ | exact ⟨(cif_f h13).symm, rfl⟩)
theorem ctX_signals {G : vG} {l : Launch} {w : RW} {x y p : Int} (hc : cOK w) : CTi G l yX_signals cX_signals 7 .int 2 [.inr 0, .inl x, .inl y, .inl p] w (fun r u => r = cif (hTr w x y p) (bz (tb (w 4 (x + 8 * y + 64 * p)) (stt 0 p)) + 2 * bz (tb (w 4 (x + 8 * y + 64 * p)) (stt 1 p))) (-1) ∧ w = u) := by
  refine CTi.int (by decide) (Nat.le_of_ble_eq_true rfl) ?_
  intro X Q F hX hR
  subst hX
  show V G X 7 Q 0 [some (.inr 0), some (.inl x), some (.inl y), some (.inl p), none, none, none] [] w
  obtain ⟨k1, k2, k3, k4, k5, k6⟩ := hc
  refine V_aload_n (i := 0) F dX_signals_0 rfl rfl ?_
  refine V_getr (ci := 6) (C := R_X) (T := T_X) (N := 5) F dX_signals_1 (by first | rfl | assumption) rfl (j := 0) (by decide) rfl lfX_41 ?_
  refine V_getrN (ci := 5) (C := R_Y) (T := T_Y) (N := 8) F dX_signals_4 (by first | rfl | assumption) rfl (j := 0) (by decide) rfl lfX_48 ?_
  refine V_iload_n (i := 1) F dX_signals_7 rfl rfl ?_
  refine V_iload_n (i := 2) F dX_signals_8 rfl rfl ?_
  refine V_iload_n (i := 3) F dX_signals_9 rfl rfl ?_
  refine V_callVi F dX_signals_10 lmX_86 miG_hasTrack mvG_hasTrack (ctG_hasTrack (by omega) (fun t t1 t2 => (k2 t t1 t2).1)) (by decide) (by first | rfl | assumption) rfl rfl (Nat.le_of_ble_eq_true rfl) (fun r u hr => ?_)
  obtain ⟨rfl, rfl⟩ := hr
  show V _ _ _ _ _ _ (.inl (bz (hTr w x y p)) :: _) _
  refine V_if_ne F 18 dX_signals_13 (by decide) (fun h13 => ?_) (fun h13 => ?_)
  · first | (replace h13 := bz_ne0.mp h13) | (replace h13 := bz_eq0.mp h13) | skip
    have hh := h13.1
    unfold isT at hh
    have hp := h13.2.1
    have s0 := stt_e (i := 0) (by omega) hp
    have s1 := stt_e (i := 1) (by omega) hp
    have hl := k3 (x + 8 * y + 64 * p) (by omega) (by omega)
    have z0 := bz_01 (tb (w 4 (x + 8 * y + 64 * p)) (stt 0 p))
    have z1 := bz_01 (tb (w 4 (x + 8 * y + 64 * p)) (stt 1 p))
    refine V_aload_n (i := 0) F dX_signals_18 rfl rfl ?_
    refine V_getr (ci := 6) (C := R_X) (T := T_X) (N := 5) F dX_signals_19 (by first | rfl | assumption) rfl (j := 0) (by decide) rfl lfX_41 ?_
    refine V_getrN (ci := 5) (C := R_Y) (T := T_Y) (N := 8) F dX_signals_22 (by first | rfl | assumption) rfl (j := 0) (by decide) rfl lfX_48 ?_
    refine V_getrN (ci := 0) (C := R_G) (T := T_G) (N := 5) F dX_signals_25 (by first | rfl | assumption) rfl (j := 3) (by decide) rfl lfX_80 ?_
    refine V_iload_n (i := 1) F dX_signals_28 rfl rfl ?_
    refine V_iload_n (i := 2) F dX_signals_29 rfl rfl ?_
    refine V_callSi F dX_signals_30 lmX_58 miS_tile msS_tile (ctS_tile (by omega)) (by decide) rfl (Nat.le_of_ble_eq_true rfl) (fun r u hr => ?_)
    obtain ⟨rfl, rfl⟩ := hr
    refine V_iload_n (i := 3) F dX_signals_33 rfl rfl ?_
    refine V_callSi F dX_signals_34 lmX_63 miS_place msS_place (ctS_place (by omega)) (by decide) rfl (Nat.le_of_ble_eq_true rfl) (fun r u hr => ?_)
    obtain ⟨rfl, rfl⟩ := hr
    first
      | refine V_sald F dX_signals_37 (by decide) (by omega) (stt_in _ _) ?_
      | refine V_iald F dX_signals_37 (by first | rfl | assumption) rfl (by omega) ?_
    refine V_istore F dX_signals_38 (by decide) (by simp only [List.set_cons_zero, List.set_cons_succ]; exact rfl) ?_
    refine V_iload F dX_signals_40 rfl ?_
    refine V_getsN F 0 dX_signals_42 (by decide) lfX_184 ?_
    refine V_iload_n (i := 3) F dX_signals_45 rfl rfl ?_
    first
      | refine V_sald F dX_signals_46 (by decide) (by omega) (stt_in _ _) ?_
      | refine V_iald F dX_signals_46 (by first | rfl | assumption) rfl (by omega) ?_
    refine V_ishr F _ dX_signals_47 rfl ?_
    refine V_iconst F dX_signals_48 (by decide) ?_
    refine V_iand F _ dX_signals_49 (bit_1 (by omega) (by omega)) ?_
    refine V_istore F dX_signals_50 (by decide) (by simp only [List.set_cons_zero, List.set_cons_succ]; exact rfl) ?_
    refine V_iload F dX_signals_52 rfl ?_
    refine V_getsN F 1 dX_signals_54 (by decide) lfX_187 ?_
    refine V_iload_n (i := 3) F dX_signals_57 rfl rfl ?_
    first
      | refine V_sald F dX_signals_58 (by decide) (by omega) (stt_in _ _) ?_
      | refine V_iald F dX_signals_58 (by first | rfl | assumption) rfl (by omega) ?_
    refine V_ishr F _ dX_signals_59 rfl ?_
    refine V_iconst F dX_signals_60 (by decide) ?_
    refine V_iand F _ dX_signals_61 (bit_1 (by omega) (by omega)) ?_
    refine V_istore F dX_signals_62 (by decide) (by simp only [List.set_cons_zero, List.set_cons_succ]; exact rfl) ?_
    refine V_iload F dX_signals_64 rfl ?_
    refine V_iconst F dX_signals_66 (by decide) ?_
    refine V_iload F dX_signals_67 rfl ?_
    refine V_imul F dX_signals_69 (by omega) ?_
    refine V_iadd F dX_signals_70 (by omega) ?_
    exact hR _ _ _ _ dX_signals_71 (by first | exact ⟨(cif_t h13).symm, rfl⟩ | exact ⟨(cif_f h13).symm, rfl⟩)
  · first | (replace h13 := bz_ne0.mp h13) | (replace h13 := bz_eq0.mp h13) | skip
    refine V_iconst F dX_signals_16 (by decide) ?_
    exact hR _ _ _ _ dX_signals_17 (by first | exact ⟨(cif_t h13).symm, rfl⟩ | exact ⟨(cif_f h13).symm, rfl⟩)
theorem ctX_held {G : vG} {l : Launch} {w : RW} {t k : Int} (hc : cOK w) : CTi G l yX_held cX_held 3 .int 1 [.inr 0, .inl t, .inl k] w (fun r u => r = cif ((0 ≤ t ∧ t < w 1 4) ∧ 0 ≤ k ∧ k < w (14 + t.toNat) 1) (w (20 + t.toNat) k) (-1) ∧ w = u) := by
  refine CTi.int (by decide) (Nat.le_of_ble_eq_true rfl) ?_
  intro X Q F hX hR
  subst hX
  show V G X 3 Q 0 [some (.inr 0), some (.inl t), some (.inl k)] [] w
  obtain ⟨k1, k2, k3, k4, k5, k6⟩ := hc
  refine V_aload_n (i := 0) F dX_held_0 rfl rfl ?_
  refine V_getr (ci := 6) (C := R_X) (T := T_X) (N := 5) F dX_held_1 (by first | rfl | assumption) rfl (j := 0) (by decide) rfl lfX_41 ?_
  refine V_iload_n (i := 1) F dX_held_4 rfl rfl ?_
  refine V_callVi F dX_held_5 lmX_143 miY_hasTrain mvY_hasTrain (ctY_hasTrain) (by decide) (by first | rfl | assumption) rfl rfl (Nat.le_of_ble_eq_true rfl) (fun r u hr => ?_)
  obtain ⟨rfl, rfl⟩ := hr
  refine V_if_eq F 31 dX_held_8 (by decide) (fun h8 => ?_) (fun h8 => ?_)
  · first | (replace h8 := bz_ne0.mp h8) | (replace h8 := bz_eq0.mp h8) | skip
    refine V_iconst F dX_held_31 (by decide) ?_
    exact hR _ _ _ _ dX_held_32 (by first | exact ⟨(cif_t (by omega)).symm, rfl⟩ | exact ⟨(cif_f (by omega)).symm, rfl⟩)
  · first | (replace h8 := bz_ne0.mp h8) | (replace h8 := bz_eq0.mp h8) | skip
    have ht := k6 t (by omega) (by omega)
    obtain ⟨t1, t2, t3, t4, t5⟩ := ht
    have b1 := tr14_at (i := t) (by omega)
    have b2 := tr14_sh (i := t) (by omega)
    have b3 := rn20_sh (i := t) (by omega)
    have b4 := od26_sh (i := t) (by omega)
    refine V_iload_n (i := 2) F dX_held_11 rfl rfl ?_
    refine V_if_lt F 31 dX_held_12 (by decide) (fun h12 => ?_) (fun h12 => ?_)
    · first | (replace h12 := bz_ne0.mp h12) | (replace h12 := bz_eq0.mp h12) | skip
      refine V_iconst F dX_held_31 (by decide) ?_
      exact hR _ _ _ _ dX_held_32 (by first | exact ⟨(cif_t (by omega)).symm, rfl⟩ | exact ⟨(cif_f (by omega)).symm, rfl⟩)
    · first | (replace h12 := bz_ne0.mp h12) | (replace h12 := bz_eq0.mp h12) | skip
      refine V_iload_n (i := 2) F dX_held_15 rfl rfl ?_
      refine V_aload_n (i := 0) F dX_held_16 rfl rfl ?_
      refine V_getr (ci := 6) (C := R_X) (T := T_X) (N := 5) F dX_held_17 (by first | rfl | assumption) rfl (j := 0) (by decide) rfl lfX_41 ?_
      refine V_getrN (ci := 5) (C := R_Y) (T := T_Y) (N := 8) F dX_held_20 (by first | rfl | assumption) rfl (j := 2) (by decide) rfl lfX_129 ?_
      refine V_iload_n (i := 1) F dX_held_23 rfl rfl ?_
      first
        | refine V_aald F dX_held_24 (by first | rfl | assumption) rfl (by omega) (by first | rfl | assumption) ?_
        | refine V_aaldA F dX_held_24 (by first | rfl | assumption) rfl (by omega) (by first | rfl | assumption) ?_
      refine V_getiN (ci := 3) (C := R_N) (T := T_N) (N := 10) F dX_held_25 (by first | rfl | assumption) rfl (j := 1) 1 rfl (by decide) rfl lfX_165 ?_
      refine V_icmp_lt F 33 dX_held_28 (by decide) (fun h28 => ?_) (fun h28 => ?_)
      · first | (replace h28 := bz_ne0.mp h28) | (replace h28 := bz_eq0.mp h28) | skip
        refine V_aload_n (i := 0) F dX_held_33 rfl rfl ?_
        refine V_getr (ci := 6) (C := R_X) (T := T_X) (N := 5) F dX_held_34 (by first | rfl | assumption) rfl (j := 0) (by decide) rfl lfX_41 ?_
        refine V_getrN (ci := 5) (C := R_Y) (T := T_Y) (N := 8) F dX_held_37 (by first | rfl | assumption) rfl (j := 2) (by decide) rfl lfX_129 ?_
        refine V_iload_n (i := 1) F dX_held_40 rfl rfl ?_
        first
          | refine V_aald F dX_held_41 (by first | rfl | assumption) rfl (by omega) (by first | rfl | assumption) ?_
          | refine V_aaldA F dX_held_41 (by first | rfl | assumption) rfl (by omega) (by first | rfl | assumption) ?_
        refine V_getrN (ci := 3) (C := R_N) (T := T_N) (N := 10) F dX_held_42 (by first | rfl | assumption) rfl (j := 0) (by decide) rfl lfX_166 ?_
        refine V_iload_n (i := 2) F dX_held_45 rfl rfl ?_
        first
          | refine V_sald F dX_held_46 (by decide) (by omega) (stt_in _ _) ?_
          | refine V_iald F dX_held_46 (by first | rfl | assumption) rfl (by omega) ?_
        exact hR _ _ _ _ dX_held_47 (by first | exact ⟨(cif_t (by omega)).symm, rfl⟩ | exact ⟨(cif_f (by omega)).symm, rfl⟩)
      · first | (replace h28 := bz_ne0.mp h28) | (replace h28 := bz_eq0.mp h28) | skip
        refine V_iconst F dX_held_31 (by decide) ?_
        exact hR _ _ _ _ dX_held_32 (by first | exact ⟨(cif_t (by omega)).symm, rfl⟩ | exact ⟨(cif_f (by omega)).symm, rfl⟩)
theorem ctX_motion {G : vG} {l : Launch} {w : RW} {t : Int} (hc : cOK w) : CTi G l yX_motion cX_motion 3 .int 1 [.inr 0, .inl t] w (fun r u => r = cif (0 ≤ t ∧ t < w 1 4) (w (14 + t.toNat) 1 - w (14 + t.toNat) 2 + 1000 * w (14 + t.toNat) 3 + 10000 * w (14 + t.toNat) 4) (-1) ∧ w = u) := by
  refine CTi.int (by decide) (Nat.le_of_ble_eq_true rfl) ?_
  intro X Q F hX hR
  subst hX
  show V G X 3 Q 0 [some (.inr 0), some (.inl t), none] [] w
  obtain ⟨k1, k2, k3, k4, k5, k6⟩ := hc
  refine V_aload_n (i := 0) F dX_motion_0 rfl rfl ?_
  refine V_getr (ci := 6) (C := R_X) (T := T_X) (N := 5) F dX_motion_1 (by first | rfl | assumption) rfl (j := 0) (by decide) rfl lfX_41 ?_
  refine V_iload_n (i := 1) F dX_motion_4 rfl rfl ?_
  refine V_callVi F dX_motion_5 lmX_143 miY_hasTrain mvY_hasTrain (ctY_hasTrain) (by decide) (by first | rfl | assumption) rfl rfl (Nat.le_of_ble_eq_true rfl) (fun r u hr => ?_)
  obtain ⟨rfl, rfl⟩ := hr
  refine V_if_ne F 13 dX_motion_8 (by decide) (fun h8 => ?_) (fun h8 => ?_)
  · first | (replace h8 := bz_ne0.mp h8) | (replace h8 := bz_eq0.mp h8) | skip
    have ht := k6 t (by omega) (by omega)
    obtain ⟨t1, t2, t3, t4, t5⟩ := ht
    have b1 := tr14_at (i := t) (by omega)
    have b2 := tr14_sh (i := t) (by omega)
    have b3 := rn20_sh (i := t) (by omega)
    have b4 := od26_sh (i := t) (by omega)
    refine V_aload_n (i := 0) F dX_motion_13 rfl rfl ?_
    refine V_getr (ci := 6) (C := R_X) (T := T_X) (N := 5) F dX_motion_14 (by first | rfl | assumption) rfl (j := 0) (by decide) rfl lfX_41 ?_
    refine V_getrN (ci := 5) (C := R_Y) (T := T_Y) (N := 8) F dX_motion_17 (by first | rfl | assumption) rfl (j := 2) (by decide) rfl lfX_129 ?_
    refine V_iload_n (i := 1) F dX_motion_20 rfl rfl ?_
    first
      | refine V_aald F dX_motion_21 (by first | rfl | assumption) rfl (by omega) (by first | rfl | assumption) ?_
      | refine V_aaldA F dX_motion_21 (by first | rfl | assumption) rfl (by omega) (by first | rfl | assumption) ?_
    refine V_astore_n (i := 2) F dX_motion_22 rfl (by decide) (by simp only [List.set_cons_zero, List.set_cons_succ]; exact rfl) ?_
    refine V_aload_n (i := 2) F dX_motion_23 rfl rfl ?_
    refine V_callVi F dX_motion_24 lmX_161 miN_ahead mvN_ahead (ctN_ahead b2 b3 b4 (by omega)) (by decide) (by first | rfl | assumption) rfl rfl (Nat.le_of_ble_eq_true rfl) (fun r u hr => ?_)
    obtain ⟨rfl, rfl⟩ := hr
    refine V_sipush F dX_motion_27 (by decide) ?_
    refine V_aload_n (i := 2) F dX_motion_30 rfl rfl ?_
    refine V_getiN (ci := 3) (C := R_N) (T := T_N) (N := 10) F dX_motion_31 (by first | rfl | assumption) rfl (j := 3) 3 rfl (by decide) rfl lfX_155 ?_
    refine V_imul F dX_motion_34 (by omega) ?_
    refine V_iadd F dX_motion_35 (by omega) ?_
    refine V_sipush F dX_motion_36 (by decide) ?_
    refine V_aload_n (i := 2) F dX_motion_39 rfl rfl ?_
    refine V_getiN (ci := 3) (C := R_N) (T := T_N) (N := 10) F dX_motion_40 (by first | rfl | assumption) rfl (j := 4) 4 rfl (by decide) rfl lfX_158 ?_
    refine V_imul F dX_motion_43 (by omega) ?_
    refine V_iadd F dX_motion_44 (by omega) ?_
    exact hR _ _ _ _ dX_motion_45 (by first | exact ⟨(cif_t h8).symm, rfl⟩ | exact ⟨(cif_f h8).symm, rfl⟩)
  · first | (replace h8 := bz_ne0.mp h8) | (replace h8 := bz_eq0.mp h8) | skip
    refine V_iconst F dX_motion_11 (by decide) ?_
    exact hR _ _ _ _ dX_motion_12 (by first | exact ⟨(cif_t h8).symm, rfl⟩ | exact ⟨(cif_f h8).symm, rfl⟩)
theorem ctX_load {G : vG} {l : Launch} {w : RW} {t : Int} (hc : cOK w) : CTi G l yX_load cX_load 2 .int 1 [.inr 0, .inl t] w (fun r u => r = cif (0 ≤ t ∧ t < w 1 4) (w (14 + t.toNat) 5) (-1) ∧ w = u) := by
  refine CTi.int (by decide) (Nat.le_of_ble_eq_true rfl) ?_
  intro X Q F hX hR
  subst hX
  show V G X 2 Q 0 [some (.inr 0), some (.inl t)] [] w
  obtain ⟨k1, k2, k3, k4, k5, k6⟩ := hc
  refine V_aload_n (i := 0) F dX_load_0 rfl rfl ?_
  refine V_getr (ci := 6) (C := R_X) (T := T_X) (N := 5) F dX_load_1 (by first | rfl | assumption) rfl (j := 0) (by decide) rfl lfX_41 ?_
  refine V_iload_n (i := 1) F dX_load_4 rfl rfl ?_
  refine V_callVi F dX_load_5 lmX_143 miY_hasTrain mvY_hasTrain (ctY_hasTrain) (by decide) (by first | rfl | assumption) rfl rfl (Nat.le_of_ble_eq_true rfl) (fun r u hr => ?_)
  obtain ⟨rfl, rfl⟩ := hr
  refine V_if_eq F 26 dX_load_8 (by decide) (fun h8 => ?_) (fun h8 => ?_)
  · first | (replace h8 := bz_ne0.mp h8) | (replace h8 := bz_eq0.mp h8) | skip
    refine V_iconst F dX_load_26 (by decide) ?_
    exact hR _ _ _ _ dX_load_27 (by first | exact ⟨(cif_t h8).symm, rfl⟩ | exact ⟨(cif_f h8).symm, rfl⟩)
  · first | (replace h8 := bz_ne0.mp h8) | (replace h8 := bz_eq0.mp h8) | skip
    have ht := k6 t (by omega) (by omega)
    obtain ⟨t1, t2, t3, t4, t5⟩ := ht
    have b1 := tr14_at (i := t) (by omega)
    have b2 := tr14_sh (i := t) (by omega)
    have b3 := rn20_sh (i := t) (by omega)
    have b4 := od26_sh (i := t) (by omega)
    refine V_aload_n (i := 0) F dX_load_11 rfl rfl ?_
    refine V_getr (ci := 6) (C := R_X) (T := T_X) (N := 5) F dX_load_12 (by first | rfl | assumption) rfl (j := 0) (by decide) rfl lfX_41 ?_
    refine V_getrN (ci := 5) (C := R_Y) (T := T_Y) (N := 8) F dX_load_15 (by first | rfl | assumption) rfl (j := 2) (by decide) rfl lfX_129 ?_
    refine V_iload_n (i := 1) F dX_load_18 rfl rfl ?_
    first
      | refine V_aald F dX_load_19 (by first | rfl | assumption) rfl (by omega) (by first | rfl | assumption) ?_
      | refine V_aaldA F dX_load_19 (by first | rfl | assumption) rfl (by omega) (by first | rfl | assumption) ?_
    refine V_getiN (ci := 3) (C := R_N) (T := T_N) (N := 10) F dX_load_20 (by first | rfl | assumption) rfl (j := 5) 5 rfl (by decide) rfl lfX_203 ?_
    refine V_goto F 27 dX_load_23 (by decide) ?_
    exact hR _ _ _ _ dX_load_27 (by first | exact ⟨(cif_t h8).symm, rfl⟩ | exact ⟨(cif_f h8).symm, rfl⟩)
theorem ctX_target {G : vG} {l : Launch} {w : RW} {t : Int} (hc : cOK w) : CTi G l yX_target cX_target 2 .int 1 [.inr 0, .inl t] w (fun r u => r = cif (0 ≤ t ∧ t < w 1 4) (if 0 < w (14 + t.toNat) 7 then w (26 + t.toNat) (w (14 + t.toNat) 8) else -1) (-1) ∧ w = u) := by
  refine CTi.int (by decide) (Nat.le_of_ble_eq_true rfl) ?_
  intro X Q F hX hR
  subst hX
  show V G X 2 Q 0 [some (.inr 0), some (.inl t)] [] w
  obtain ⟨k1, k2, k3, k4, k5, k6⟩ := hc
  refine V_aload_n (i := 0) F dX_target_0 rfl rfl ?_
  refine V_getr (ci := 6) (C := R_X) (T := T_X) (N := 5) F dX_target_1 (by first | rfl | assumption) rfl (j := 0) (by decide) rfl lfX_41 ?_
  refine V_iload_n (i := 1) F dX_target_4 rfl rfl ?_
  refine V_callVi F dX_target_5 lmX_143 miY_hasTrain mvY_hasTrain (ctY_hasTrain) (by decide) (by first | rfl | assumption) rfl rfl (Nat.le_of_ble_eq_true rfl) (fun r u hr => ?_)
  obtain ⟨rfl, rfl⟩ := hr
  refine V_if_eq F 26 dX_target_8 (by decide) (fun h8 => ?_) (fun h8 => ?_)
  · first | (replace h8 := bz_ne0.mp h8) | (replace h8 := bz_eq0.mp h8) | skip
    refine V_iconst F dX_target_26 (by decide) ?_
    exact hR _ _ _ _ dX_target_27 (by first | exact ⟨(cif_t h8).symm, rfl⟩ | exact ⟨(cif_f h8).symm, rfl⟩)
  · first | (replace h8 := bz_ne0.mp h8) | (replace h8 := bz_eq0.mp h8) | skip
    have ht := k6 t (by omega) (by omega)
    obtain ⟨t1, t2, t3, t4, t5⟩ := ht
    have b1 := tr14_at (i := t) (by omega)
    have b2 := tr14_sh (i := t) (by omega)
    have b3 := rn20_sh (i := t) (by omega)
    have b4 := od26_sh (i := t) (by omega)
    refine V_aload_n (i := 0) F dX_target_11 rfl rfl ?_
    refine V_getr (ci := 6) (C := R_X) (T := T_X) (N := 5) F dX_target_12 (by first | rfl | assumption) rfl (j := 0) (by decide) rfl lfX_41 ?_
    refine V_getrN (ci := 5) (C := R_Y) (T := T_Y) (N := 8) F dX_target_15 (by first | rfl | assumption) rfl (j := 2) (by decide) rfl lfX_129 ?_
    refine V_iload_n (i := 1) F dX_target_18 rfl rfl ?_
    first
      | refine V_aald F dX_target_19 (by first | rfl | assumption) rfl (by omega) (by first | rfl | assumption) ?_
      | refine V_aaldA F dX_target_19 (by first | rfl | assumption) rfl (by omega) (by first | rfl | assumption) ?_
    refine V_callVi F dX_target_20 lmX_206 miN_goesFor mvN_goesFor (ctN_goesFor b2 b3 b4 (by omega)) (by decide) (by first | rfl | assumption) rfl rfl (Nat.le_of_ble_eq_true rfl) (fun r u hr => ?_)
    obtain ⟨rfl, rfl⟩ := hr
    refine V_goto F 27 dX_target_23 (by decide) ?_
    exact hR _ _ _ _ dX_target_27 (by first | exact ⟨(cif_t h8).symm, rfl⟩ | exact ⟨(cif_f h8).symm, rfl⟩)
theorem ctX_waiting {G : vG} {l : Launch} {w : RW} {s : Int} (hc : cOK w) : CTi G l yX_waiting cX_waiting 2 .int 1 [.inr 0, .inl s] w (fun r u => r = cif (0 ≤ s ∧ s < w 1 3) (w (7 + s.toNat) 2) (-1) ∧ w = u) := by
  refine CTi.int (by decide) (Nat.le_of_ble_eq_true rfl) ?_
  intro X Q F hX hR
  subst hX
  show V G X 2 Q 0 [some (.inr 0), some (.inl s)] [] w
  obtain ⟨k1, k2, k3, k4, k5, k6⟩ := hc
  refine V_aload_n (i := 0) F dX_waiting_0 rfl rfl ?_
  refine V_getr (ci := 6) (C := R_X) (T := T_X) (N := 5) F dX_waiting_1 (by first | rfl | assumption) rfl (j := 0) (by decide) rfl lfX_41 ?_
  refine V_iload_n (i := 1) F dX_waiting_4 rfl rfl ?_
  refine V_callVi F dX_waiting_5 lmX_146 miY_isStation mvY_isStation (ctY_isStation) (by decide) (by first | rfl | assumption) rfl rfl (Nat.le_of_ble_eq_true rfl) (fun r u hr => ?_)
  obtain ⟨rfl, rfl⟩ := hr
  refine V_if_eq F 26 dX_waiting_8 (by decide) (fun h8 => ?_) (fun h8 => ?_)
  · first | (replace h8 := bz_ne0.mp h8) | (replace h8 := bz_eq0.mp h8) | skip
    refine V_iconst F dX_waiting_26 (by decide) ?_
    exact hR _ _ _ _ dX_waiting_27 (by first | exact ⟨(cif_t h8).symm, rfl⟩ | exact ⟨(cif_f h8).symm, rfl⟩)
  · first | (replace h8 := bz_ne0.mp h8) | (replace h8 := bz_eq0.mp h8) | skip
    have b1 := st7_at (i := s) (by omega)
    have b2 := st7_sh (i := s) (by omega)
    refine V_aload_n (i := 0) F dX_waiting_11 rfl rfl ?_
    refine V_getr (ci := 6) (C := R_X) (T := T_X) (N := 5) F dX_waiting_12 (by first | rfl | assumption) rfl (j := 0) (by decide) rfl lfX_41 ?_
    refine V_getrN (ci := 5) (C := R_Y) (T := T_Y) (N := 8) F dX_waiting_15 (by first | rfl | assumption) rfl (j := 1) (by decide) rfl lfX_106 ?_
    refine V_iload_n (i := 1) F dX_waiting_18 rfl rfl ?_
    first
      | refine V_aald F dX_waiting_19 (by first | rfl | assumption) rfl (by omega) (by first | rfl | assumption) ?_
      | refine V_aaldA F dX_waiting_19 (by first | rfl | assumption) rfl (by omega) (by first | rfl | assumption) ?_
    refine V_getiN (ci := 1) (C := R_T) (T := T_T) (N := 3) F dX_waiting_20 (by first | rfl | assumption) rfl (j := 2) 2 rfl (by decide) rfl lfX_209 ?_
    refine V_goto F 27 dX_waiting_23 (by decide) ?_
    exact hR _ _ _ _ dX_waiting_27 (by first | exact ⟨(cif_t h8).symm, rfl⟩ | exact ⟨(cif_f h8).symm, rfl⟩)
theorem ctX_produced {G : vG} {l : Launch} {w : RW}  : CTi G l yX_produced cX_produced 1 .int 0 [.inr 0] w (fun r u => r = w 1 5 ∧ w = u) := by
  refine CTi.int (by decide) (Nat.le_of_ble_eq_true rfl) ?_
  intro X Q F hX hR
  subst hX
  show V G X 1 Q 0 [some (.inr 0)] [] w
  refine V_aload_n (i := 0) F dX_produced_0 rfl rfl ?_
  refine V_getr (ci := 6) (C := R_X) (T := T_X) (N := 5) F dX_produced_1 (by first | rfl | assumption) rfl (j := 0) (by decide) rfl lfX_41 ?_
  refine V_getiN (ci := 5) (C := R_Y) (T := T_Y) (N := 8) F dX_produced_4 (by first | rfl | assumption) rfl (j := 5) 5 rfl (by decide) rfl lfX_210 ?_
  exact hR _ _ _ _ dX_produced_7 (⟨rfl, rfl⟩)
theorem ctX_delivered {G : vG} {l : Launch} {w : RW}  : CTi G l yX_delivered cX_delivered 1 .int 0 [.inr 0] w (fun r u => r = w 1 6 ∧ w = u) := by
  refine CTi.int (by decide) (Nat.le_of_ble_eq_true rfl) ?_
  intro X Q F hX hR
  subst hX
  show V G X 1 Q 0 [some (.inr 0)] [] w
  refine V_aload_n (i := 0) F dX_delivered_0 rfl rfl ?_
  refine V_getr (ci := 6) (C := R_X) (T := T_X) (N := 5) F dX_delivered_1 (by first | rfl | assumption) rfl (j := 0) (by decide) rfl lfX_41 ?_
  refine V_getiN (ci := 5) (C := R_Y) (T := T_Y) (N := 8) F dX_delivered_4 (by first | rfl | assumption) rfl (j := 6) 6 rfl (by decide) rfl lfX_213 ?_
  exact hR _ _ _ _ dX_delivered_7 (⟨rfl, rfl⟩)
theorem ctX_clock {G : vG} {l : Launch} {w : RW}  : CTi G l yX_clock cX_clock 1 .int 0 [.inr 0] w (fun r u => r = w 1 7 ∧ w = u) := by
  refine CTi.int (by decide) (Nat.le_of_ble_eq_true rfl) ?_
  intro X Q F hX hR
  subst hX
  show V G X 1 Q 0 [some (.inr 0)] [] w
  refine V_aload_n (i := 0) F dX_clock_0 rfl rfl ?_
  refine V_getr (ci := 6) (C := R_X) (T := T_X) (N := 5) F dX_clock_1 (by first | rfl | assumption) rfl (j := 0) (by decide) rfl lfX_41 ?_
  refine V_getiN (ci := 5) (C := R_Y) (T := T_Y) (N := 8) F dX_clock_4 (by first | rfl | assumption) rfl (j := 7) 7 rfl (by decide) rfl lfX_181 ?_
  exact hR _ _ _ _ dX_clock_7 (⟨rfl, rfl⟩)
def trOK (w : RW) (x y p b : Int) : Prop := isT (w 2 0) (w 2 1) x y ∧ (0 ≤ p ∧ p < 6) ∧ ¬ hdT w (x + 8 * y) ∧ ¬ bz (tb (w 3 (x + 8 * y)) p) = b ∧ ¬ (b = 0 ∧ onS w (x + 8 * y + 64 * p))
def trW (w : RW) (x y p : Int) : RW := upw (upw (upw w 3 (x + 8 * y) (ixor (w 3 (x + 8 * y)) (p2 p))) 4 (x + 8 * y + 64 * p) 0) 63 1 0
theorem ctX_track {G : vG} {l : Launch} {w : RW} {x y p b : Int} (hb : b = 0 ∨ b = 1) (hc : cOK w) : CTi G l yX_track cX_track 7 .boolean 2 [.inr 0, .inl x, .inl y, .inl p, .inl b] w (fun r u => (trOK w x y p b ∧ r = 1 ∧ trW w x y p = u) ∨ (¬ trOK w x y p b ∧ r = 0 ∧ w = u)) := by
  refine CTi.bool (by decide) (Nat.le_of_ble_eq_true rfl) ?_
  intro X Q F hX hR
  subst hX
  show V G X 7 Q 0 [some (.inr 0), some (.inl x), some (.inl y), some (.inl p), some (.inl b), none, none] [] w
  obtain ⟨k1, k2, k3, k4, k5, k6⟩ := hc
  refine V_aload_n (i := 0) F dX_track_0 rfl rfl ?_
  refine V_getr (ci := 6) (C := R_X) (T := T_X) (N := 5) F dX_track_1 (by first | rfl | assumption) rfl (j := 0) (by decide) rfl lfX_41 ?_
  refine V_getrN (ci := 5) (C := R_Y) (T := T_Y) (N := 8) F dX_track_4 (by first | rfl | assumption) rfl (j := 0) (by decide) rfl lfX_48 ?_
  refine V_iload_n (i := 1) F dX_track_7 rfl rfl ?_
  refine V_iload_n (i := 2) F dX_track_8 rfl rfl ?_
  refine V_callVi F dX_track_9 lmX_52 miG_hasTile mvG_hasTile (ctG_hasTile) (by decide) (by first | rfl | assumption) rfl rfl (Nat.le_of_ble_eq_true rfl) (fun r u hr => ?_)
  obtain ⟨rfl, rfl⟩ := hr
  refine V_if_eq F 25 dX_track_12 (by decide) (fun h12 => ?_) (fun h12 => ?_)
  · first | (replace h12 := bz_ne0.mp h12) | (replace h12 := bz_eq0.mp h12) | skip
    refine V_iconst F dX_track_25 (by decide) ?_
    exact hR _ _ _ _ dX_track_26 (by first | exact Or.inl rfl | exact Or.inr rfl | exact bz_01 _ | assumption) (by
      first
      | exact Or.inr ⟨fun z => h12 z.1, rfl, rfl⟩
      | exact Or.inr ⟨fun z => by have := z.2.1; omega, rfl, rfl⟩
      | exact Or.inr ⟨fun z => z.2.2.1 h54, rfl, rfl⟩
      | exact Or.inr ⟨fun z => z.2.2.2.1 h72, rfl, rfl⟩
      | exact Or.inr ⟨fun z => z.2.2.2.2 ⟨h79, Classical.byContradiction (fun q => h92 (hon.mpr q))⟩, rfl, rfl⟩
      | exact Or.inl ⟨⟨h12, by omega, h54, h72, fun z => h79 z.1⟩, rfl, rfl⟩
      | exact Or.inl ⟨⟨h12, by omega, h54, h72, fun z => (hon.mp h92) z.2⟩, rfl, rfl⟩)
  · first | (replace h12 := bz_ne0.mp h12) | (replace h12 := bz_eq0.mp h12) | skip
    have hh := h12
    unfold isT at hh
    refine V_iload_n (i := 3) F dX_track_15 rfl rfl ?_
    refine V_if_lt F 25 dX_track_16 (by decide) (fun h16 => ?_) (fun h16 => ?_)
    · first | (replace h16 := bz_ne0.mp h16) | (replace h16 := bz_eq0.mp h16) | skip
      refine V_iconst F dX_track_25 (by decide) ?_
      exact hR _ _ _ _ dX_track_26 (by first | exact Or.inl rfl | exact Or.inr rfl | exact bz_01 _ | assumption) (by
        first
        | exact Or.inr ⟨fun z => h12 z.1, rfl, rfl⟩
        | exact Or.inr ⟨fun z => by have := z.2.1; omega, rfl, rfl⟩
        | exact Or.inr ⟨fun z => z.2.2.1 h54, rfl, rfl⟩
        | exact Or.inr ⟨fun z => z.2.2.2.1 h72, rfl, rfl⟩
        | exact Or.inr ⟨fun z => z.2.2.2.2 ⟨h79, Classical.byContradiction (fun q => h92 (hon.mpr q))⟩, rfl, rfl⟩
        | exact Or.inl ⟨⟨h12, by omega, h54, h72, fun z => h79 z.1⟩, rfl, rfl⟩
        | exact Or.inl ⟨⟨h12, by omega, h54, h72, fun z => (hon.mp h92) z.2⟩, rfl, rfl⟩)
    · first | (replace h16 := bz_ne0.mp h16) | (replace h16 := bz_eq0.mp h16) | skip
      refine V_iload_n (i := 3) F dX_track_19 rfl rfl ?_
      refine V_bipush F dX_track_20 (by decide) ?_
      refine V_icmp_lt F 27 dX_track_22 (by decide) (fun h22 => ?_) (fun h22 => ?_)
      · first | (replace h22 := bz_ne0.mp h22) | (replace h22 := bz_eq0.mp h22) | skip
        refine V_iload_n (i := 1) F dX_track_27 rfl rfl ?_
        refine V_iload_n (i := 2) F dX_track_28 rfl rfl ?_
        refine V_callSi F dX_track_29 lmX_58 miS_tile msS_tile (ctS_tile (by omega)) (by decide) rfl (Nat.le_of_ble_eq_true rfl) (fun r u hr => ?_)
        obtain ⟨rfl, rfl⟩ := hr
        refine V_istore F dX_track_32 (by decide) (by simp only [List.set_cons_zero, List.set_cons_succ]; exact rfl) ?_
        refine V_iload F dX_track_34 rfl ?_
        refine V_iload_n (i := 3) F dX_track_36 rfl rfl ?_
        refine V_callSi F dX_track_37 lmX_63 miS_place msS_place (ctS_place (by omega)) (by decide) rfl (Nat.le_of_ble_eq_true rfl) (fun r u hr => ?_)
        obtain ⟨rfl, rfl⟩ := hr
        refine V_istore F dX_track_40 (by decide) (by simp only [List.set_cons_zero, List.set_cons_succ]; exact rfl) ?_
        refine V_aload_n (i := 0) F dX_track_42 rfl rfl ?_
        refine V_getr (ci := 6) (C := R_X) (T := T_X) (N := 5) F dX_track_43 (by first | rfl | assumption) rfl (j := 0) (by decide) rfl lfX_41 ?_
        refine V_getrN (ci := 5) (C := R_Y) (T := T_Y) (N := 8) F dX_track_46 (by first | rfl | assumption) rfl (j := 0) (by decide) rfl lfX_48 ?_
        refine V_iload F dX_track_49 rfl ?_
        refine V_callVi F dX_track_51 lmX_66 miG_isHeld mvG_isHeld (ctG_isHeld (by omega)) (by decide) (by first | rfl | assumption) rfl rfl (Nat.le_of_ble_eq_true rfl) (fun r u hr => ?_)
        obtain ⟨rfl, rfl⟩ := hr
        refine V_if_ne F 75 dX_track_54 (by decide) (fun h54 => ?_) (fun h54 => ?_)
        · first | (replace h54 := bz_ne0.mp h54) | (replace h54 := bz_eq0.mp h54) | skip
          refine V_iconst F dX_track_75 (by decide) ?_
          exact hR _ _ _ _ dX_track_76 (by first | exact Or.inl rfl | exact Or.inr rfl | exact bz_01 _ | assumption) (by
            first
            | exact Or.inr ⟨fun z => h12 z.1, rfl, rfl⟩
            | exact Or.inr ⟨fun z => by have := z.2.1; omega, rfl, rfl⟩
            | exact Or.inr ⟨fun z => z.2.2.1 h54, rfl, rfl⟩
            | exact Or.inr ⟨fun z => z.2.2.2.1 h72, rfl, rfl⟩
            | exact Or.inr ⟨fun z => z.2.2.2.2 ⟨h79, Classical.byContradiction (fun q => h92 (hon.mpr q))⟩, rfl, rfl⟩
            | exact Or.inl ⟨⟨h12, by omega, h54, h72, fun z => h79 z.1⟩, rfl, rfl⟩
            | exact Or.inl ⟨⟨h12, by omega, h54, h72, fun z => (hon.mp h92) z.2⟩, rfl, rfl⟩)
        · first | (replace h54 := bz_ne0.mp h54) | (replace h54 := bz_eq0.mp h54) | skip
          refine V_aload_n (i := 0) F dX_track_57 rfl rfl ?_
          refine V_getr (ci := 6) (C := R_X) (T := T_X) (N := 5) F dX_track_58 (by first | rfl | assumption) rfl (j := 0) (by decide) rfl lfX_41 ?_
          refine V_getrN (ci := 5) (C := R_Y) (T := T_Y) (N := 8) F dX_track_61 (by first | rfl | assumption) rfl (j := 0) (by decide) rfl lfX_48 ?_
          refine V_iload F dX_track_64 rfl ?_
          refine V_iload_n (i := 3) F dX_track_66 rfl rfl ?_
          refine V_callVi F dX_track_67 lmX_70 miG_hasPiece mvG_hasPiece (ctG_hasPiece (by omega) (by omega) (k2 _ (by omega) (by omega)).1) (by decide) (by first | rfl | assumption) rfl rfl (Nat.le_of_ble_eq_true rfl) (fun r u hr => ?_)
          obtain ⟨rfl, rfl⟩ := hr
          refine V_iload F dX_track_70 rfl ?_
          refine V_icmp_ne F 77 dX_track_72 (by decide) (fun h72 => ?_) (fun h72 => ?_)
          · first | (replace h72 := bz_ne0.mp h72) | (replace h72 := bz_eq0.mp h72) | skip
            refine V_iload F dX_track_77 rfl ?_
            refine V_if_ne F 97 dX_track_79 (by decide) (fun h79 => ?_) (fun h79 => ?_)
            · first | (replace h79 := bz_ne0.mp h79) | (replace h79 := bz_eq0.mp h79) | skip
              refine V_aload_n (i := 0) F dX_track_97 rfl rfl ?_
              refine V_getr (ci := 6) (C := R_X) (T := T_X) (N := 5) F dX_track_98 (by first | rfl | assumption) rfl (j := 0) (by decide) rfl lfX_41 ?_
              refine V_getrN (ci := 5) (C := R_Y) (T := T_Y) (N := 8) F dX_track_101 (by first | rfl | assumption) rfl (j := 0) (by decide) rfl lfX_48 ?_
              refine V_getrN (ci := 0) (C := R_G) (T := T_G) (N := 5) F dX_track_104 (by first | rfl | assumption) rfl (j := 2) (by decide) rfl lfX_77 ?_
              refine V_iload F dX_track_107 rfl ?_
              refine V_dup2 F dX_track_109 ?_
              first
                | refine V_sald F dX_track_110 (by decide) (by omega) (stt_in _ _) ?_
                | refine V_iald F dX_track_110 (by first | rfl | assumption) rfl (by omega) ?_
              refine V_iconst F dX_track_111 (by decide) ?_
              refine V_iload_n (i := 3) F dX_track_112 rfl rfl ?_
              refine V_ishl F _ dX_track_113 (ishl_1 (by omega)) ?_
              refine V_ixor F _ dX_track_114 rfl ?_
              refine V_iast F dX_track_115 (by first | rfl | assumption) rfl (by omega) ?_
              refine V_aload_n (i := 0) F dX_track_116 rfl rfl ?_
              refine V_getr (ci := 6) (C := R_X) (T := T_X) (N := 5) F dX_track_117 (by first | rfl | assumption) rfl (j := 0) (by decide) rfl lfX_41 ?_
              refine V_getrN (ci := 5) (C := R_Y) (T := T_Y) (N := 8) F dX_track_120 (by first | rfl | assumption) rfl (j := 0) (by decide) rfl lfX_48 ?_
              refine V_getrN (ci := 0) (C := R_G) (T := T_G) (N := 5) F dX_track_123 (by first | rfl | assumption) rfl (j := 3) (by decide) rfl lfX_80 ?_
              refine V_iload F dX_track_126 rfl ?_
              refine V_iconst F dX_track_128 (by decide) ?_
              refine V_iast F dX_track_129 (by first | rfl | assumption) rfl (by omega) ?_
              refine V_aload_n (i := 0) F dX_track_130 rfl rfl ?_
              refine V_getr (ci := 6) (C := R_X) (T := T_X) (N := 5) F dX_track_131 (by first | rfl | assumption) rfl (j := 2) (by decide) rfl lfX_12 ?_
              refine V_callVv F dX_track_134 lmX_83 miW_forget mvW_forget (ctW_forget) (by decide) (by first | rfl | assumption) rfl rfl (Nat.le_of_ble_eq_true rfl) (fun u hr => ?_)
              subst hr
              refine V_iconst F dX_track_137 (by decide) ?_
              exact hR _ _ _ _ dX_track_138 (by first | exact Or.inl rfl | exact Or.inr rfl | exact bz_01 _ | assumption) (by
                first
                | exact Or.inr ⟨fun z => h12 z.1, rfl, rfl⟩
                | exact Or.inr ⟨fun z => by have := z.2.1; omega, rfl, rfl⟩
                | exact Or.inr ⟨fun z => z.2.2.1 h54, rfl, rfl⟩
                | exact Or.inr ⟨fun z => z.2.2.2.1 h72, rfl, rfl⟩
                | exact Or.inr ⟨fun z => z.2.2.2.2 ⟨h79, Classical.byContradiction (fun q => h92 (hon.mpr q))⟩, rfl, rfl⟩
                | exact Or.inl ⟨⟨h12, by omega, h54, h72, fun z => h79 z.1⟩, rfl, rfl⟩
                | exact Or.inl ⟨⟨h12, by omega, h54, h72, fun z => (hon.mp h92) z.2⟩, rfl, rfl⟩)
            · first | (replace h79 := bz_ne0.mp h79) | (replace h79 := bz_eq0.mp h79) | skip
              refine V_aload_n (i := 0) F dX_track_82 rfl rfl ?_
              refine V_getr (ci := 6) (C := R_X) (T := T_X) (N := 5) F dX_track_83 (by first | rfl | assumption) rfl (j := 0) (by decide) rfl lfX_41 ?_
              refine V_iload F dX_track_86 rfl ?_
              refine V_callVi F dX_track_88 lmX_73 miY_stationOn mvY_stationOn (ctY_stationOn (by omega)) (by decide) (by first | rfl | assumption) rfl rfl (Nat.le_of_ble_eq_true rfl) (fun r u hr => ?_)
              obtain ⟨hon, rfl⟩ := hr
              refine V_iconst F dX_track_91 (by decide) ?_
              refine V_icmp_eq F 97 dX_track_92 (by decide) (fun h92 => ?_) (fun h92 => ?_)
              · first | (replace h92 := bz_ne0.mp h92) | (replace h92 := bz_eq0.mp h92) | skip
                refine V_aload_n (i := 0) F dX_track_97 rfl rfl ?_
                refine V_getr (ci := 6) (C := R_X) (T := T_X) (N := 5) F dX_track_98 (by first | rfl | assumption) rfl (j := 0) (by decide) rfl lfX_41 ?_
                refine V_getrN (ci := 5) (C := R_Y) (T := T_Y) (N := 8) F dX_track_101 (by first | rfl | assumption) rfl (j := 0) (by decide) rfl lfX_48 ?_
                refine V_getrN (ci := 0) (C := R_G) (T := T_G) (N := 5) F dX_track_104 (by first | rfl | assumption) rfl (j := 2) (by decide) rfl lfX_77 ?_
                refine V_iload F dX_track_107 rfl ?_
                refine V_dup2 F dX_track_109 ?_
                first
                  | refine V_sald F dX_track_110 (by decide) (by omega) (stt_in _ _) ?_
                  | refine V_iald F dX_track_110 (by first | rfl | assumption) rfl (by omega) ?_
                refine V_iconst F dX_track_111 (by decide) ?_
                refine V_iload_n (i := 3) F dX_track_112 rfl rfl ?_
                refine V_ishl F _ dX_track_113 (ishl_1 (by omega)) ?_
                refine V_ixor F _ dX_track_114 rfl ?_
                refine V_iast F dX_track_115 (by first | rfl | assumption) rfl (by omega) ?_
                refine V_aload_n (i := 0) F dX_track_116 rfl rfl ?_
                refine V_getr (ci := 6) (C := R_X) (T := T_X) (N := 5) F dX_track_117 (by first | rfl | assumption) rfl (j := 0) (by decide) rfl lfX_41 ?_
                refine V_getrN (ci := 5) (C := R_Y) (T := T_Y) (N := 8) F dX_track_120 (by first | rfl | assumption) rfl (j := 0) (by decide) rfl lfX_48 ?_
                refine V_getrN (ci := 0) (C := R_G) (T := T_G) (N := 5) F dX_track_123 (by first | rfl | assumption) rfl (j := 3) (by decide) rfl lfX_80 ?_
                refine V_iload F dX_track_126 rfl ?_
                refine V_iconst F dX_track_128 (by decide) ?_
                refine V_iast F dX_track_129 (by first | rfl | assumption) rfl (by omega) ?_
                refine V_aload_n (i := 0) F dX_track_130 rfl rfl ?_
                refine V_getr (ci := 6) (C := R_X) (T := T_X) (N := 5) F dX_track_131 (by first | rfl | assumption) rfl (j := 2) (by decide) rfl lfX_12 ?_
                refine V_callVv F dX_track_134 lmX_83 miW_forget mvW_forget (ctW_forget) (by decide) (by first | rfl | assumption) rfl rfl (Nat.le_of_ble_eq_true rfl) (fun u hr => ?_)
                subst hr
                refine V_iconst F dX_track_137 (by decide) ?_
                exact hR _ _ _ _ dX_track_138 (by first | exact Or.inl rfl | exact Or.inr rfl | exact bz_01 _ | assumption) (by
                  first
                  | exact Or.inr ⟨fun z => h12 z.1, rfl, rfl⟩
                  | exact Or.inr ⟨fun z => by have := z.2.1; omega, rfl, rfl⟩
                  | exact Or.inr ⟨fun z => z.2.2.1 h54, rfl, rfl⟩
                  | exact Or.inr ⟨fun z => z.2.2.2.1 h72, rfl, rfl⟩
                  | exact Or.inr ⟨fun z => z.2.2.2.2 ⟨h79, Classical.byContradiction (fun q => h92 (hon.mpr q))⟩, rfl, rfl⟩
                  | exact Or.inl ⟨⟨h12, by omega, h54, h72, fun z => h79 z.1⟩, rfl, rfl⟩
                  | exact Or.inl ⟨⟨h12, by omega, h54, h72, fun z => (hon.mp h92) z.2⟩, rfl, rfl⟩)
              · first | (replace h92 := bz_ne0.mp h92) | (replace h92 := bz_eq0.mp h92) | skip
                refine V_iconst F dX_track_95 (by decide) ?_
                exact hR _ _ _ _ dX_track_96 (by first | exact Or.inl rfl | exact Or.inr rfl | exact bz_01 _ | assumption) (by
                  first
                  | exact Or.inr ⟨fun z => h12 z.1, rfl, rfl⟩
                  | exact Or.inr ⟨fun z => by have := z.2.1; omega, rfl, rfl⟩
                  | exact Or.inr ⟨fun z => z.2.2.1 h54, rfl, rfl⟩
                  | exact Or.inr ⟨fun z => z.2.2.2.1 h72, rfl, rfl⟩
                  | exact Or.inr ⟨fun z => z.2.2.2.2 ⟨h79, Classical.byContradiction (fun q => h92 (hon.mpr q))⟩, rfl, rfl⟩
                  | exact Or.inl ⟨⟨h12, by omega, h54, h72, fun z => h79 z.1⟩, rfl, rfl⟩
                  | exact Or.inl ⟨⟨h12, by omega, h54, h72, fun z => (hon.mp h92) z.2⟩, rfl, rfl⟩)
          · first | (replace h72 := bz_ne0.mp h72) | (replace h72 := bz_eq0.mp h72) | skip
            refine V_iconst F dX_track_75 (by decide) ?_
            exact hR _ _ _ _ dX_track_76 (by first | exact Or.inl rfl | exact Or.inr rfl | exact bz_01 _ | assumption) (by
              first
              | exact Or.inr ⟨fun z => h12 z.1, rfl, rfl⟩
              | exact Or.inr ⟨fun z => by have := z.2.1; omega, rfl, rfl⟩
              | exact Or.inr ⟨fun z => z.2.2.1 h54, rfl, rfl⟩
              | exact Or.inr ⟨fun z => z.2.2.2.1 h72, rfl, rfl⟩
              | exact Or.inr ⟨fun z => z.2.2.2.2 ⟨h79, Classical.byContradiction (fun q => h92 (hon.mpr q))⟩, rfl, rfl⟩
              | exact Or.inl ⟨⟨h12, by omega, h54, h72, fun z => h79 z.1⟩, rfl, rfl⟩
              | exact Or.inl ⟨⟨h12, by omega, h54, h72, fun z => (hon.mp h92) z.2⟩, rfl, rfl⟩)
      · first | (replace h22 := bz_ne0.mp h22) | (replace h22 := bz_eq0.mp h22) | skip
        refine V_iconst F dX_track_25 (by decide) ?_
        exact hR _ _ _ _ dX_track_26 (by first | exact Or.inl rfl | exact Or.inr rfl | exact bz_01 _ | assumption) (by
          first
          | exact Or.inr ⟨fun z => h12 z.1, rfl, rfl⟩
          | exact Or.inr ⟨fun z => by have := z.2.1; omega, rfl, rfl⟩
          | exact Or.inr ⟨fun z => z.2.2.1 h54, rfl, rfl⟩
          | exact Or.inr ⟨fun z => z.2.2.2.1 h72, rfl, rfl⟩
          | exact Or.inr ⟨fun z => z.2.2.2.2 ⟨h79, Classical.byContradiction (fun q => h92 (hon.mpr q))⟩, rfl, rfl⟩
          | exact Or.inl ⟨⟨h12, by omega, h54, h72, fun z => h79 z.1⟩, rfl, rfl⟩
          | exact Or.inl ⟨⟨h12, by omega, h54, h72, fun z => (hon.mp h92) z.2⟩, rfl, rfl⟩)
def sgOK (w : RW) (x y p e b : Int) : Prop := hTr w x y p ∧ hsE p e ∧ ¬ hdT w (x + 8 * y) ∧ ¬ onS w (x + 8 * y + 64 * p) ∧ ¬ bz (tb (w 4 (x + 8 * y + 64 * p)) e) = b
def sgW (w : RW) (x y p e : Int) : RW := upw (upw w 4 (x + 8 * y + 64 * p) (ixor (w 4 (x + 8 * y + 64 * p)) (p2 e))) 63 1 0
theorem hsE_rng {p e : Int} (hp : 0 ≤ p ∧ p < 6) (h : hsE p e) : 0 ≤ e ∧ e < 4 := by
  have h0 := stt_e (i := 0) (by omega) hp
  have h1 := stt_e (i := 1) (by omega) hp
  unfold hsE at h
  omega
theorem ctX_signal {G : vG} {l : Launch} {w : RW} {x y p e b : Int} (hb : b = 0 ∨ b = 1) (hc : cOK w) : CTi G l yX_signal cX_signal 8 .boolean 2 [.inr 0, .inl x, .inl y, .inl p, .inl e, .inl b] w (fun r u => (sgOK w x y p e b ∧ r = 1 ∧ sgW w x y p e = u) ∨ (¬ sgOK w x y p e b ∧ r = 0 ∧ w = u)) := by
  refine CTi.bool (by decide) (Nat.le_of_ble_eq_true rfl) ?_
  intro X Q F hX hR
  subst hX
  show V G X 8 Q 0 [some (.inr 0), some (.inl x), some (.inl y), some (.inl p), some (.inl e), some (.inl b), none, none] [] w
  obtain ⟨k1, k2, k3, k4, k5, k6⟩ := hc
  refine V_aload_n (i := 0) F dX_signal_0 rfl rfl ?_
  refine V_getr (ci := 6) (C := R_X) (T := T_X) (N := 5) F dX_signal_1 (by first | rfl | assumption) rfl (j := 0) (by decide) rfl lfX_41 ?_
  refine V_getrN (ci := 5) (C := R_Y) (T := T_Y) (N := 8) F dX_signal_4 (by first | rfl | assumption) rfl (j := 0) (by decide) rfl lfX_48 ?_
  refine V_iload_n (i := 1) F dX_signal_7 rfl rfl ?_
  refine V_iload_n (i := 2) F dX_signal_8 rfl rfl ?_
  refine V_iload_n (i := 3) F dX_signal_9 rfl rfl ?_
  refine V_callVi F dX_signal_10 lmX_86 miG_hasTrack mvG_hasTrack (ctG_hasTrack (by omega) (fun t t1 t2 => (k2 t t1 t2).1)) (by decide) (by first | rfl | assumption) rfl rfl (Nat.le_of_ble_eq_true rfl) (fun r u hr => ?_)
  obtain ⟨rfl, rfl⟩ := hr
  show V _ _ _ _ _ _ (.inl (bz (hTr w x y p)) :: _) _
  refine V_if_eq F 25 dX_signal_13 (by decide) (fun h13 => ?_) (fun h13 => ?_)
  · first | (replace h13 := bz_ne0.mp h13) | (replace h13 := bz_eq0.mp h13) | skip
    refine V_iconst F dX_signal_25 (by decide) ?_
    exact hR _ _ _ _ dX_signal_26 (by first | exact Or.inl rfl | exact Or.inr rfl | exact bz_01 _ | assumption) (by
      first
      | exact Or.inr ⟨fun z => h13 z.1, rfl, rfl⟩
      | exact Or.inr ⟨fun z => h22 z.2.1, rfl, rfl⟩
      | exact Or.inr ⟨fun z => z.2.2.1 h54, rfl, rfl⟩
      | exact Or.inr ⟨fun z => h67 (hon.mpr z.2.2.2.1), rfl, rfl⟩
      | exact Or.inr ⟨fun z => z.2.2.2.2 h91, rfl, rfl⟩
      | exact Or.inl ⟨⟨h13, h22, h54, hon.mp h67, h91⟩, rfl, rfl⟩)
  · first | (replace h13 := bz_ne0.mp h13) | (replace h13 := bz_eq0.mp h13) | skip
    have hh := h13.1
    unfold isT at hh
    have hp := h13.2.1
    refine V_iload_n (i := 3) F dX_signal_16 rfl rfl ?_
    refine V_iload F dX_signal_17 rfl ?_
    refine V_callSi F dX_signal_19 lmX_90 miS_hasEdge msS_hasEdge (ctS_hasEdge (by omega)) (by decide) rfl (Nat.le_of_ble_eq_true rfl) (fun r u hr => ?_)
    obtain ⟨rfl, rfl⟩ := hr
    refine V_if_ne F 27 dX_signal_22 (by decide) (fun h22 => ?_) (fun h22 => ?_)
    · first | (replace h22 := bz_ne0.mp h22) | (replace h22 := bz_eq0.mp h22) | skip
      have hE := hsE_rng hp h22
      have m1 : (x + 8 * y + 64 * p + 512 * e) % 512 = x + 8 * y + 64 * p := by omega
      have m2 : (x + 8 * y + 64 * p + 512 * e) / 512 = e := by omega
      refine V_iload_n (i := 1) F dX_signal_27 rfl rfl ?_
      refine V_iload_n (i := 2) F dX_signal_28 rfl rfl ?_
      refine V_callSi F dX_signal_29 lmX_58 miS_tile msS_tile (ctS_tile (by omega)) (by decide) rfl (Nat.le_of_ble_eq_true rfl) (fun r u hr => ?_)
      obtain ⟨rfl, rfl⟩ := hr
      refine V_istore F dX_signal_32 (by decide) (by simp only [List.set_cons_zero, List.set_cons_succ]; exact rfl) ?_
      refine V_iload F dX_signal_34 rfl ?_
      refine V_iload_n (i := 3) F dX_signal_36 rfl rfl ?_
      refine V_callSi F dX_signal_37 lmX_63 miS_place msS_place (ctS_place (by omega)) (by decide) rfl (Nat.le_of_ble_eq_true rfl) (fun r u hr => ?_)
      obtain ⟨rfl, rfl⟩ := hr
      refine V_istore F dX_signal_40 (by decide) (by simp only [List.set_cons_zero, List.set_cons_succ]; exact rfl) ?_
      refine V_aload_n (i := 0) F dX_signal_42 rfl rfl ?_
      refine V_getr (ci := 6) (C := R_X) (T := T_X) (N := 5) F dX_signal_43 (by first | rfl | assumption) rfl (j := 0) (by decide) rfl lfX_41 ?_
      refine V_getrN (ci := 5) (C := R_Y) (T := T_Y) (N := 8) F dX_signal_46 (by first | rfl | assumption) rfl (j := 0) (by decide) rfl lfX_48 ?_
      refine V_iload F dX_signal_49 rfl ?_
      refine V_callVi F dX_signal_51 lmX_66 miG_isHeld mvG_isHeld (ctG_isHeld (by omega)) (by decide) (by first | rfl | assumption) rfl rfl (Nat.le_of_ble_eq_true rfl) (fun r u hr => ?_)
      obtain ⟨rfl, rfl⟩ := hr
      refine V_if_ne F 70 dX_signal_54 (by decide) (fun h54 => ?_) (fun h54 => ?_)
      · first | (replace h54 := bz_ne0.mp h54) | (replace h54 := bz_eq0.mp h54) | skip
        refine V_iconst F dX_signal_70 (by decide) ?_
        exact hR _ _ _ _ dX_signal_71 (by first | exact Or.inl rfl | exact Or.inr rfl | exact bz_01 _ | assumption) (by
          first
          | exact Or.inr ⟨fun z => h13 z.1, rfl, rfl⟩
          | exact Or.inr ⟨fun z => h22 z.2.1, rfl, rfl⟩
          | exact Or.inr ⟨fun z => z.2.2.1 h54, rfl, rfl⟩
          | exact Or.inr ⟨fun z => h67 (hon.mpr z.2.2.2.1), rfl, rfl⟩
          | exact Or.inr ⟨fun z => z.2.2.2.2 h91, rfl, rfl⟩
          | exact Or.inl ⟨⟨h13, h22, h54, hon.mp h67, h91⟩, rfl, rfl⟩)
      · first | (replace h54 := bz_ne0.mp h54) | (replace h54 := bz_eq0.mp h54) | skip
        refine V_aload_n (i := 0) F dX_signal_57 rfl rfl ?_
        refine V_getr (ci := 6) (C := R_X) (T := T_X) (N := 5) F dX_signal_58 (by first | rfl | assumption) rfl (j := 0) (by decide) rfl lfX_41 ?_
        refine V_iload F dX_signal_61 rfl ?_
        refine V_callVi F dX_signal_63 lmX_73 miY_stationOn mvY_stationOn (ctY_stationOn (by omega)) (by decide) (by first | rfl | assumption) rfl rfl (Nat.le_of_ble_eq_true rfl) (fun r u hr => ?_)
        obtain ⟨hon, rfl⟩ := hr
        refine V_iconst F dX_signal_66 (by decide) ?_
        refine V_icmp_eq F 72 dX_signal_67 (by decide) (fun h67 => ?_) (fun h67 => ?_)
        · first | (replace h67 := bz_ne0.mp h67) | (replace h67 := bz_eq0.mp h67) | skip
          refine V_aload_n (i := 0) F dX_signal_72 rfl rfl ?_
          refine V_getr (ci := 6) (C := R_X) (T := T_X) (N := 5) F dX_signal_73 (by first | rfl | assumption) rfl (j := 0) (by decide) rfl lfX_41 ?_
          refine V_getrN (ci := 5) (C := R_Y) (T := T_Y) (N := 8) F dX_signal_76 (by first | rfl | assumption) rfl (j := 0) (by decide) rfl lfX_48 ?_
          refine V_iload F dX_signal_79 rfl ?_
          refine V_iload F dX_signal_81 rfl ?_
          refine V_callSi F dX_signal_83 lmX_93 miS_run msS_run (ctS_run (by omega)) (by decide) rfl (Nat.le_of_ble_eq_true rfl) (fun r u hr => ?_)
          obtain ⟨rfl, rfl⟩ := hr
          refine V_callVi F dX_signal_86 lmX_96 miG_isLit mvG_isLit (ctG_isLit (by omega) (by omega) (k3 _ (by omega) (by omega)).1) (by decide) (by first | rfl | assumption) rfl rfl (Nat.le_of_ble_eq_true rfl) (fun r u hr => ?_)
          obtain ⟨rfl, rfl⟩ := hr
          rw [m1, m2]
          refine V_iload F dX_signal_89 rfl ?_
          refine V_icmp_ne F 96 dX_signal_91 (by decide) (fun h91 => ?_) (fun h91 => ?_)
          · first | (replace h91 := bz_ne0.mp h91) | (replace h91 := bz_eq0.mp h91) | skip
            refine V_aload_n (i := 0) F dX_signal_96 rfl rfl ?_
            refine V_getr (ci := 6) (C := R_X) (T := T_X) (N := 5) F dX_signal_97 (by first | rfl | assumption) rfl (j := 0) (by decide) rfl lfX_41 ?_
            refine V_getrN (ci := 5) (C := R_Y) (T := T_Y) (N := 8) F dX_signal_100 (by first | rfl | assumption) rfl (j := 0) (by decide) rfl lfX_48 ?_
            refine V_getrN (ci := 0) (C := R_G) (T := T_G) (N := 5) F dX_signal_103 (by first | rfl | assumption) rfl (j := 3) (by decide) rfl lfX_80 ?_
            refine V_iload F dX_signal_106 rfl ?_
            refine V_dup2 F dX_signal_108 ?_
            first
              | refine V_sald F dX_signal_109 (by decide) (by omega) (stt_in _ _) ?_
              | refine V_iald F dX_signal_109 (by first | rfl | assumption) rfl (by omega) ?_
            refine V_iconst F dX_signal_110 (by decide) ?_
            refine V_iload F dX_signal_111 rfl ?_
            refine V_ishl F _ dX_signal_113 (ishl_1 (by omega)) ?_
            refine V_ixor F _ dX_signal_114 rfl ?_
            refine V_iast F dX_signal_115 (by first | rfl | assumption) rfl (by omega) ?_
            refine V_aload_n (i := 0) F dX_signal_116 rfl rfl ?_
            refine V_getr (ci := 6) (C := R_X) (T := T_X) (N := 5) F dX_signal_117 (by first | rfl | assumption) rfl (j := 2) (by decide) rfl lfX_12 ?_
            refine V_callVv F dX_signal_120 lmX_83 miW_forget mvW_forget (ctW_forget) (by decide) (by first | rfl | assumption) rfl rfl (Nat.le_of_ble_eq_true rfl) (fun u hr => ?_)
            subst hr
            refine V_iconst F dX_signal_123 (by decide) ?_
            exact hR _ _ _ _ dX_signal_124 (by first | exact Or.inl rfl | exact Or.inr rfl | exact bz_01 _ | assumption) (by
              first
              | exact Or.inr ⟨fun z => h13 z.1, rfl, rfl⟩
              | exact Or.inr ⟨fun z => h22 z.2.1, rfl, rfl⟩
              | exact Or.inr ⟨fun z => z.2.2.1 h54, rfl, rfl⟩
              | exact Or.inr ⟨fun z => h67 (hon.mpr z.2.2.2.1), rfl, rfl⟩
              | exact Or.inr ⟨fun z => z.2.2.2.2 h91, rfl, rfl⟩
              | exact Or.inl ⟨⟨h13, h22, h54, hon.mp h67, h91⟩, rfl, rfl⟩)
          · first | (replace h91 := bz_ne0.mp h91) | (replace h91 := bz_eq0.mp h91) | skip
            refine V_iconst F dX_signal_94 (by decide) ?_
            exact hR _ _ _ _ dX_signal_95 (by first | exact Or.inl rfl | exact Or.inr rfl | exact bz_01 _ | assumption) (by
              first
              | exact Or.inr ⟨fun z => h13 z.1, rfl, rfl⟩
              | exact Or.inr ⟨fun z => h22 z.2.1, rfl, rfl⟩
              | exact Or.inr ⟨fun z => z.2.2.1 h54, rfl, rfl⟩
              | exact Or.inr ⟨fun z => h67 (hon.mpr z.2.2.2.1), rfl, rfl⟩
              | exact Or.inr ⟨fun z => z.2.2.2.2 h91, rfl, rfl⟩
              | exact Or.inl ⟨⟨h13, h22, h54, hon.mp h67, h91⟩, rfl, rfl⟩)
        · first | (replace h67 := bz_ne0.mp h67) | (replace h67 := bz_eq0.mp h67) | skip
          refine V_iconst F dX_signal_70 (by decide) ?_
          exact hR _ _ _ _ dX_signal_71 (by first | exact Or.inl rfl | exact Or.inr rfl | exact bz_01 _ | assumption) (by
            first
            | exact Or.inr ⟨fun z => h13 z.1, rfl, rfl⟩
            | exact Or.inr ⟨fun z => h22 z.2.1, rfl, rfl⟩
            | exact Or.inr ⟨fun z => z.2.2.1 h54, rfl, rfl⟩
            | exact Or.inr ⟨fun z => h67 (hon.mpr z.2.2.2.1), rfl, rfl⟩
            | exact Or.inr ⟨fun z => z.2.2.2.2 h91, rfl, rfl⟩
            | exact Or.inl ⟨⟨h13, h22, h54, hon.mp h67, h91⟩, rfl, rfl⟩)
    · first | (replace h22 := bz_ne0.mp h22) | (replace h22 := bz_eq0.mp h22) | skip
      refine V_iconst F dX_signal_25 (by decide) ?_
      exact hR _ _ _ _ dX_signal_26 (by first | exact Or.inl rfl | exact Or.inr rfl | exact bz_01 _ | assumption) (by
        first
        | exact Or.inr ⟨fun z => h13 z.1, rfl, rfl⟩
        | exact Or.inr ⟨fun z => h22 z.2.1, rfl, rfl⟩
        | exact Or.inr ⟨fun z => z.2.2.1 h54, rfl, rfl⟩
        | exact Or.inr ⟨fun z => h67 (hon.mpr z.2.2.2.1), rfl, rfl⟩
        | exact Or.inr ⟨fun z => z.2.2.2.2 h91, rfl, rfl⟩
        | exact Or.inl ⟨⟨h13, h22, h54, hon.mp h67, h91⟩, rfl, rfl⟩)
def stOK (w : RW) (x y p c : Int) : Prop := (0 ≤ c ∧ c ≤ 50 ∧ p ≤ 1) ∧ hTr w x y p ∧ w 4 (x + 8 * y + 64 * p) = 0 ∧ ¬ hdT w (x + 8 * y) ∧ ¬ (onS w (x + 8 * y) ∨ onS w (x + 8 * y + 64))
def stW (w : RW) (x y p c : Int) : RW := upw (upw (upw (upw w (7 + (w 1 3).toNat) 0 (x + 8 * y + 64 * p)) (7 + (w 1 3).toNat) 1 c) (7 + (w 1 3).toNat) 2 0) 1 3 (w 1 3 + 1)
theorem ctX_station {G : vG} {l : Launch} {w : RW} {x y p c : Int} (hc : cOK w) : CTi G l yX_station cX_station 8 .int 2 [.inr 0, .inl x, .inl y, .inl p, .inl c] w (fun r u => (¬ stOK w x y p c ∧ r = -1 ∧ w = u) ∨ (stOK w x y p c ∧ 6 ≤ w 1 3 ∧ r = -2 ∧ w = u) ∨ (stOK w x y p c ∧ w 1 3 < 6 ∧ r = w 1 3 ∧ stW w x y p c = u)) := by
  refine CTi.int (by decide) (Nat.le_of_ble_eq_true rfl) ?_
  intro X Q F hX hR
  subst hX
  show V G X 8 Q 0 [some (.inr 0), some (.inl x), some (.inl y), some (.inl p), some (.inl c), none, none, none] [] w
  obtain ⟨k1, k2, k3, k4, k5, k6⟩ := hc
  refine V_iload F dX_station_0 rfl ?_
  refine V_if_lt F 33 dX_station_2 (by decide) (fun h2 => ?_) (fun h2 => ?_)
  · first | (replace h2 := bz_ne0.mp h2) | (replace h2 := bz_eq0.mp h2) | skip
    refine V_iconst F dX_station_33 (by decide) ?_
    exact hR _ _ _ _ dX_station_34 (by
      first
      | exact Or.inl ⟨fun z => by have := z.1; omega, rfl, rfl⟩
      | exact Or.inl ⟨fun z => h30 z.2.1, rfl, rfl⟩
      | exact Or.inl ⟨fun z => h63 z.2.2.1, rfl, rfl⟩
      | exact Or.inl ⟨fun z => z.2.2.2.1 h78, rfl, rfl⟩
      | exact Or.inl ⟨fun z => z.2.2.2.2 h90, rfl, rfl⟩
      | exact Or.inr (Or.inl ⟨⟨by omega, h30, h63, h78, h90⟩, by omega, rfl, rfl⟩)
      | exact Or.inr (Or.inr ⟨⟨by omega, h30, h63, h78, h90⟩, by omega, rfl, rfl⟩))
  · first | (replace h2 := bz_ne0.mp h2) | (replace h2 := bz_eq0.mp h2) | skip
    refine V_iload F dX_station_5 rfl ?_
    refine V_bipush F dX_station_7 (by decide) ?_
    refine V_icmp_gt F 33 dX_station_9 (by decide) (fun h9 => ?_) (fun h9 => ?_)
    · first | (replace h9 := bz_ne0.mp h9) | (replace h9 := bz_eq0.mp h9) | skip
      refine V_iconst F dX_station_33 (by decide) ?_
      exact hR _ _ _ _ dX_station_34 (by
        first
        | exact Or.inl ⟨fun z => by have := z.1; omega, rfl, rfl⟩
        | exact Or.inl ⟨fun z => h30 z.2.1, rfl, rfl⟩
        | exact Or.inl ⟨fun z => h63 z.2.2.1, rfl, rfl⟩
        | exact Or.inl ⟨fun z => z.2.2.2.1 h78, rfl, rfl⟩
        | exact Or.inl ⟨fun z => z.2.2.2.2 h90, rfl, rfl⟩
        | exact Or.inr (Or.inl ⟨⟨by omega, h30, h63, h78, h90⟩, by omega, rfl, rfl⟩)
        | exact Or.inr (Or.inr ⟨⟨by omega, h30, h63, h78, h90⟩, by omega, rfl, rfl⟩))
    · first | (replace h9 := bz_ne0.mp h9) | (replace h9 := bz_eq0.mp h9) | skip
      refine V_iload_n (i := 3) F dX_station_12 rfl rfl ?_
      refine V_iconst F dX_station_13 (by decide) ?_
      refine V_icmp_gt F 33 dX_station_14 (by decide) (fun h14 => ?_) (fun h14 => ?_)
      · first | (replace h14 := bz_ne0.mp h14) | (replace h14 := bz_eq0.mp h14) | skip
        refine V_iconst F dX_station_33 (by decide) ?_
        exact hR _ _ _ _ dX_station_34 (by
          first
          | exact Or.inl ⟨fun z => by have := z.1; omega, rfl, rfl⟩
          | exact Or.inl ⟨fun z => h30 z.2.1, rfl, rfl⟩
          | exact Or.inl ⟨fun z => h63 z.2.2.1, rfl, rfl⟩
          | exact Or.inl ⟨fun z => z.2.2.2.1 h78, rfl, rfl⟩
          | exact Or.inl ⟨fun z => z.2.2.2.2 h90, rfl, rfl⟩
          | exact Or.inr (Or.inl ⟨⟨by omega, h30, h63, h78, h90⟩, by omega, rfl, rfl⟩)
          | exact Or.inr (Or.inr ⟨⟨by omega, h30, h63, h78, h90⟩, by omega, rfl, rfl⟩))
      · first | (replace h14 := bz_ne0.mp h14) | (replace h14 := bz_eq0.mp h14) | skip
        refine V_aload_n (i := 0) F dX_station_17 rfl rfl ?_
        refine V_getr (ci := 6) (C := R_X) (T := T_X) (N := 5) F dX_station_18 (by first | rfl | assumption) rfl (j := 0) (by decide) rfl lfX_41 ?_
        refine V_getrN (ci := 5) (C := R_Y) (T := T_Y) (N := 8) F dX_station_21 (by first | rfl | assumption) rfl (j := 0) (by decide) rfl lfX_48 ?_
        refine V_iload_n (i := 1) F dX_station_24 rfl rfl ?_
        refine V_iload_n (i := 2) F dX_station_25 rfl rfl ?_
        refine V_iload_n (i := 3) F dX_station_26 rfl rfl ?_
        refine V_callVi F dX_station_27 lmX_86 miG_hasTrack mvG_hasTrack (ctG_hasTrack (by omega) (fun t t1 t2 => (k2 t t1 t2).1)) (by decide) (by first | rfl | assumption) rfl rfl (Nat.le_of_ble_eq_true rfl) (fun r u hr => ?_)
        obtain ⟨rfl, rfl⟩ := hr
        show V _ _ _ _ _ _ (.inl (bz (hTr w x y p)) :: _) _
        refine V_if_ne F 35 dX_station_30 (by decide) (fun h30 => ?_) (fun h30 => ?_)
        · first | (replace h30 := bz_ne0.mp h30) | (replace h30 := bz_eq0.mp h30) | skip
          have hh := h30.1
          unfold isT at hh
          have hp := h30.2.1
          refine V_iload_n (i := 1) F dX_station_35 rfl rfl ?_
          refine V_iload_n (i := 2) F dX_station_36 rfl rfl ?_
          refine V_callSi F dX_station_37 lmX_58 miS_tile msS_tile (ctS_tile (by omega)) (by decide) rfl (Nat.le_of_ble_eq_true rfl) (fun r u hr => ?_)
          obtain ⟨rfl, rfl⟩ := hr
          refine V_istore F dX_station_40 (by decide) (by simp only [List.set_cons_zero, List.set_cons_succ]; exact rfl) ?_
          refine V_iload F dX_station_42 rfl ?_
          refine V_iload_n (i := 3) F dX_station_44 rfl rfl ?_
          refine V_callSi F dX_station_45 lmX_63 miS_place msS_place (ctS_place (by omega)) (by decide) rfl (Nat.le_of_ble_eq_true rfl) (fun r u hr => ?_)
          obtain ⟨rfl, rfl⟩ := hr
          refine V_istore F dX_station_48 (by decide) (by simp only [List.set_cons_zero, List.set_cons_succ]; exact rfl) ?_
          refine V_aload_n (i := 0) F dX_station_50 rfl rfl ?_
          refine V_getr (ci := 6) (C := R_X) (T := T_X) (N := 5) F dX_station_51 (by first | rfl | assumption) rfl (j := 0) (by decide) rfl lfX_41 ?_
          refine V_getrN (ci := 5) (C := R_Y) (T := T_Y) (N := 8) F dX_station_54 (by first | rfl | assumption) rfl (j := 0) (by decide) rfl lfX_48 ?_
          refine V_getrN (ci := 0) (C := R_G) (T := T_G) (N := 5) F dX_station_57 (by first | rfl | assumption) rfl (j := 3) (by decide) rfl lfX_80 ?_
          refine V_iload F dX_station_60 rfl ?_
          first
            | refine V_sald F dX_station_62 (by decide) (by omega) (stt_in _ _) ?_
            | refine V_iald F dX_station_62 (by first | rfl | assumption) rfl (by omega) ?_
          refine V_if_ne F 93 dX_station_63 (by decide) (fun h63 => ?_) (fun h63 => ?_)
          · first | (replace h63 := bz_ne0.mp h63) | (replace h63 := bz_eq0.mp h63) | skip
            refine V_iconst F dX_station_93 (by decide) ?_
            exact hR _ _ _ _ dX_station_94 (by
              first
              | exact Or.inl ⟨fun z => by have := z.1; omega, rfl, rfl⟩
              | exact Or.inl ⟨fun z => h30 z.2.1, rfl, rfl⟩
              | exact Or.inl ⟨fun z => h63 z.2.2.1, rfl, rfl⟩
              | exact Or.inl ⟨fun z => z.2.2.2.1 h78, rfl, rfl⟩
              | exact Or.inl ⟨fun z => z.2.2.2.2 h90, rfl, rfl⟩
              | exact Or.inr (Or.inl ⟨⟨by omega, h30, h63, h78, h90⟩, by omega, rfl, rfl⟩)
              | exact Or.inr (Or.inr ⟨⟨by omega, h30, h63, h78, h90⟩, by omega, rfl, rfl⟩))
          · first | (replace h63 := bz_ne0.mp h63) | (replace h63 := bz_eq0.mp h63) | skip
            refine V_aload_n (i := 0) F dX_station_66 rfl rfl ?_
            refine V_getr (ci := 6) (C := R_X) (T := T_X) (N := 5) F dX_station_67 (by first | rfl | assumption) rfl (j := 0) (by decide) rfl lfX_41 ?_
            refine V_getrN (ci := 5) (C := R_Y) (T := T_Y) (N := 8) F dX_station_70 (by first | rfl | assumption) rfl (j := 0) (by decide) rfl lfX_48 ?_
            refine V_iload F dX_station_73 rfl ?_
            refine V_callVi F dX_station_75 lmX_66 miG_isHeld mvG_isHeld (ctG_isHeld (by omega)) (by decide) (by first | rfl | assumption) rfl rfl (Nat.le_of_ble_eq_true rfl) (fun r u hr => ?_)
            obtain ⟨rfl, rfl⟩ := hr
            refine V_if_ne F 93 dX_station_78 (by decide) (fun h78 => ?_) (fun h78 => ?_)
            · first | (replace h78 := bz_ne0.mp h78) | (replace h78 := bz_eq0.mp h78) | skip
              refine V_iconst F dX_station_93 (by decide) ?_
              exact hR _ _ _ _ dX_station_94 (by
                first
                | exact Or.inl ⟨fun z => by have := z.1; omega, rfl, rfl⟩
                | exact Or.inl ⟨fun z => h30 z.2.1, rfl, rfl⟩
                | exact Or.inl ⟨fun z => h63 z.2.2.1, rfl, rfl⟩
                | exact Or.inl ⟨fun z => z.2.2.2.1 h78, rfl, rfl⟩
                | exact Or.inl ⟨fun z => z.2.2.2.2 h90, rfl, rfl⟩
                | exact Or.inr (Or.inl ⟨⟨by omega, h30, h63, h78, h90⟩, by omega, rfl, rfl⟩)
                | exact Or.inr (Or.inr ⟨⟨by omega, h30, h63, h78, h90⟩, by omega, rfl, rfl⟩))
            · first | (replace h78 := bz_ne0.mp h78) | (replace h78 := bz_eq0.mp h78) | skip
              refine V_aload_n (i := 0) F dX_station_81 rfl rfl ?_
              refine V_getr (ci := 6) (C := R_X) (T := T_X) (N := 5) F dX_station_82 (by first | rfl | assumption) rfl (j := 0) (by decide) rfl lfX_41 ?_
              refine V_iload F dX_station_85 rfl ?_
              refine V_callVi F dX_station_87 lmX_99 miY_hasStation mvY_hasStation (ctY_hasStation (by omega) (by omega)) (by decide) (by first | rfl | assumption) rfl rfl (Nat.le_of_ble_eq_true rfl) (fun r u hr => ?_)
              obtain ⟨rfl, rfl⟩ := hr
              refine V_if_eq F 95 dX_station_90 (by decide) (fun h90 => ?_) (fun h90 => ?_)
              · first | (replace h90 := bz_ne0.mp h90) | (replace h90 := bz_eq0.mp h90) | skip
                refine V_aload_n (i := 0) F dX_station_95 rfl rfl ?_
                refine V_getr (ci := 6) (C := R_X) (T := T_X) (N := 5) F dX_station_96 (by first | rfl | assumption) rfl (j := 0) (by decide) rfl lfX_41 ?_
                refine V_getiN (ci := 5) (C := R_Y) (T := T_Y) (N := 8) F dX_station_99 (by first | rfl | assumption) rfl (j := 3) 3 rfl (by decide) rfl lfX_102 ?_
                refine V_bipush F dX_station_102 (by decide) ?_
                refine V_icmp_lt F 110 dX_station_104 (by decide) (fun h104 => ?_) (fun h104 => ?_)
                · first | (replace h104 := bz_ne0.mp h104) | (replace h104 := bz_eq0.mp h104) | skip
                  refine V_aload_n (i := 0) F dX_station_110 rfl rfl ?_
                  refine V_getr (ci := 6) (C := R_X) (T := T_X) (N := 5) F dX_station_111 (by first | rfl | assumption) rfl (j := 0) (by decide) rfl lfX_41 ?_
                  refine V_getiN (ci := 5) (C := R_Y) (T := T_Y) (N := 8) F dX_station_114 (by first | rfl | assumption) rfl (j := 3) 3 rfl (by decide) rfl lfX_102 ?_
                  refine V_istore F dX_station_117 (by decide) (by simp only [List.set_cons_zero, List.set_cons_succ]; exact rfl) ?_
                  have b1 := st7_at (i := w 1 3) (by omega)
                  have b2 := st7_sh (i := w 1 3) (by omega)
                  refine V_aload_n (i := 0) F dX_station_119 rfl rfl ?_
                  refine V_getr (ci := 6) (C := R_X) (T := T_X) (N := 5) F dX_station_120 (by first | rfl | assumption) rfl (j := 0) (by decide) rfl lfX_41 ?_
                  refine V_getrN (ci := 5) (C := R_Y) (T := T_Y) (N := 8) F dX_station_123 (by first | rfl | assumption) rfl (j := 1) (by decide) rfl lfX_106 ?_
                  refine V_iload F dX_station_126 rfl ?_
                  first
                    | refine V_aald F dX_station_128 (by first | rfl | assumption) rfl (by omega) (by first | rfl | assumption) ?_
                    | refine V_aaldA F dX_station_128 (by first | rfl | assumption) rfl (by omega) (by first | rfl | assumption) ?_
                  refine V_iload F dX_station_129 rfl ?_
                  refine V_iload F dX_station_131 rfl ?_
                  refine V_callVv F dX_station_133 lmX_110 miT_open mvT_open (ctT_open b2) (by decide) (by first | rfl | assumption) rfl rfl (Nat.le_of_ble_eq_true rfl) (fun u hr => ?_)
                  subst hr
                  refine V_aload_n (i := 0) F dX_station_136 rfl rfl ?_
                  refine V_getr (ci := 6) (C := R_X) (T := T_X) (N := 5) F dX_station_137 (by first | rfl | assumption) rfl (j := 0) (by decide) rfl lfX_41 ?_
                  refine V_dup F dX_station_140 ?_
                  refine V_getiN (ci := 5) (C := R_Y) (T := T_Y) (N := 8) F dX_station_141 (by first | rfl | assumption) rfl (j := 3) 3 rfl (by decide) rfl lfX_102 ?_
                  rw [upw_k (by omega), upw_k (by omega), upw_k (by omega)]
                  refine V_iconst F dX_station_144 (by decide) ?_
                  refine V_iadd F dX_station_145 (by omega) ?_
                  refine V_putiN (ci := 5) (C := R_Y) (T := T_Y) (N := 8) F dX_station_146 (by first | rfl | assumption) rfl (j := 3) 3 rfl (by decide) rfl rfl rfl lfX_102 ?_
                  refine V_iload F dX_station_149 rfl ?_
                  exact hR _ _ _ _ dX_station_151 (by
                    first
                    | exact Or.inl ⟨fun z => by have := z.1; omega, rfl, rfl⟩
                    | exact Or.inl ⟨fun z => h30 z.2.1, rfl, rfl⟩
                    | exact Or.inl ⟨fun z => h63 z.2.2.1, rfl, rfl⟩
                    | exact Or.inl ⟨fun z => z.2.2.2.1 h78, rfl, rfl⟩
                    | exact Or.inl ⟨fun z => z.2.2.2.2 h90, rfl, rfl⟩
                    | exact Or.inr (Or.inl ⟨⟨by omega, h30, h63, h78, h90⟩, by omega, rfl, rfl⟩)
                    | exact Or.inr (Or.inr ⟨⟨by omega, h30, h63, h78, h90⟩, by omega, rfl, rfl⟩))
                · first | (replace h104 := bz_ne0.mp h104) | (replace h104 := bz_eq0.mp h104) | skip
                  refine V_bipush F dX_station_107 (by decide) ?_
                  exact hR _ _ _ _ dX_station_109 (by
                    first
                    | exact Or.inl ⟨fun z => by have := z.1; omega, rfl, rfl⟩
                    | exact Or.inl ⟨fun z => h30 z.2.1, rfl, rfl⟩
                    | exact Or.inl ⟨fun z => h63 z.2.2.1, rfl, rfl⟩
                    | exact Or.inl ⟨fun z => z.2.2.2.1 h78, rfl, rfl⟩
                    | exact Or.inl ⟨fun z => z.2.2.2.2 h90, rfl, rfl⟩
                    | exact Or.inr (Or.inl ⟨⟨by omega, h30, h63, h78, h90⟩, by omega, rfl, rfl⟩)
                    | exact Or.inr (Or.inr ⟨⟨by omega, h30, h63, h78, h90⟩, by omega, rfl, rfl⟩))
              · first | (replace h90 := bz_ne0.mp h90) | (replace h90 := bz_eq0.mp h90) | skip
                refine V_iconst F dX_station_93 (by decide) ?_
                exact hR _ _ _ _ dX_station_94 (by
                  first
                  | exact Or.inl ⟨fun z => by have := z.1; omega, rfl, rfl⟩
                  | exact Or.inl ⟨fun z => h30 z.2.1, rfl, rfl⟩
                  | exact Or.inl ⟨fun z => h63 z.2.2.1, rfl, rfl⟩
                  | exact Or.inl ⟨fun z => z.2.2.2.1 h78, rfl, rfl⟩
                  | exact Or.inl ⟨fun z => z.2.2.2.2 h90, rfl, rfl⟩
                  | exact Or.inr (Or.inl ⟨⟨by omega, h30, h63, h78, h90⟩, by omega, rfl, rfl⟩)
                  | exact Or.inr (Or.inr ⟨⟨by omega, h30, h63, h78, h90⟩, by omega, rfl, rfl⟩))
        · first | (replace h30 := bz_ne0.mp h30) | (replace h30 := bz_eq0.mp h30) | skip
          refine V_iconst F dX_station_33 (by decide) ?_
          exact hR _ _ _ _ dX_station_34 (by
            first
            | exact Or.inl ⟨fun z => by have := z.1; omega, rfl, rfl⟩
            | exact Or.inl ⟨fun z => h30 z.2.1, rfl, rfl⟩
            | exact Or.inl ⟨fun z => h63 z.2.2.1, rfl, rfl⟩
            | exact Or.inl ⟨fun z => z.2.2.2.1 h78, rfl, rfl⟩
            | exact Or.inl ⟨fun z => z.2.2.2.2 h90, rfl, rfl⟩
            | exact Or.inr (Or.inl ⟨⟨by omega, h30, h63, h78, h90⟩, by omega, rfl, rfl⟩)
            | exact Or.inr (Or.inr ⟨⟨by omega, h30, h63, h78, h90⟩, by omega, rfl, rfl⟩))
def orOK (w : RW) (t s : Int) : Prop := (0 ≤ t ∧ t < w 1 4) ∧ (0 ≤ s ∧ s < w 1 3) ∧ w (14 + t.toNat) 7 < 6
def orW (w : RW) (t s : Int) : RW := upw (upw w (26 + t.toNat) (w (14 + t.toNat) 7) s) (14 + t.toNat) 7 (w (14 + t.toNat) 7 + 1)
theorem ctX_order {G : vG} {l : Launch} {w : RW} {t s : Int} (hc : cOK w) : CTi G l yX_order cX_order 4 .boolean 1 [.inr 0, .inl t, .inl s] w (fun r u => (orOK w t s ∧ r = 1 ∧ orW w t s = u) ∨ (¬ orOK w t s ∧ r = 0 ∧ w = u)) := by
  refine CTi.bool (by decide) (Nat.le_of_ble_eq_true rfl) ?_
  intro X Q F hX hR
  subst hX
  show V G X 4 Q 0 [some (.inr 0), some (.inl t), some (.inl s), none] [] w
  obtain ⟨k1, k2, k3, k4, k5, k6⟩ := hc
  refine V_aload_n (i := 0) F dX_order_0 rfl rfl ?_
  refine V_getr (ci := 6) (C := R_X) (T := T_X) (N := 5) F dX_order_1 (by first | rfl | assumption) rfl (j := 0) (by decide) rfl lfX_41 ?_
  refine V_iload_n (i := 1) F dX_order_4 rfl rfl ?_
  refine V_callVi F dX_order_5 lmX_143 miY_hasTrain mvY_hasTrain (ctY_hasTrain) (by decide) (by first | rfl | assumption) rfl rfl (Nat.le_of_ble_eq_true rfl) (fun r u hr => ?_)
  obtain ⟨rfl, rfl⟩ := hr
  refine V_if_eq F 39 dX_order_8 (by decide) (fun h8 => ?_) (fun h8 => ?_)
  · first | (replace h8 := bz_ne0.mp h8) | (replace h8 := bz_eq0.mp h8) | skip
    refine V_iconst F dX_order_39 (by decide) ?_
    exact hR _ _ _ _ dX_order_40 (by first | exact Or.inl rfl | exact Or.inr rfl | exact bz_01 _ | assumption) (by
      first
      | exact Or.inr ⟨fun z => h8 z.1, rfl, rfl⟩
      | exact Or.inr ⟨fun z => h19 z.2.1, rfl, rfl⟩
      | exact Or.inr ⟨fun z => by have := z.2.2; omega, rfl, rfl⟩
      | exact Or.inl ⟨⟨h8, h19, by omega⟩, rfl, rfl⟩)
  · first | (replace h8 := bz_ne0.mp h8) | (replace h8 := bz_eq0.mp h8) | skip
    refine V_aload_n (i := 0) F dX_order_11 rfl rfl ?_
    refine V_getr (ci := 6) (C := R_X) (T := T_X) (N := 5) F dX_order_12 (by first | rfl | assumption) rfl (j := 0) (by decide) rfl lfX_41 ?_
    refine V_iload_n (i := 2) F dX_order_15 rfl rfl ?_
    refine V_callVi F dX_order_16 lmX_146 miY_isStation mvY_isStation (ctY_isStation) (by decide) (by first | rfl | assumption) rfl rfl (Nat.le_of_ble_eq_true rfl) (fun r u hr => ?_)
    obtain ⟨rfl, rfl⟩ := hr
    refine V_if_eq F 39 dX_order_19 (by decide) (fun h19 => ?_) (fun h19 => ?_)
    · first | (replace h19 := bz_ne0.mp h19) | (replace h19 := bz_eq0.mp h19) | skip
      refine V_iconst F dX_order_39 (by decide) ?_
      exact hR _ _ _ _ dX_order_40 (by first | exact Or.inl rfl | exact Or.inr rfl | exact bz_01 _ | assumption) (by
        first
        | exact Or.inr ⟨fun z => h8 z.1, rfl, rfl⟩
        | exact Or.inr ⟨fun z => h19 z.2.1, rfl, rfl⟩
        | exact Or.inr ⟨fun z => by have := z.2.2; omega, rfl, rfl⟩
        | exact Or.inl ⟨⟨h8, h19, by omega⟩, rfl, rfl⟩)
    · first | (replace h19 := bz_ne0.mp h19) | (replace h19 := bz_eq0.mp h19) | skip
      have ht := k6 t (by omega) (by omega)
      obtain ⟨t1, t2, t3, t4, t5⟩ := ht
      have b1 := tr14_at (i := t) (by omega)
      have b2 := tr14_sh (i := t) (by omega)
      have b3 := rn20_sh (i := t) (by omega)
      have b4 := od26_sh (i := t) (by omega)
      refine V_aload_n (i := 0) F dX_order_22 rfl rfl ?_
      refine V_getr (ci := 6) (C := R_X) (T := T_X) (N := 5) F dX_order_23 (by first | rfl | assumption) rfl (j := 0) (by decide) rfl lfX_41 ?_
      refine V_getrN (ci := 5) (C := R_Y) (T := T_Y) (N := 8) F dX_order_26 (by first | rfl | assumption) rfl (j := 2) (by decide) rfl lfX_129 ?_
      refine V_iload_n (i := 1) F dX_order_29 rfl rfl ?_
      first
        | refine V_aald F dX_order_30 (by first | rfl | assumption) rfl (by omega) (by first | rfl | assumption) ?_
        | refine V_aaldA F dX_order_30 (by first | rfl | assumption) rfl (by omega) (by first | rfl | assumption) ?_
      refine V_getiN (ci := 3) (C := R_N) (T := T_N) (N := 10) F dX_order_31 (by first | rfl | assumption) rfl (j := 7) 7 rfl (by decide) rfl lfX_149 ?_
      refine V_bipush F dX_order_34 (by decide) ?_
      refine V_icmp_lt F 41 dX_order_36 (by decide) (fun h36 => ?_) (fun h36 => ?_)
      · first | (replace h36 := bz_ne0.mp h36) | (replace h36 := bz_eq0.mp h36) | skip
        refine V_aload_n (i := 0) F dX_order_41 rfl rfl ?_
        refine V_getr (ci := 6) (C := R_X) (T := T_X) (N := 5) F dX_order_42 (by first | rfl | assumption) rfl (j := 0) (by decide) rfl lfX_41 ?_
        refine V_getrN (ci := 5) (C := R_Y) (T := T_Y) (N := 8) F dX_order_45 (by first | rfl | assumption) rfl (j := 2) (by decide) rfl lfX_129 ?_
        refine V_iload_n (i := 1) F dX_order_48 rfl rfl ?_
        first
          | refine V_aald F dX_order_49 (by first | rfl | assumption) rfl (by omega) (by first | rfl | assumption) ?_
          | refine V_aaldA F dX_order_49 (by first | rfl | assumption) rfl (by omega) (by first | rfl | assumption) ?_
        refine V_astore_n (i := 3) F dX_order_50 rfl (by decide) (by simp only [List.set_cons_zero, List.set_cons_succ]; exact rfl) ?_
        refine V_aload_n (i := 3) F dX_order_51 rfl rfl ?_
        refine V_getrN (ci := 3) (C := R_N) (T := T_N) (N := 10) F dX_order_52 (by first | rfl | assumption) rfl (j := 6) (by decide) rfl lfX_152 ?_
        refine V_aload_n (i := 3) F dX_order_55 rfl rfl ?_
        refine V_getiN (ci := 3) (C := R_N) (T := T_N) (N := 10) F dX_order_56 (by first | rfl | assumption) rfl (j := 7) 7 rfl (by decide) rfl lfX_149 ?_
        refine V_iload_n (i := 2) F dX_order_59 rfl rfl ?_
        refine V_iast F dX_order_60 (by first | rfl | assumption) rfl (by omega) ?_
        refine V_aload_n (i := 3) F dX_order_61 rfl rfl ?_
        refine V_dup F dX_order_62 ?_
        refine V_getiN (ci := 3) (C := R_N) (T := T_N) (N := 10) F dX_order_63 (by first | rfl | assumption) rfl (j := 7) 7 rfl (by decide) rfl lfX_149 ?_
        rw [upw_k (by omega)]
        refine V_iconst F dX_order_66 (by decide) ?_
        refine V_iadd F dX_order_67 (by omega) ?_
        refine V_putiN (ci := 3) (C := R_N) (T := T_N) (N := 10) F dX_order_68 (by first | rfl | assumption) rfl (j := 7) 7 rfl (by decide) rfl rfl rfl lfX_149 ?_
        refine V_iconst F dX_order_71 (by decide) ?_
        exact hR _ _ _ _ dX_order_72 (by first | exact Or.inl rfl | exact Or.inr rfl | exact bz_01 _ | assumption) (by
          first
          | exact Or.inr ⟨fun z => h8 z.1, rfl, rfl⟩
          | exact Or.inr ⟨fun z => h19 z.2.1, rfl, rfl⟩
          | exact Or.inr ⟨fun z => by have := z.2.2; omega, rfl, rfl⟩
          | exact Or.inl ⟨⟨h8, h19, by omega⟩, rfl, rfl⟩)
      · first | (replace h36 := bz_ne0.mp h36) | (replace h36 := bz_eq0.mp h36) | skip
        refine V_iconst F dX_order_39 (by decide) ?_
        exact hR _ _ _ _ dX_order_40 (by first | exact Or.inl rfl | exact Or.inr rfl | exact bz_01 _ | assumption) (by
          first
          | exact Or.inr ⟨fun z => h8 z.1, rfl, rfl⟩
          | exact Or.inr ⟨fun z => h19 z.2.1, rfl, rfl⟩
          | exact Or.inr ⟨fun z => by have := z.2.2; omega, rfl, rfl⟩
          | exact Or.inl ⟨⟨h8, h19, by omega⟩, rfl, rfl⟩)
def wOK (w : RW) : Prop := QI w ∧ w 63 5 = 0 ∧ (0 ≤ w 63 1 ∧ w 63 1 < 64) ∧ ∀ s, 0 ≤ s → s < 6 → tb (w 63 1) s → s < w 1 3 ∧ lsOK w s (w (7 + s.toNat) 0)
def tgOK (w : RW) (x y p e s : Int) : Prop := hTr w x y p ∧ hsE p e ∧ 0 ≤ s ∧ s < w 1 3
theorem lnP_frame {w u : RW} {s g : Int} (h : lnP w u s g) : ∀ j, j ≠ 63 → j ≠ 71 → j ≠ 72 → j ≠ 65 + s.toNat → u j = w j := by
  intro j j1 j2 j3 j4
  rcases h with ⟨_, h⟩ | ⟨_, h, _⟩
  · rw [h]
  · exact h.1 j j1 j2 j3 j4
theorem ctX_toGo {G : vG} {l : Launch} {w : RW} {x y p e s : Int} (hw : wOK w) (hc : cOK w) : CTi G l yX_toGo cX_toGo 8 .int 4 [.inr 0, .inl x, .inl y, .inl p, .inl e, .inl s] w (fun r u => (¬ tgOK w x y p e s ∧ r = -1 ∧ w = u) ∨ (tgOK w x y p e s ∧ lnP w u s (w (7 + s.toNat) 0) ∧ r = if rsT u s (w (7 + s.toNat) 0) (x + 8 * y + 64 * p + 512 * e) < 1048576 then rsT u s (w (7 + s.toNat) 0) (x + 8 * y + 64 * p + 512 * e) else -1)) := by
  refine CTi.int (by decide) (Nat.le_of_ble_eq_true rfl) ?_
  intro X Q F hX hR
  subst hX
  show V G X 8 Q 0 [some (.inr 0), some (.inl x), some (.inl y), some (.inl p), some (.inl e), some (.inl s), none, none] [] w
  obtain ⟨k1, k2, k3, k4, k5, k6⟩ := hc
  refine V_aload_n (i := 0) F dX_toGo_0 rfl rfl ?_
  refine V_getr (ci := 6) (C := R_X) (T := T_X) (N := 5) F dX_toGo_1 (by first | rfl | assumption) rfl (j := 0) (by decide) rfl lfX_41 ?_
  refine V_getrN (ci := 5) (C := R_Y) (T := T_Y) (N := 8) F dX_toGo_4 (by first | rfl | assumption) rfl (j := 0) (by decide) rfl lfX_48 ?_
  refine V_iload_n (i := 1) F dX_toGo_7 rfl rfl ?_
  refine V_iload_n (i := 2) F dX_toGo_8 rfl rfl ?_
  refine V_iload_n (i := 3) F dX_toGo_9 rfl rfl ?_
  refine V_callVi F dX_toGo_10 lmX_86 miG_hasTrack mvG_hasTrack (ctG_hasTrack (by omega) (fun t t1 t2 => (k2 t t1 t2).1)) (by decide) (by first | rfl | assumption) rfl rfl (Nat.le_of_ble_eq_true rfl) (fun r u hr => ?_)
  obtain ⟨rfl, rfl⟩ := hr
  show V _ _ _ _ _ _ (.inl (bz (hTr w x y p)) :: _) _
  refine V_if_eq F 37 dX_toGo_13 (by decide) (fun h13 => ?_) (fun h13 => ?_)
  · first | (replace h13 := bz_ne0.mp h13) | (replace h13 := bz_eq0.mp h13) | skip
    refine V_iconst F dX_toGo_37 (by decide) ?_
    exact hR _ _ _ _ dX_toGo_38 (by
      first
      | exact Or.inl ⟨fun z => h13 z.1, rfl, rfl⟩
      | exact Or.inl ⟨fun z => h22 z.2.1, rfl, rfl⟩
      | exact Or.inl ⟨fun z => h34 z.2.2, rfl, rfl⟩
      | exact Or.inr ⟨⟨h13, h22, h34⟩, hr, (if_pos (by omega)).symm⟩
      | exact Or.inr ⟨⟨h13, h22, h34⟩, hr, (if_neg (by omega)).symm⟩)
  · first | (replace h13 := bz_ne0.mp h13) | (replace h13 := bz_eq0.mp h13) | skip
    have hh := h13.1
    unfold isT at hh
    have hp := h13.2.1
    refine V_iload_n (i := 3) F dX_toGo_16 rfl rfl ?_
    refine V_iload F dX_toGo_17 rfl ?_
    refine V_callSi F dX_toGo_19 lmX_90 miS_hasEdge msS_hasEdge (ctS_hasEdge (by omega)) (by decide) rfl (Nat.le_of_ble_eq_true rfl) (fun r u hr => ?_)
    obtain ⟨rfl, rfl⟩ := hr
    refine V_if_eq F 37 dX_toGo_22 (by decide) (fun h22 => ?_) (fun h22 => ?_)
    · first | (replace h22 := bz_ne0.mp h22) | (replace h22 := bz_eq0.mp h22) | skip
      refine V_iconst F dX_toGo_37 (by decide) ?_
      exact hR _ _ _ _ dX_toGo_38 (by
        first
        | exact Or.inl ⟨fun z => h13 z.1, rfl, rfl⟩
        | exact Or.inl ⟨fun z => h22 z.2.1, rfl, rfl⟩
        | exact Or.inl ⟨fun z => h34 z.2.2, rfl, rfl⟩
        | exact Or.inr ⟨⟨h13, h22, h34⟩, hr, (if_pos (by omega)).symm⟩
        | exact Or.inr ⟨⟨h13, h22, h34⟩, hr, (if_neg (by omega)).symm⟩)
    · first | (replace h22 := bz_ne0.mp h22) | (replace h22 := bz_eq0.mp h22) | skip
      refine V_aload_n (i := 0) F dX_toGo_25 rfl rfl ?_
      refine V_getr (ci := 6) (C := R_X) (T := T_X) (N := 5) F dX_toGo_26 (by first | rfl | assumption) rfl (j := 0) (by decide) rfl lfX_41 ?_
      refine V_iload F dX_toGo_29 rfl ?_
      refine V_callVi F dX_toGo_31 lmX_146 miY_isStation mvY_isStation (ctY_isStation) (by decide) (by first | rfl | assumption) rfl rfl (Nat.le_of_ble_eq_true rfl) (fun r u hr => ?_)
      obtain ⟨rfl, rfl⟩ := hr
      refine V_if_ne F 39 dX_toGo_34 (by decide) (fun h34 => ?_) (fun h34 => ?_)
      · first | (replace h34 := bz_ne0.mp h34) | (replace h34 := bz_eq0.mp h34) | skip
        have b1 := st7_at (i := s) (by omega)
        have b2 := st7_sh (i := s) (by omega)
        have g1 := (k5 s (by omega) (by omega)).1
        have hE := hsE_rng hp h22
        refine V_aload_n (i := 0) F dX_toGo_39 rfl rfl ?_
        refine V_getr (ci := 6) (C := R_X) (T := T_X) (N := 5) F dX_toGo_40 (by first | rfl | assumption) rfl (j := 0) (by decide) rfl lfX_41 ?_
        refine V_getrN (ci := 5) (C := R_Y) (T := T_Y) (N := 8) F dX_toGo_43 (by first | rfl | assumption) rfl (j := 1) (by decide) rfl lfX_106 ?_
        refine V_iload F dX_toGo_46 rfl ?_
        first
          | refine V_aald F dX_toGo_48 (by first | rfl | assumption) rfl (by omega) (by first | rfl | assumption) ?_
          | refine V_aaldA F dX_toGo_48 (by first | rfl | assumption) rfl (by omega) (by first | rfl | assumption) ?_
        refine V_getiN (ci := 1) (C := R_T) (T := T_T) (N := 3) F dX_toGo_49 (by first | rfl | assumption) rfl (j := 0) 0 rfl (by decide) rfl lfX_193 ?_
        refine V_istore F dX_toGo_52 (by decide) (by simp only [List.set_cons_zero, List.set_cons_succ]; exact rfl) ?_
        refine V_aload_n (i := 0) F dX_toGo_54 rfl rfl ?_
        refine V_getr (ci := 6) (C := R_X) (T := T_X) (N := 5) F dX_toGo_55 (by first | rfl | assumption) rfl (j := 2) (by decide) rfl lfX_12 ?_
        refine V_aload_n (i := 0) F dX_toGo_58 rfl rfl ?_
        refine V_getr (ci := 6) (C := R_X) (T := T_X) (N := 5) F dX_toGo_59 (by first | rfl | assumption) rfl (j := 0) (by decide) rfl lfX_41 ?_
        refine V_getrN (ci := 5) (C := R_Y) (T := T_Y) (N := 8) F dX_toGo_62 (by first | rfl | assumption) rfl (j := 0) (by decide) rfl lfX_48 ?_
        refine V_iload F dX_toGo_65 rfl ?_
        refine V_iload F dX_toGo_67 rfl ?_
        refine V_callVv F dX_toGo_69 lmX_195 miW_learn mvW_learn (ctW_learn (by omega) (by omega) (fun t t1 t2 => (k2 t t1 (by omega)).1) (fun q q1 q2 => (k3 q q1 q2).1) g1.1 g1.2.1 g1.2.2 hw.2.2.1 ⟨hw.1, hw.2.1⟩) (by decide) (by first | rfl | assumption) rfl rfl (Nat.le_of_ble_eq_true rfl) (fun u1 hr => ?_)
        skip
        refine V_aload_n (i := 0) F dX_toGo_72 rfl rfl ?_
        refine V_getr (ci := 6) (C := R_X) (T := T_X) (N := 5) F dX_toGo_73 (by first | rfl | assumption) rfl (j := 2) (by decide) rfl lfX_12 ?_
        refine V_iload_n (i := 1) F dX_toGo_76 rfl rfl ?_
        refine V_iload_n (i := 2) F dX_toGo_77 rfl rfl ?_
        refine V_callSi F dX_toGo_78 lmX_58 miS_tile msS_tile (ctS_tile (by omega)) (by decide) rfl (Nat.le_of_ble_eq_true rfl) (fun r u hr => ?_)
        obtain ⟨rfl, rfl⟩ := hr
        refine V_iload_n (i := 3) F dX_toGo_81 rfl rfl ?_
        refine V_callSi F dX_toGo_82 lmX_63 miS_place msS_place (ctS_place (by omega)) (by decide) rfl (Nat.le_of_ble_eq_true rfl) (fun r u hr => ?_)
        obtain ⟨rfl, rfl⟩ := hr
        refine V_iload F dX_toGo_85 rfl ?_
        refine V_callSi F dX_toGo_87 lmX_93 miS_run msS_run (ctS_run (by omega)) (by decide) rfl (Nat.le_of_ble_eq_true rfl) (fun r u hr => ?_)
        obtain ⟨rfl, rfl⟩ := hr
        refine V_iload F dX_toGo_90 rfl ?_
        refine V_iload F dX_toGo_92 rfl ?_
        refine V_callVi F dX_toGo_94 lmX_198 miW_rest mvW_rest (ctW_rest (by omega) (by omega)) (by decide) (by first | rfl | assumption) rfl rfl (Nat.le_of_ble_eq_true rfl) (fun r2 u2 hr2 => ?_)
        obtain ⟨rfl, rfl⟩ := hr2
        show V _ _ _ _ _ _ (.inl (rsT _ s (w (7 + s.toNat) 0) (x + 8 * y + 64 * p + 512 * e)) :: _) _
        refine V_istore F dX_toGo_97 (by decide) (by simp only [List.set_cons_zero, List.set_cons_succ]; exact rfl) ?_
        refine V_iload F dX_toGo_99 rfl ?_
        refine V_ldc F dX_toGo_101 lcX_202 ⟨by decide, by decide⟩ ?_
        refine V_icmp_ge F 111 dX_toGo_103 (by decide) (fun h103 => ?_) (fun h103 => ?_)
        · first | (replace h103 := bz_ne0.mp h103) | (replace h103 := bz_eq0.mp h103) | skip
          refine V_iconst F dX_toGo_111 (by decide) ?_
          exact hR _ _ _ _ dX_toGo_112 (by
            first
            | exact Or.inl ⟨fun z => h13 z.1, rfl, rfl⟩
            | exact Or.inl ⟨fun z => h22 z.2.1, rfl, rfl⟩
            | exact Or.inl ⟨fun z => h34 z.2.2, rfl, rfl⟩
            | exact Or.inr ⟨⟨h13, h22, h34⟩, hr, (if_pos (by omega)).symm⟩
            | exact Or.inr ⟨⟨h13, h22, h34⟩, hr, (if_neg (by omega)).symm⟩)
        · first | (replace h103 := bz_ne0.mp h103) | (replace h103 := bz_eq0.mp h103) | skip
          refine V_iload F dX_toGo_106 rfl ?_
          refine V_goto F 112 dX_toGo_108 (by decide) ?_
          exact hR _ _ _ _ dX_toGo_112 (by
            first
            | exact Or.inl ⟨fun z => h13 z.1, rfl, rfl⟩
            | exact Or.inl ⟨fun z => h22 z.2.1, rfl, rfl⟩
            | exact Or.inl ⟨fun z => h34 z.2.2, rfl, rfl⟩
            | exact Or.inr ⟨⟨h13, h22, h34⟩, hr, (if_pos (by omega)).symm⟩
            | exact Or.inr ⟨⟨h13, h22, h34⟩, hr, (if_neg (by omega)).symm⟩)
      · first | (replace h34 := bz_ne0.mp h34) | (replace h34 := bz_eq0.mp h34) | skip
        refine V_iconst F dX_toGo_37 (by decide) ?_
        exact hR _ _ _ _ dX_toGo_38 (by
          first
          | exact Or.inl ⟨fun z => h13 z.1, rfl, rfl⟩
          | exact Or.inl ⟨fun z => h22 z.2.1, rfl, rfl⟩
          | exact Or.inl ⟨fun z => h34 z.2.2, rfl, rfl⟩
          | exact Or.inr ⟨⟨h13, h22, h34⟩, hr, (if_pos (by omega)).symm⟩
          | exact Or.inr ⟨⟨h13, h22, h34⟩, hr, (if_neg (by omega)).symm⟩)

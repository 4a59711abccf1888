theorem dM_before_0 : decode cM_before 0 = .ok (.iload_n 1, 1) := by decide +kernel
theorem dM_before_1 : decode cM_before 1 = .ok (.iconst 2, 1) := by decide +kernel
theorem dM_before_2 : decode cM_before 2 = .ok (.idiv, 1) := by decide +kernel
theorem dM_before_3 : decode cM_before 3 = .ok (.bipush 6, 2) := by decide +kernel
theorem dM_before_5 : decode cM_before 5 = .ok (.irem, 1) := by decide +kernel
theorem dM_before_6 : decode cM_before 6 = .ok (.istore_n 2, 1) := by decide +kernel
theorem dM_before_7 : decode cM_before 7 = .ok (.iload_n 1, 1) := by decide +kernel
theorem dM_before_8 : decode cM_before 8 = .ok (.iconst 2, 1) := by decide +kernel
theorem dM_before_9 : decode cM_before 9 = .ok (.irem, 1) := by decide +kernel
theorem dM_before_10 : decode cM_before 10 = .ok (.ifCond .ne 10, 3) := by decide +kernel
theorem dM_before_13 : decode cM_before 13 = .ok (.iload_n 2, 1) := by decide +kernel
theorem dM_before_14 : decode cM_before 14 = .ok (.invokestatic 94, 3) := by decide +kernel
theorem dM_before_17 : decode cM_before 17 = .ok (.goto 7, 3) := by decide +kernel
theorem dM_before_20 : decode cM_before 20 = .ok (.iload_n 2, 1) := by decide +kernel
theorem dM_before_21 : decode cM_before 21 = .ok (.invokestatic 90, 3) := by decide +kernel
theorem dM_before_24 : decode cM_before 24 = .ok (.istore_n 3, 1) := by decide +kernel
theorem dM_before_25 : decode cM_before 25 = .ok (.aload_n 0, 1) := by decide +kernel
theorem dM_before_26 : decode cM_before 26 = .ok (.iload_n 1, 1) := by decide +kernel
theorem dM_before_27 : decode cM_before 27 = .ok (.bipush 12, 2) := by decide +kernel
theorem dM_before_29 : decode cM_before 29 = .ok (.idiv, 1) := by decide +kernel
theorem dM_before_30 : decode cM_before 30 = .ok (.iload_n 3, 1) := by decide +kernel
theorem dM_before_31 : decode cM_before 31 = .ok (.invokevirtual 112, 3) := by decide +kernel
theorem dM_before_34 : decode cM_before 34 = .ok (.istore 4, 2) := by decide +kernel
theorem dM_before_36 : decode cM_before 36 = .ok (.iload_n 3, 1) := by decide +kernel
theorem dM_before_37 : decode cM_before 37 = .ok (.iconst 2, 1) := by decide +kernel
theorem dM_before_38 : decode cM_before 38 = .ok (.iadd, 1) := by decide +kernel
theorem dM_before_39 : decode cM_before 39 = .ok (.iconst 4, 1) := by decide +kernel
theorem dM_before_40 : decode cM_before 40 = .ok (.irem, 1) := by decide +kernel
theorem dM_before_41 : decode cM_before 41 = .ok (.istore 5, 2) := by decide +kernel
theorem dM_before_43 : decode cM_before 43 = .ok (.iconst 0, 1) := by decide +kernel
theorem dM_before_44 : decode cM_before 44 = .ok (.istore 6, 2) := by decide +kernel
theorem dM_before_46 : decode cM_before 46 = .ok (.iload 6, 2) := by decide +kernel
theorem dM_before_48 : decode cM_before 48 = .ok (.bipush 6, 2) := by decide +kernel
theorem dM_before_50 : decode cM_before 50 = .ok (.if_icmp .ge 77, 3) := by decide +kernel
theorem dM_before_53 : decode cM_before 53 = .ok (.iload 4, 2) := by decide +kernel
theorem dM_before_55 : decode cM_before 55 = .ok (.ifCond .lt 72, 3) := by decide +kernel
theorem dM_before_58 : decode cM_before 58 = .ok (.aload_n 0, 1) := by decide +kernel
theorem dM_before_59 : decode cM_before 59 = .ok (.getfield 7, 3) := by decide +kernel
theorem dM_before_62 : decode cM_before 62 = .ok (.bipush 6, 2) := by decide +kernel
theorem dM_before_64 : decode cM_before 64 = .ok (.iload 4, 2) := by decide +kernel
theorem dM_before_66 : decode cM_before 66 = .ok (.imul, 1) := by decide +kernel
theorem dM_before_67 : decode cM_before 67 = .ok (.iload 6, 2) := by decide +kernel
theorem dM_before_69 : decode cM_before 69 = .ok (.iadd, 1) := by decide +kernel
theorem dM_before_70 : decode cM_before 70 = .ok (.baload, 1) := by decide +kernel
theorem dM_before_71 : decode cM_before 71 = .ok (.ifCond .eq 50, 3) := by decide +kernel
theorem dM_before_74 : decode cM_before 74 = .ok (.iload 5, 2) := by decide +kernel
theorem dM_before_76 : decode cM_before 76 = .ok (.iload 6, 2) := by decide +kernel
theorem dM_before_78 : decode cM_before 78 = .ok (.invokestatic 90, 3) := by decide +kernel
theorem dM_before_81 : decode cM_before 81 = .ok (.if_icmp .eq 13, 3) := by decide +kernel
theorem dM_before_84 : decode cM_before 84 = .ok (.iload 5, 2) := by decide +kernel
theorem dM_before_86 : decode cM_before 86 = .ok (.iload 6, 2) := by decide +kernel
theorem dM_before_88 : decode cM_before 88 = .ok (.invokestatic 94, 3) := by decide +kernel
theorem dM_before_91 : decode cM_before 91 = .ok (.if_icmp .ne 30, 3) := by decide +kernel
theorem dM_before_94 : decode cM_before 94 = .ok (.iconst 2, 1) := by decide +kernel
theorem dM_before_95 : decode cM_before 95 = .ok (.bipush 6, 2) := by decide +kernel
theorem dM_before_97 : decode cM_before 97 = .ok (.iload 4, 2) := by decide +kernel
theorem dM_before_99 : decode cM_before 99 = .ok (.imul, 1) := by decide +kernel
theorem dM_before_100 : decode cM_before 100 = .ok (.iload 6, 2) := by decide +kernel
theorem dM_before_102 : decode cM_before 102 = .ok (.iadd, 1) := by decide +kernel
theorem dM_before_103 : decode cM_before 103 = .ok (.imul, 1) := by decide +kernel
theorem dM_before_104 : decode cM_before 104 = .ok (.iload 5, 2) := by decide +kernel
theorem dM_before_106 : decode cM_before 106 = .ok (.iload 6, 2) := by decide +kernel
theorem dM_before_108 : decode cM_before 108 = .ok (.invokestatic 90, 3) := by decide +kernel
theorem dM_before_111 : decode cM_before 111 = .ok (.if_icmp .ne 7, 3) := by decide +kernel
theorem dM_before_114 : decode cM_before 114 = .ok (.iconst 0, 1) := by decide +kernel
theorem dM_before_115 : decode cM_before 115 = .ok (.goto 4, 3) := by decide +kernel
theorem dM_before_118 : decode cM_before 118 = .ok (.iconst 1, 1) := by decide +kernel
theorem dM_before_119 : decode cM_before 119 = .ok (.iadd, 1) := by decide +kernel
theorem dM_before_120 : decode cM_before 120 = .ok (.ireturn, 1) := by decide +kernel
theorem dM_before_121 : decode cM_before 121 = .ok (.iinc 6 1, 3) := by decide +kernel
theorem dM_before_124 : decode cM_before 124 = .ok (.goto (-78), 3) := by decide +kernel
theorem dM_before_127 : decode cM_before 127 = .ok (.iconst (-1), 1) := by decide +kernel
theorem dM_before_128 : decode cM_before 128 = .ok (.ireturn, 1) := by decide +kernel
theorem dM_pieces_0 : decode cM_pieces 0 = .ok (.aload_n 0, 1) := by decide +kernel
theorem dM_pieces_1 : decode cM_pieces 1 = .ok (.iload_n 1, 1) := by decide +kernel
theorem dM_pieces_2 : decode cM_pieces 2 = .ok (.iload_n 2, 1) := by decide +kernel
theorem dM_pieces_3 : decode cM_pieces 3 = .ok (.invokevirtual 97, 3) := by decide +kernel
theorem dM_pieces_6 : decode cM_pieces 6 = .ok (.ifCond .ne 5, 3) := by decide +kernel
theorem dM_pieces_9 : decode cM_pieces 9 = .ok (.iconst (-1), 1) := by decide +kernel
theorem dM_pieces_10 : decode cM_pieces 10 = .ok (.ireturn, 1) := by decide +kernel
theorem dM_pieces_11 : decode cM_pieces 11 = .ok (.iconst 0, 1) := by decide +kernel
theorem dM_pieces_12 : decode cM_pieces 12 = .ok (.istore_n 3, 1) := by decide +kernel
theorem dM_pieces_13 : decode cM_pieces 13 = .ok (.iconst 0, 1) := by decide +kernel
theorem dM_pieces_14 : decode cM_pieces 14 = .ok (.istore 4, 2) := by decide +kernel
theorem dM_pieces_16 : decode cM_pieces 16 = .ok (.iload 4, 2) := by decide +kernel
theorem dM_pieces_18 : decode cM_pieces 18 = .ok (.bipush 6, 2) := by decide +kernel
theorem dM_pieces_20 : decode cM_pieces 20 = .ok (.if_icmp .ge 40, 3) := by decide +kernel
theorem dM_pieces_23 : decode cM_pieces 23 = .ok (.iload_n 3, 1) := by decide +kernel
theorem dM_pieces_24 : decode cM_pieces 24 = .ok (.aload_n 0, 1) := by decide +kernel
theorem dM_pieces_25 : decode cM_pieces 25 = .ok (.getfield 7, 3) := by decide +kernel
theorem dM_pieces_28 : decode cM_pieces 28 = .ok (.bipush 6, 2) := by decide +kernel
theorem dM_pieces_30 : decode cM_pieces 30 = .ok (.bipush 8, 2) := by decide +kernel
theorem dM_pieces_32 : decode cM_pieces 32 = .ok (.iload_n 2, 1) := by decide +kernel
theorem dM_pieces_33 : decode cM_pieces 33 = .ok (.imul, 1) := by decide +kernel
theorem dM_pieces_34 : decode cM_pieces 34 = .ok (.iload_n 1, 1) := by decide +kernel
theorem dM_pieces_35 : decode cM_pieces 35 = .ok (.iadd, 1) := by decide +kernel
theorem dM_pieces_36 : decode cM_pieces 36 = .ok (.imul, 1) := by decide +kernel
theorem dM_pieces_37 : decode cM_pieces 37 = .ok (.iload 4, 2) := by decide +kernel
theorem dM_pieces_39 : decode cM_pieces 39 = .ok (.iadd, 1) := by decide +kernel
theorem dM_pieces_40 : decode cM_pieces 40 = .ok (.baload, 1) := by decide +kernel
theorem dM_pieces_41 : decode cM_pieces 41 = .ok (.ifCond .eq 10, 3) := by decide +kernel
theorem dM_pieces_44 : decode cM_pieces 44 = .ok (.iconst 1, 1) := by decide +kernel
theorem dM_pieces_45 : decode cM_pieces 45 = .ok (.iload 4, 2) := by decide +kernel
theorem dM_pieces_47 : decode cM_pieces 47 = .ok (.ishl, 1) := by decide +kernel
theorem dM_pieces_48 : decode cM_pieces 48 = .ok (.goto 4, 3) := by decide +kernel
theorem dM_pieces_51 : decode cM_pieces 51 = .ok (.iconst 0, 1) := by decide +kernel
theorem dM_pieces_52 : decode cM_pieces 52 = .ok (.iadd, 1) := by decide +kernel
theorem dM_pieces_53 : decode cM_pieces 53 = .ok (.istore_n 3, 1) := by decide +kernel
theorem dM_pieces_54 : decode cM_pieces 54 = .ok (.iinc 4 1, 3) := by decide +kernel
theorem dM_pieces_57 : decode cM_pieces 57 = .ok (.goto (-41), 3) := by decide +kernel
theorem dM_pieces_60 : decode cM_pieces 60 = .ok (.iload_n 3, 1) := by decide +kernel
theorem dM_pieces_61 : decode cM_pieces 61 = .ok (.ireturn, 1) := by decide +kernel
theorem dM_holder_0 : decode cM_holder 0 = .ok (.aload_n 0, 1) := by decide +kernel
theorem dM_holder_1 : decode cM_holder 1 = .ok (.iload_n 1, 1) := by decide +kernel
theorem dM_holder_2 : decode cM_holder 2 = .ok (.iload_n 2, 1) := by decide +kernel
theorem dM_holder_3 : decode cM_holder 3 = .ok (.iload_n 3, 1) := by decide +kernel
theorem dM_holder_4 : decode cM_holder 4 = .ok (.invokevirtual 101, 3) := by decide +kernel
theorem dM_holder_7 : decode cM_holder 7 = .ok (.ifCond .eq 75, 3) := by decide +kernel
theorem dM_holder_10 : decode cM_holder 10 = .ok (.iconst 0, 1) := by decide +kernel
theorem dM_holder_11 : decode cM_holder 11 = .ok (.istore 4, 2) := by decide +kernel
theorem dM_holder_13 : decode cM_holder 13 = .ok (.iload 4, 2) := by decide +kernel
theorem dM_holder_15 : decode cM_holder 15 = .ok (.aload_n 0, 1) := by decide +kernel
theorem dM_holder_16 : decode cM_holder 16 = .ok (.getfield 141, 3) := by decide +kernel
theorem dM_holder_19 : decode cM_holder 19 = .ok (.if_icmp .ge 63, 3) := by decide +kernel
theorem dM_holder_22 : decode cM_holder 22 = .ok (.iconst 0, 1) := by decide +kernel
theorem dM_holder_23 : decode cM_holder 23 = .ok (.istore 5, 2) := by decide +kernel
theorem dM_holder_25 : decode cM_holder 25 = .ok (.iload 5, 2) := by decide +kernel
theorem dM_holder_27 : decode cM_holder 27 = .ok (.aload_n 0, 1) := by decide +kernel
theorem dM_holder_28 : decode cM_holder 28 = .ok (.getfield 35, 3) := by decide +kernel
theorem dM_holder_31 : decode cM_holder 31 = .ok (.iload 4, 2) := by decide +kernel
theorem dM_holder_33 : decode cM_holder 33 = .ok (.iaload, 1) := by decide +kernel
theorem dM_holder_34 : decode cM_holder 34 = .ok (.if_icmp .ge 42, 3) := by decide +kernel
theorem dM_holder_37 : decode cM_holder 37 = .ok (.aload_n 0, 1) := by decide +kernel
theorem dM_holder_38 : decode cM_holder 38 = .ok (.getfield 32, 3) := by decide +kernel
theorem dM_holder_41 : decode cM_holder 41 = .ok (.sipush 300, 3) := by decide +kernel
theorem dM_holder_44 : decode cM_holder 44 = .ok (.iload 4, 2) := by decide +kernel
theorem dM_holder_46 : decode cM_holder 46 = .ok (.imul, 1) := by decide +kernel
theorem dM_holder_47 : decode cM_holder 47 = .ok (.iload 5, 2) := by decide +kernel
theorem dM_holder_49 : decode cM_holder 49 = .ok (.iadd, 1) := by decide +kernel
theorem dM_holder_50 : decode cM_holder 50 = .ok (.iaload, 1) := by decide +kernel
theorem dM_holder_51 : decode cM_holder 51 = .ok (.iconst 2, 1) := by decide +kernel
theorem dM_holder_52 : decode cM_holder 52 = .ok (.idiv, 1) := by decide +kernel
theorem dM_holder_53 : decode cM_holder 53 = .ok (.bipush 6, 2) := by decide +kernel
theorem dM_holder_55 : decode cM_holder 55 = .ok (.bipush 8, 2) := by decide +kernel
theorem dM_holder_57 : decode cM_holder 57 = .ok (.iload_n 2, 1) := by decide +kernel
theorem dM_holder_58 : decode cM_holder 58 = .ok (.imul, 1) := by decide +kernel
theorem dM_holder_59 : decode cM_holder 59 = .ok (.iload_n 1, 1) := by decide +kernel
theorem dM_holder_60 : decode cM_holder 60 = .ok (.iadd, 1) := by decide +kernel
theorem dM_holder_61 : decode cM_holder 61 = .ok (.imul, 1) := by decide +kernel
theorem dM_holder_62 : decode cM_holder 62 = .ok (.iload_n 3, 1) := by decide +kernel
theorem dM_holder_63 : decode cM_holder 63 = .ok (.iadd, 1) := by decide +kernel
theorem dM_holder_64 : decode cM_holder 64 = .ok (.if_icmp .ne 6, 3) := by decide +kernel
theorem dM_holder_67 : decode cM_holder 67 = .ok (.iload 4, 2) := by decide +kernel
theorem dM_holder_69 : decode cM_holder 69 = .ok (.ireturn, 1) := by decide +kernel
theorem dM_holder_70 : decode cM_holder 70 = .ok (.iinc 5 1, 3) := by decide +kernel
theorem dM_holder_73 : decode cM_holder 73 = .ok (.goto (-48), 3) := by decide +kernel
theorem dM_holder_76 : decode cM_holder 76 = .ok (.iinc 4 1, 3) := by decide +kernel
theorem dM_holder_79 : decode cM_holder 79 = .ok (.goto (-66), 3) := by decide +kernel
theorem dM_holder_82 : decode cM_holder 82 = .ok (.iconst (-1), 1) := by decide +kernel
theorem dM_holder_83 : decode cM_holder 83 = .ok (.ireturn, 1) := by decide +kernel
theorem dM_crossesItself_0 : decode cM_crossesItself 0 = .ok (.iconst 0, 1) := by decide +kernel
theorem dM_crossesItself_1 : decode cM_crossesItself 1 = .ok (.istore_n 1, 1) := by decide +kernel
theorem dM_crossesItself_2 : decode cM_crossesItself 2 = .ok (.iload_n 1, 1) := by decide +kernel
theorem dM_crossesItself_3 : decode cM_crossesItself 3 = .ok (.aload_n 0, 1) := by decide +kernel
theorem dM_crossesItself_4 : decode cM_crossesItself 4 = .ok (.getfield 147, 3) := by decide +kernel
theorem dM_crossesItself_7 : decode cM_crossesItself 7 = .ok (.if_icmp .ge 46, 3) := by decide +kernel
theorem dM_crossesItself_10 : decode cM_crossesItself 10 = .ok (.iconst 0, 1) := by decide +kernel
theorem dM_crossesItself_11 : decode cM_crossesItself 11 = .ok (.istore_n 2, 1) := by decide +kernel
theorem dM_crossesItself_12 : decode cM_crossesItself 12 = .ok (.iload_n 2, 1) := by decide +kernel
theorem dM_crossesItself_13 : decode cM_crossesItself 13 = .ok (.iload_n 1, 1) := by decide +kernel
theorem dM_crossesItself_14 : decode cM_crossesItself 14 = .ok (.if_icmp .ge 33, 3) := by decide +kernel
theorem dM_crossesItself_17 : decode cM_crossesItself 17 = .ok (.aload_n 0, 1) := by decide +kernel
theorem dM_crossesItself_18 : decode cM_crossesItself 18 = .ok (.getfield 62, 3) := by decide +kernel
theorem dM_crossesItself_21 : decode cM_crossesItself 21 = .ok (.iload_n 1, 1) := by decide +kernel
theorem dM_crossesItself_22 : decode cM_crossesItself 22 = .ok (.iaload, 1) := by decide +kernel
theorem dM_crossesItself_23 : decode cM_crossesItself 23 = .ok (.iconst 2, 1) := by decide +kernel
theorem dM_crossesItself_24 : decode cM_crossesItself 24 = .ok (.idiv, 1) := by decide +kernel
theorem dM_crossesItself_25 : decode cM_crossesItself 25 = .ok (.aload_n 0, 1) := by decide +kernel
theorem dM_crossesItself_26 : decode cM_crossesItself 26 = .ok (.getfield 62, 3) := by decide +kernel
theorem dM_crossesItself_29 : decode cM_crossesItself 29 = .ok (.iload_n 2, 1) := by decide +kernel
theorem dM_crossesItself_30 : decode cM_crossesItself 30 = .ok (.iaload, 1) := by decide +kernel
theorem dM_crossesItself_31 : decode cM_crossesItself 31 = .ok (.iconst 2, 1) := by decide +kernel
theorem dM_crossesItself_32 : decode cM_crossesItself 32 = .ok (.idiv, 1) := by decide +kernel
theorem dM_crossesItself_33 : decode cM_crossesItself 33 = .ok (.invokestatic 138, 3) := by decide +kernel
theorem dM_crossesItself_36 : decode cM_crossesItself 36 = .ok (.ifCond .eq 5, 3) := by decide +kernel
theorem dM_crossesItself_39 : decode cM_crossesItself 39 = .ok (.iconst 1, 1) := by decide +kernel
theorem dM_crossesItself_40 : decode cM_crossesItself 40 = .ok (.ireturn, 1) := by decide +kernel
theorem dM_crossesItself_41 : decode cM_crossesItself 41 = .ok (.iinc 2 1, 3) := by decide +kernel
theorem dM_crossesItself_44 : decode cM_crossesItself 44 = .ok (.goto (-32), 3) := by decide +kernel
theorem dM_crossesItself_47 : decode cM_crossesItself 47 = .ok (.iinc 1 1, 3) := by decide +kernel
theorem dM_crossesItself_50 : decode cM_crossesItself 50 = .ok (.goto (-48), 3) := by decide +kernel
theorem dM_crossesItself_53 : decode cM_crossesItself 53 = .ok (.iconst 0, 1) := by decide +kernel
theorem dM_crossesItself_54 : decode cM_crossesItself 54 = .ok (.ireturn, 1) := by decide +kernel
theorem dM_canGrant_0 : decode cM_canGrant 0 = .ok (.aload_n 0, 1) := by decide +kernel
theorem dM_canGrant_1 : decode cM_canGrant 1 = .ok (.invokevirtual 157, 3) := by decide +kernel
theorem dM_canGrant_4 : decode cM_canGrant 4 = .ok (.ifCond .ne 7, 3) := by decide +kernel
theorem dM_canGrant_7 : decode cM_canGrant 7 = .ok (.iconst 1, 1) := by decide +kernel
theorem dM_canGrant_8 : decode cM_canGrant 8 = .ok (.goto 4, 3) := by decide +kernel
theorem dM_canGrant_11 : decode cM_canGrant 11 = .ok (.iconst 0, 1) := by decide +kernel
theorem dM_canGrant_12 : decode cM_canGrant 12 = .ok (.istore_n 1, 1) := by decide +kernel
theorem dM_canGrant_13 : decode cM_canGrant 13 = .ok (.iconst 0, 1) := by decide +kernel
theorem dM_canGrant_14 : decode cM_canGrant 14 = .ok (.istore_n 2, 1) := by decide +kernel
theorem dM_canGrant_15 : decode cM_canGrant 15 = .ok (.iload_n 2, 1) := by decide +kernel
theorem dM_canGrant_16 : decode cM_canGrant 16 = .ok (.aload_n 0, 1) := by decide +kernel
theorem dM_canGrant_17 : decode cM_canGrant 17 = .ok (.getfield 147, 3) := by decide +kernel
theorem dM_canGrant_20 : decode cM_canGrant 20 = .ok (.if_icmp .ge 34, 3) := by decide +kernel
theorem dM_canGrant_23 : decode cM_canGrant 23 = .ok (.iload_n 1, 1) := by decide +kernel
theorem dM_canGrant_24 : decode cM_canGrant 24 = .ok (.ifCond .eq 30, 3) := by decide +kernel
theorem dM_canGrant_27 : decode cM_canGrant 27 = .ok (.aload_n 0, 1) := by decide +kernel
theorem dM_canGrant_28 : decode cM_canGrant 28 = .ok (.aload_n 0, 1) := by decide +kernel
theorem dM_canGrant_29 : decode cM_canGrant 29 = .ok (.getfield 62, 3) := by decide +kernel
theorem dM_canGrant_32 : decode cM_canGrant 32 = .ok (.iload_n 2, 1) := by decide +kernel
theorem dM_canGrant_33 : decode cM_canGrant 33 = .ok (.iaload, 1) := by decide +kernel
theorem dM_canGrant_34 : decode cM_canGrant 34 = .ok (.iconst 2, 1) := by decide +kernel
theorem dM_canGrant_35 : decode cM_canGrant 35 = .ok (.idiv, 1) := by decide +kernel
theorem dM_canGrant_36 : decode cM_canGrant 36 = .ok (.invokevirtual 161, 3) := by decide +kernel
theorem dM_canGrant_39 : decode cM_canGrant 39 = .ok (.ifCond .ne 7, 3) := by decide +kernel
theorem dM_canGrant_42 : decode cM_canGrant 42 = .ok (.iconst 1, 1) := by decide +kernel
theorem dM_canGrant_43 : decode cM_canGrant 43 = .ok (.goto 4, 3) := by decide +kernel
theorem dM_canGrant_46 : decode cM_canGrant 46 = .ok (.iconst 0, 1) := by decide +kernel
theorem dM_canGrant_47 : decode cM_canGrant 47 = .ok (.istore_n 1, 1) := by decide +kernel
theorem dM_canGrant_48 : decode cM_canGrant 48 = .ok (.iinc 2 1, 3) := by decide +kernel
theorem dM_canGrant_51 : decode cM_canGrant 51 = .ok (.goto (-36), 3) := by decide +kernel
theorem dM_canGrant_54 : decode cM_canGrant 54 = .ok (.iload_n 1, 1) := by decide +kernel
theorem dM_canGrant_55 : decode cM_canGrant 55 = .ok (.ireturn, 1) := by decide +kernel
theorem dM_grant_0 : decode cM_grant 0 = .ok (.iconst 0, 1) := by decide +kernel
theorem dM_grant_1 : decode cM_grant 1 = .ok (.istore_n 2, 1) := by decide +kernel
theorem dM_grant_2 : decode cM_grant 2 = .ok (.iload_n 2, 1) := by decide +kernel
theorem dM_grant_3 : decode cM_grant 3 = .ok (.aload_n 0, 1) := by decide +kernel
theorem dM_grant_4 : decode cM_grant 4 = .ok (.getfield 147, 3) := by decide +kernel
theorem dM_grant_7 : decode cM_grant 7 = .ok (.if_icmp .ge 42, 3) := by decide +kernel
theorem dM_grant_10 : decode cM_grant 10 = .ok (.aload_n 0, 1) := by decide +kernel
theorem dM_grant_11 : decode cM_grant 11 = .ok (.getfield 32, 3) := by decide +kernel
theorem dM_grant_14 : decode cM_grant 14 = .ok (.sipush 300, 3) := by decide +kernel
theorem dM_grant_17 : decode cM_grant 17 = .ok (.iload_n 1, 1) := by decide +kernel
theorem dM_grant_18 : decode cM_grant 18 = .ok (.imul, 1) := by decide +kernel
theorem dM_grant_19 : decode cM_grant 19 = .ok (.aload_n 0, 1) := by decide +kernel
theorem dM_grant_20 : decode cM_grant 20 = .ok (.getfield 35, 3) := by decide +kernel
theorem dM_grant_23 : decode cM_grant 23 = .ok (.iload_n 1, 1) := by decide +kernel
theorem dM_grant_24 : decode cM_grant 24 = .ok (.iaload, 1) := by decide +kernel
theorem dM_grant_25 : decode cM_grant 25 = .ok (.iadd, 1) := by decide +kernel
theorem dM_grant_26 : decode cM_grant 26 = .ok (.aload_n 0, 1) := by decide +kernel
theorem dM_grant_27 : decode cM_grant 27 = .ok (.getfield 62, 3) := by decide +kernel
theorem dM_grant_30 : decode cM_grant 30 = .ok (.iload_n 2, 1) := by decide +kernel
theorem dM_grant_31 : decode cM_grant 31 = .ok (.iaload, 1) := by decide +kernel
theorem dM_grant_32 : decode cM_grant 32 = .ok (.iastore, 1) := by decide +kernel
theorem dM_grant_33 : decode cM_grant 33 = .ok (.aload_n 0, 1) := by decide +kernel
theorem dM_grant_34 : decode cM_grant 34 = .ok (.getfield 35, 3) := by decide +kernel
theorem dM_grant_37 : decode cM_grant 37 = .ok (.iload_n 1, 1) := by decide +kernel
theorem dM_grant_38 : decode cM_grant 38 = .ok (.dup2, 1) := by decide +kernel
theorem dM_grant_39 : decode cM_grant 39 = .ok (.iaload, 1) := by decide +kernel
theorem dM_grant_40 : decode cM_grant 40 = .ok (.iconst 1, 1) := by decide +kernel
theorem dM_grant_41 : decode cM_grant 41 = .ok (.iadd, 1) := by decide +kernel
theorem dM_grant_42 : decode cM_grant 42 = .ok (.iastore, 1) := by decide +kernel
theorem dM_grant_43 : decode cM_grant 43 = .ok (.iinc 2 1, 3) := by decide +kernel
theorem dM_grant_46 : decode cM_grant 46 = .ok (.goto (-44), 3) := by decide +kernel
theorem dM_grant_49 : decode cM_grant 49 = .ok (.return_, 1) := by decide +kernel
theorem lfM_62 : Cond.fieldLink R_M 62 "RailYardModel" "request" "[I" ∈ bigW := bw 654 (by decide +kernel) rfl
theorem lfM_147 : Cond.fieldLink R_M 147 "RailYardModel" "asked" "I" ∈ bigW := bw 653 (by decide +kernel) rfl
theorem lmM_161 : Cond.methodLink R_M 161 yM_barred ∈ bigW := bw 815 (by decide +kernel) rfl
theorem lmM_157 : Cond.methodLink R_M 157 yM_crossesItself ∈ bigW := bw 808 (by decide +kernel) rfl
theorem miM_barred : MI yM_barred cM_barred 4 (some .boolean) 1 := ⟨bw 818 (by decide +kernel) rfl, bw 48 (by decide +kernel) rfl, ⟨by decide +kernel, by decide +kernel⟩, by decide +kernel, by decide⟩
theorem mvM_barred : MV yM_barred := ⟨bw 817 (by decide +kernel) rfl, bw 26 (by decide +kernel) rfl⟩
theorem miM_crossesItself : MI yM_crossesItself cM_crossesItself 3 (some .boolean) 0 := ⟨bw 811 (by decide +kernel) rfl, bw 48 (by decide +kernel) rfl, ⟨by decide +kernel, by decide +kernel⟩, by decide +kernel, by decide⟩
theorem mvM_crossesItself : MV yM_crossesItself := ⟨bw 810 (by decide +kernel) rfl, bw 25 (by decide +kernel) rfl⟩
def bfI (q : Int) : Int := if q % 2 = 0 then stt 1 (q / 2 % 6) else stt 0 (q / 2 % 6)
noncomputable def bfT (w : RW) (q : Int) : Int := acr (w 77 0) (w 77 1) (q / 12) (bfI q)
def bfO (q : Int) : Int := (bfI q + 2) % 4
def bfP (w : RW) (q k : Int) : Prop := ¬ w 78 (6 * bfT w q + k) = 0 ∧ hsE k (bfO q)
noncomputable def bef (w : RW) (q : Int) : Int := cif (bfT w q = -1 ∨ fst6 (bfP w q) = -1) (-1) (2 * (6 * bfT w q + fst6 (bfP w q)) + (if bfO q = stt 0 (fst6 (bfP w q)) then 0 else 1))
theorem bfI_rng {q : Int} (h : 0 ≤ q) : 0 ≤ bfI q ∧ bfI q < 4 := by
  unfold bfI
  split
  · exact stt_e (by omega) (by omega)
  · exact stt_e (by omega) (by omega)
theorem lpM_before {G : vG} {X : vX} {Q : State → Prop} {w : RW} {q : Int} (hq : 0 ≤ q ∧ q < 576) (hm : mOK w) (F : FX G X cM_before yM_before.cls 7 2) (hR : RetI G X cM_before 7 Q (fun r u => r = bef w q ∧ w = u)) : ∀ (m : Nat) (i : Int), 6 - i < m → (0 ≤ i) → (i ≤ 6) → (∀ j, 0 ≤ j → j < i → ¬ bfP w q j) → V G X 7 Q 46 [some (.inr 77), some (.inl q), some (.inl (q / 2 % 6)), some (.inl (bfI q)), some (.inl (bfT w q)), some (.inl (bfO q)), some (.inl i)] [] w := by
  have k1 := hm.1
  have hT : bfT w q = -1 ∨ (0 ≤ bfT w q ∧ bfT w q < 48) := acr_rng (by omega) (by omega)
  intro m
  induction m with
  | zero => intro i hm0 h1 h2 hI; omega
  | succ m ih =>
    intro i hm0 h1 h2 hI
    refine V_iload F dM_before_46 rfl ?_
    refine V_bipush F dM_before_48 (by decide) ?_
    refine V_icmp_ge F 127 dM_before_50 (by decide) (fun h50 => ?_) (fun h50 => ?_)
    · refine V_iconst F dM_before_127 (by decide) ?_
      exact hR _ _ _ _ dM_before_128 (by
                    first
                    | (exfalso; omega)
                    | (have hg : 6 ≤ i := h50
                       exact ⟨by unfold bef; rw [cif_t (Or.inr (fst6_no (fun j j1 j2 => hI j j1 (by omega))))], rfl⟩)
                    | (have hg : bfT w q < 0 := h55
                       exact ⟨by unfold bef; rw [cif_t (Or.inl (by omega))], rfl⟩)
                    | (have hf : fst6 (bfP w q) = i := fst6_at ⟨h1, by omega⟩ ⟨by omega, by unfold hsE; omega⟩ hI
                       refine ⟨?_, rfl⟩
                       unfold bef
                       rw [cif_f (by rw [hf]; omega), hf]
                       first
                       | rw [if_pos h111]
                       | rw [if_neg h111]))
    · refine V_iload F dM_before_53 rfl ?_
      refine V_if_lt F 127 dM_before_55 (by decide) (fun h55 => ?_) (fun h55 => ?_)
      · refine V_iconst F dM_before_127 (by decide) ?_
        exact hR _ _ _ _ dM_before_128 (by
                      first
                      | (exfalso; omega)
                      | (have hg : 6 ≤ i := h50
                         exact ⟨by unfold bef; rw [cif_t (Or.inr (fst6_no (fun j j1 j2 => hI j j1 (by omega))))], rfl⟩)
                      | (have hg : bfT w q < 0 := h55
                         exact ⟨by unfold bef; rw [cif_t (Or.inl (by omega))], rfl⟩)
                      | (have hf : fst6 (bfP w q) = i := fst6_at ⟨h1, by omega⟩ ⟨by omega, by unfold hsE; omega⟩ hI
                         refine ⟨?_, rfl⟩
                         unfold bef
                         rw [cif_f (by rw [hf]; omega), hf]
                         first
                         | rw [if_pos h111]
                         | rw [if_neg h111]))
      · refine V_aload_n (i := 0) F dM_before_58 rfl rfl ?_
        refine V_getr (ci := 7) (C := R_M) (T := T_M) (N := 32) F dM_before_59 (by first | rfl | assumption) rfl (j := 2) (by decide) rfl lfM_7 ?_
        refine V_bipush F dM_before_62 (by decide) ?_
        refine V_iload F dM_before_64 rfl ?_
        refine V_imul F dM_before_66 (by omega) ?_
        refine V_iload F dM_before_67 rfl ?_
        refine V_iadd F dM_before_69 (by omega) ?_
        refine V_zald F dM_before_70 (by first | rfl | assumption) rfl (by omega) ?_
        refine V_if_eq F 121 dM_before_71 (by decide) (fun h71 => ?_) (fun h71 => ?_)
        · refine V_iinc F dM_before_121 (by decide) rfl (by omega) (by simp only [List.set_cons_zero, List.set_cons_succ]; exact rfl) ?_
          refine V_goto F 46 dM_before_124 (by decide) ?_
          refine ih (i + 1) (by omega) (by omega) (by omega) (fun j j1 j2 => ?_)
          by_cases e : j = i
          · subst e
            first
            | exact fun z => z.1 (by omega)
            | exact fun z => by have z2 := z.2; unfold hsE at z2; omega
          · exact hI j j1 (by omega)
        · refine V_iload F dM_before_74 rfl ?_
          refine V_iload F dM_before_76 rfl ?_
          refine V_callSi F dM_before_78 lmM_90 miM_firstEdge msM_firstEdge (ctM_firstEdge (by omega)) (by decide) rfl (Nat.le_of_ble_eq_true rfl) (fun r u hr => ?_)
          obtain ⟨rfl, rfl⟩ := hr
          refine V_icmp_eq F 94 dM_before_81 (by decide) (fun h81 => ?_) (fun h81 => ?_)
          · refine V_iconst F dM_before_94 (by decide) ?_
            refine V_bipush F dM_before_95 (by decide) ?_
            refine V_iload F dM_before_97 rfl ?_
            refine V_imul F dM_before_99 (by omega) ?_
            refine V_iload F dM_before_100 rfl ?_
            refine V_iadd F dM_before_102 (by omega) ?_
            refine V_imul F dM_before_103 (by omega) ?_
            refine V_iload F dM_before_104 rfl ?_
            refine V_iload F dM_before_106 rfl ?_
            refine V_callSi F dM_before_108 lmM_90 miM_firstEdge msM_firstEdge (ctM_firstEdge (by omega)) (by decide) rfl (Nat.le_of_ble_eq_true rfl) (fun r u hr => ?_)
            obtain ⟨rfl, rfl⟩ := hr
            refine V_icmp_ne F 118 dM_before_111 (by decide) (fun h111 => ?_) (fun h111 => ?_)
            · refine V_iconst F dM_before_118 (by decide) ?_
              refine V_iadd F dM_before_119 (by omega) ?_
              exact hR _ _ _ _ dM_before_120 (by
                            first
                            | (exfalso; omega)
                            | (have hg : 6 ≤ i := h50
                               exact ⟨by unfold bef; rw [cif_t (Or.inr (fst6_no (fun j j1 j2 => hI j j1 (by omega))))], rfl⟩)
                            | (have hg : bfT w q < 0 := h55
                               exact ⟨by unfold bef; rw [cif_t (Or.inl (by omega))], rfl⟩)
                            | (have hf : fst6 (bfP w q) = i := fst6_at ⟨h1, by omega⟩ ⟨by omega, by unfold hsE; omega⟩ hI
                               refine ⟨?_, rfl⟩
                               unfold bef
                               rw [cif_f (by rw [hf]; omega), hf]
                               first
                               | rw [if_pos h111]
                               | rw [if_neg h111]))
            · refine V_iconst F dM_before_114 (by decide) ?_
              refine V_goto F 119 dM_before_115 (by decide) ?_
              refine V_iadd F dM_before_119 (by omega) ?_
              exact hR _ _ _ _ dM_before_120 (by
                            first
                            | (exfalso; omega)
                            | (have hg : 6 ≤ i := h50
                               exact ⟨by unfold bef; rw [cif_t (Or.inr (fst6_no (fun j j1 j2 => hI j j1 (by omega))))], rfl⟩)
                            | (have hg : bfT w q < 0 := h55
                               exact ⟨by unfold bef; rw [cif_t (Or.inl (by omega))], rfl⟩)
                            | (have hf : fst6 (bfP w q) = i := fst6_at ⟨h1, by omega⟩ ⟨by omega, by unfold hsE; omega⟩ hI
                               refine ⟨?_, rfl⟩
                               unfold bef
                               rw [cif_f (by rw [hf]; omega), hf]
                               first
                               | rw [if_pos h111]
                               | rw [if_neg h111]))
          · refine V_iload F dM_before_84 rfl ?_
            refine V_iload F dM_before_86 rfl ?_
            refine V_callSi F dM_before_88 lmM_94 miM_secondEdge msM_secondEdge (ctM_secondEdge (by omega)) (by decide) rfl (Nat.le_of_ble_eq_true rfl) (fun r u hr => ?_)
            obtain ⟨rfl, rfl⟩ := hr
            refine V_icmp_ne F 121 dM_before_91 (by decide) (fun h91 => ?_) (fun h91 => ?_)
            · refine V_iinc F dM_before_121 (by decide) rfl (by omega) (by simp only [List.set_cons_zero, List.set_cons_succ]; exact rfl) ?_
              refine V_goto F 46 dM_before_124 (by decide) ?_
              refine ih (i + 1) (by omega) (by omega) (by omega) (fun j j1 j2 => ?_)
              by_cases e : j = i
              · subst e
                first
                | exact fun z => z.1 (by omega)
                | exact fun z => by have z2 := z.2; unfold hsE at z2; omega
              · exact hI j j1 (by omega)
            · refine V_iconst F dM_before_94 (by decide) ?_
              refine V_bipush F dM_before_95 (by decide) ?_
              refine V_iload F dM_before_97 rfl ?_
              refine V_imul F dM_before_99 (by omega) ?_
              refine V_iload F dM_before_100 rfl ?_
              refine V_iadd F dM_before_102 (by omega) ?_
              refine V_imul F dM_before_103 (by omega) ?_
              refine V_iload F dM_before_104 rfl ?_
              refine V_iload F dM_before_106 rfl ?_
              refine V_callSi F dM_before_108 lmM_90 miM_firstEdge msM_firstEdge (ctM_firstEdge (by omega)) (by decide) rfl (Nat.le_of_ble_eq_true rfl) (fun r u hr => ?_)
              obtain ⟨rfl, rfl⟩ := hr
              refine V_icmp_ne F 118 dM_before_111 (by decide) (fun h111 => ?_) (fun h111 => ?_)
              · refine V_iconst F dM_before_118 (by decide) ?_
                refine V_iadd F dM_before_119 (by omega) ?_
                exact hR _ _ _ _ dM_before_120 (by
                              first
                              | (exfalso; omega)
                              | (have hg : 6 ≤ i := h50
                                 exact ⟨by unfold bef; rw [cif_t (Or.inr (fst6_no (fun j j1 j2 => hI j j1 (by omega))))], rfl⟩)
                              | (have hg : bfT w q < 0 := h55
                                 exact ⟨by unfold bef; rw [cif_t (Or.inl (by omega))], rfl⟩)
                              | (have hf : fst6 (bfP w q) = i := fst6_at ⟨h1, by omega⟩ ⟨by omega, by unfold hsE; omega⟩ hI
                                 refine ⟨?_, rfl⟩
                                 unfold bef
                                 rw [cif_f (by rw [hf]; omega), hf]
                                 first
                                 | rw [if_pos h111]
                                 | rw [if_neg h111]))
              · refine V_iconst F dM_before_114 (by decide) ?_
                refine V_goto F 119 dM_before_115 (by decide) ?_
                refine V_iadd F dM_before_119 (by omega) ?_
                exact hR _ _ _ _ dM_before_120 (by
                              first
                              | (exfalso; omega)
                              | (have hg : 6 ≤ i := h50
                                 exact ⟨by unfold bef; rw [cif_t (Or.inr (fst6_no (fun j j1 j2 => hI j j1 (by omega))))], rfl⟩)
                              | (have hg : bfT w q < 0 := h55
                                 exact ⟨by unfold bef; rw [cif_t (Or.inl (by omega))], rfl⟩)
                              | (have hf : fst6 (bfP w q) = i := fst6_at ⟨h1, by omega⟩ ⟨by omega, by unfold hsE; omega⟩ hI
                                 refine ⟨?_, rfl⟩
                                 unfold bef
                                 rw [cif_f (by rw [hf]; omega), hf]
                                 first
                                 | rw [if_pos h111]
                                 | rw [if_neg h111]))
theorem ctM_before {G : vG} {l : Launch} {w : RW} {q : Int} (hq : 0 ≤ q ∧ q < 576) (hm : mOK w) : CTi G l yM_before cM_before 7 .int 2 [.inr 77, .inl q] w (fun r u => r = bef w q ∧ w = u) := by
  refine CTi.int (by decide) (Nat.le_of_ble_eq_true rfl) ?_
  intro X Q F hX hR
  subst hX
  show V G X 7 Q 0 [some (.inr 77), some (.inl q), none, none, none, none, none] [] w
  refine V_iload_n (i := 1) F dM_before_0 rfl rfl ?_
  refine V_iconst F dM_before_1 (by decide) ?_
  refine V_idiv F dM_before_2 (by omega) ?_
  refine V_bipush F dM_before_3 (by decide) ?_
  refine V_irem F dM_before_5 (by omega) ?_
  refine V_istore_n (i := 2) F dM_before_6 rfl (by decide) (by simp only [List.set_cons_zero, List.set_cons_succ]; exact rfl) ?_
  refine V_iload_n (i := 1) F dM_before_7 rfl rfl ?_
  refine V_iconst F dM_before_8 (by decide) ?_
  refine V_irem F dM_before_9 (by omega) ?_
  refine V_if_ne F 20 dM_before_10 (by decide) (fun h10 => ?_) (fun h10 => ?_)
  · refine V_iload_n (i := 2) F dM_before_20 rfl rfl ?_
    refine V_callSi F dM_before_21 lmM_90 miM_firstEdge msM_firstEdge (ctM_firstEdge (by omega)) (by decide) rfl (Nat.le_of_ble_eq_true rfl) (fun r u hr => ?_)
    obtain ⟨rfl, rfl⟩ := hr
    have hbi : bfI q = _ := (by unfold bfI; first | exact if_pos h10 | exact if_neg h10)
    have hbr := bfI_rng (q := q) (by omega)
    rw [← hbi]
    refine V_istore_n (i := 3) F dM_before_24 rfl (by decide) (by simp only [List.set_cons_zero, List.set_cons_succ]; exact rfl) ?_
    refine V_aload_n (i := 0) F dM_before_25 rfl rfl ?_
    refine V_iload_n (i := 1) F dM_before_26 rfl rfl ?_
    refine V_bipush F dM_before_27 (by decide) ?_
    refine V_idiv F dM_before_29 (by omega) ?_
    refine V_iload_n (i := 3) F dM_before_30 rfl rfl ?_
    refine V_callVi F dM_before_31 lmM_112 miM_across mvM_across (ctM_across (by omega) (by omega)) (by decide) (by first | rfl | assumption) rfl rfl (Nat.le_of_ble_eq_true rfl) (fun r u hr => ?_)
    obtain ⟨rfl, rfl⟩ := hr
    refine V_istore F dM_before_34 (by decide) (by simp only [List.set_cons_zero, List.set_cons_succ]; exact rfl) ?_
    refine V_iload_n (i := 3) F dM_before_36 rfl rfl ?_
    refine V_iconst F dM_before_37 (by decide) ?_
    refine V_iadd F dM_before_38 (by omega) ?_
    refine V_iconst F dM_before_39 (by decide) ?_
    refine V_irem F dM_before_40 (by omega) ?_
    refine V_istore F dM_before_41 (by decide) (by simp only [List.set_cons_zero, List.set_cons_succ]; exact rfl) ?_
    refine V_iconst F dM_before_43 (by decide) ?_
    refine V_istore F dM_before_44 (by decide) (by simp only [List.set_cons_zero, List.set_cons_succ]; exact rfl) ?_
    exact lpM_before hq hm F hR 7 0 (by omega) (by omega) (by omega) (fun j j1 j2 => by omega)
  · refine V_iload_n (i := 2) F dM_before_13 rfl rfl ?_
    refine V_callSi F dM_before_14 lmM_94 miM_secondEdge msM_secondEdge (ctM_secondEdge (by omega)) (by decide) rfl (Nat.le_of_ble_eq_true rfl) (fun r u hr => ?_)
    obtain ⟨rfl, rfl⟩ := hr
    refine V_goto F 24 dM_before_17 (by decide) ?_
    have hbi : bfI q = _ := (by unfold bfI; first | exact if_pos h10 | exact if_neg h10)
    have hbr := bfI_rng (q := q) (by omega)
    rw [← hbi]
    refine V_istore_n (i := 3) F dM_before_24 rfl (by decide) (by simp only [List.set_cons_zero, List.set_cons_succ]; exact rfl) ?_
    refine V_aload_n (i := 0) F dM_before_25 rfl rfl ?_
    refine V_iload_n (i := 1) F dM_before_26 rfl rfl ?_
    refine V_bipush F dM_before_27 (by decide) ?_
    refine V_idiv F dM_before_29 (by omega) ?_
    refine V_iload_n (i := 3) F dM_before_30 rfl rfl ?_
    refine V_callVi F dM_before_31 lmM_112 miM_across mvM_across (ctM_across (by omega) (by omega)) (by decide) (by first | rfl | assumption) rfl rfl (Nat.le_of_ble_eq_true rfl) (fun r u hr => ?_)
    obtain ⟨rfl, rfl⟩ := hr
    refine V_istore F dM_before_34 (by decide) (by simp only [List.set_cons_zero, List.set_cons_succ]; exact rfl) ?_
    refine V_iload_n (i := 3) F dM_before_36 rfl rfl ?_
    refine V_iconst F dM_before_37 (by decide) ?_
    refine V_iadd F dM_before_38 (by omega) ?_
    refine V_iconst F dM_before_39 (by decide) ?_
    refine V_irem F dM_before_40 (by omega) ?_
    refine V_istore F dM_before_41 (by decide) (by simp only [List.set_cons_zero, List.set_cons_succ]; exact rfl) ?_
    refine V_iconst F dM_before_43 (by decide) ?_
    refine V_istore F dM_before_44 (by decide) (by simp only [List.set_cons_zero, List.set_cons_succ]; exact rfl) ?_
    exact lpM_before hq hm F hR 7 0 (by omega) (by omega) (by omega) (fun j j1 j2 => by omega)
def pcN (w : RW) (c : Int) : Nat → Int
  | 0 => 0
  | n + 1 => pcN w c n + (if w 78 (6 * c + n) = 0 then 0 else p2 n)
theorem p2_s : ∀ n, n < 6 → 0 ≤ p2 ((n : Nat) : Int) ∧ p2 ((n : Nat) : Int) ≤ 32 := by decide +kernel
theorem pcN_s {w : RW} {c i : Int} (h : 0 ≤ i) : pcN w c (i + 1).toNat = pcN w c i.toNat + (if w 78 (6 * c + i) = 0 then 0 else p2 i) := by
  rw [show (i + 1).toNat = i.toNat + 1 by omega]
  show pcN w c i.toNat + (if w 78 (6 * c + (i.toNat : Int)) = 0 then 0 else p2 (i.toNat : Int)) = _
  rw [show (i.toNat : Int) = i by omega]
theorem pcN_rng {w : RW} {c : Int} : ∀ n, n ≤ 6 → 0 ≤ pcN w c n ∧ pcN w c n ≤ 32 * n
  | 0, _ => ⟨Int.le_refl _, by show (0 : Int) ≤ _; omega⟩
  | n + 1, h => by
    have h1 := pcN_rng (w := w) (c := c) n (by omega)
    have h2 := p2_s n (by omega)
    show 0 ≤ pcN w c n + (if w 78 (6 * c + n) = 0 then 0 else p2 n) ∧ pcN w c n + (if w 78 (6 * c + n) = 0 then 0 else p2 n) ≤ _
    split <;> omega
theorem lpM_pieces {G : vG} {X : vX} {Q : State → Prop} {w : RW} {x y : Int} (hx : 0 ≤ x ∧ x < 8 ∧ 0 ≤ y ∧ y < 6) (F : FX G X cM_pieces yM_pieces.cls 5 1) (hR : RetI G X cM_pieces 5 Q (fun r u => r = pcN w (8 * y + x) 6 ∧ w = u)) : ∀ (m : Nat) (i a : Int), 6 - i < m → (0 ≤ i) → (i ≤ 6) → (a = pcN w (8 * y + x) i.toNat) → V G X 5 Q 16 [some (.inr 77), some (.inl x), some (.inl y), some (.inl a), some (.inl i)] [] w := by
  intro m
  induction m with
  | zero => intro i a hm0 h1 h2 ha; omega
  | succ m ih =>
    intro i a hm0 h1 h2 ha
    have hr := pcN_rng (w := w) (c := 8 * y + x) i.toNat (by omega)
    rw [← ha] at hr
    refine V_iload F dM_pieces_16 rfl ?_
    refine V_bipush F dM_pieces_18 (by decide) ?_
    refine V_icmp_ge F 60 dM_pieces_20 (by decide) (fun h20 => ?_) (fun h20 => ?_)
    · refine V_iload_n (i := 3) F dM_pieces_60 rfl rfl ?_
      exact hR _ _ _ _ dM_pieces_61 (by rw [show i = 6 by omega] at ha; exact ⟨ha, rfl⟩)
    · refine V_iload_n (i := 3) F dM_pieces_23 rfl rfl ?_
      refine V_aload_n (i := 0) F dM_pieces_24 rfl rfl ?_
      refine V_getr (ci := 7) (C := R_M) (T := T_M) (N := 32) F dM_pieces_25 (by first | rfl | assumption) rfl (j := 2) (by decide) rfl lfM_7 ?_
      refine V_bipush F dM_pieces_28 (by decide) ?_
      refine V_bipush F dM_pieces_30 (by decide) ?_
      refine V_iload_n (i := 2) F dM_pieces_32 rfl rfl ?_
      refine V_imul F dM_pieces_33 (by omega) ?_
      refine V_iload_n (i := 1) F dM_pieces_34 rfl rfl ?_
      refine V_iadd F dM_pieces_35 (by omega) ?_
      refine V_imul F dM_pieces_36 (by omega) ?_
      refine V_iload F dM_pieces_37 rfl ?_
      refine V_iadd F dM_pieces_39 (by omega) ?_
      refine V_zald F dM_pieces_40 (by first | rfl | assumption) rfl (by omega) ?_
      refine V_if_eq F 51 dM_pieces_41 (by decide) (fun h41 => ?_) (fun h41 => ?_)
      · refine V_iconst F dM_pieces_51 (by decide) ?_
        have hp2 := p2_s i.toNat (by omega)
        rw [show (i.toNat : Int) = i by omega] at hp2
        refine V_iadd F dM_pieces_52 (by omega) ?_
        refine V_istore_n (i := 3) F dM_pieces_53 rfl (by decide) (by simp only [List.set_cons_zero, List.set_cons_succ]; exact rfl) ?_
        refine V_iinc F dM_pieces_54 (by decide) rfl (by omega) (by simp only [List.set_cons_zero, List.set_cons_succ]; exact rfl) ?_
        refine V_goto F 16 dM_pieces_57 (by decide) ?_
        exact ih (i + 1) _ (by omega) (by omega) (by omega) (by rw [pcN_s h1, ← ha]; first | rw [if_pos h41] | rw [if_neg h41])
      · refine V_iconst F dM_pieces_44 (by decide) ?_
        refine V_iload F dM_pieces_45 rfl ?_
        refine V_ishl F _ dM_pieces_47 (ishl_1 (by omega)) ?_
        refine V_goto F 52 dM_pieces_48 (by decide) ?_
        have hp2 := p2_s i.toNat (by omega)
        rw [show (i.toNat : Int) = i by omega] at hp2
        refine V_iadd F dM_pieces_52 (by omega) ?_
        refine V_istore_n (i := 3) F dM_pieces_53 rfl (by decide) (by simp only [List.set_cons_zero, List.set_cons_succ]; exact rfl) ?_
        refine V_iinc F dM_pieces_54 (by decide) rfl (by omega) (by simp only [List.set_cons_zero, List.set_cons_succ]; exact rfl) ?_
        refine V_goto F 16 dM_pieces_57 (by decide) ?_
        exact ih (i + 1) _ (by omega) (by omega) (by omega) (by rw [pcN_s h1, ← ha]; first | rw [if_pos h41] | rw [if_neg h41])
theorem ctM_pieces {G : vG} {l : Launch} {w : RW} {x y : Int} (hm : mOK w) : CTi G l yM_pieces cM_pieces 5 .int 1 [.inr 77, .inl x, .inl y] w (fun r u => r = cif (isT (w 77 0) (w 77 1) x y) (pcN w (8 * y + x) 6) (-1) ∧ w = u) := by
  refine CTi.int (by decide) (Nat.le_of_ble_eq_true rfl) ?_
  intro X Q F hX hR
  subst hX
  show V G X 5 Q 0 [some (.inr 77), some (.inl x), some (.inl y), none, none] [] w
  have k1 := hm.1
  refine V_aload_n (i := 0) F dM_pieces_0 rfl rfl ?_
  refine V_iload_n (i := 1) F dM_pieces_1 rfl rfl ?_
  refine V_iload_n (i := 2) F dM_pieces_2 rfl rfl ?_
  refine V_callVi F dM_pieces_3 lmM_97 miM_isTile mvM_isTile (ctM_isTile) (by decide) (by first | rfl | assumption) rfl rfl (Nat.le_of_ble_eq_true rfl) (fun r u hr => ?_)
  obtain ⟨rfl, rfl⟩ := hr
  refine V_if_ne F 11 dM_pieces_6 (by decide) (fun h6 => ?_) (fun h6 => ?_)
  · first | (replace h6 := bz_ne0.mp h6) | (replace h6 := bz_eq0.mp h6) | skip
    have hh : 0 ≤ x ∧ x < w 77 0 ∧ 0 ≤ y ∧ y < w 77 1 := h6
    refine V_iconst F dM_pieces_11 (by decide) ?_
    refine V_istore_n (i := 3) F dM_pieces_12 rfl (by decide) (by simp only [List.set_cons_zero, List.set_cons_succ]; exact rfl) ?_
    refine V_iconst F dM_pieces_13 (by decide) ?_
    refine V_istore F dM_pieces_14 (by decide) (by simp only [List.set_cons_zero, List.set_cons_succ]; exact rfl) ?_
    exact lpM_pieces (by omega) F (fun pc L z v hd hz => hR pc L z v hd ⟨hz.1.trans (cif_t h6).symm, hz.2⟩) 7 0 0 (by omega) (by omega) (by omega) rfl
  · first | (replace h6 := bz_ne0.mp h6) | (replace h6 := bz_eq0.mp h6) | skip
    refine V_iconst F dM_pieces_9 (by decide) ?_
    exact hR _ _ _ _ dM_pieces_10 (⟨(cif_f h6).symm, rfl⟩)
def hoM (w : RW) (x y p r : Int) : Prop := (lpc w x y p ∧ (0 ≤ r ∧ r < w 77 10) ∧ ∃ k, 0 ≤ k ∧ k < w 86 r ∧ w 85 (300 * r + k) / 2 = 6 * (8 * y + x) + p) ∨ (r = -1 ∧ ¬ (lpc w x y p ∧ ∃ t k, (0 ≤ t ∧ t < w 77 10) ∧ 0 ≤ k ∧ k < w 86 t ∧ w 85 (300 * t + k) / 2 = 6 * (8 * y + x) + p))
theorem lpM_holderI {G : vG} {X : vX} {Q : State → Prop} {w : RW} {x y p t : Int} (hl : lpc w x y p) (ht : 0 ≤ t ∧ t < w 77 10) (hm : mOK w) (F : FX G X cM_holder yM_holder.cls 6 2) (hR : RetI G X cM_holder 6 Q (fun r u => hoM w x y p r ∧ w = u)) (K : ∀ k, (∀ j, 0 ≤ j → j < w 86 t → ¬ w 85 (300 * t + j) / 2 = 6 * (8 * y + x) + p) → V G X 6 Q 76 [some (.inr 77), some (.inl x), some (.inl y), some (.inl p), some (.inl t), some (.inl k)] [] w) : ∀ (m : Nat) (k : Int), w 86 t - k < m → (0 ≤ k) → (k ≤ w 86 t) → (∀ j, 0 ≤ j → j < k → ¬ w 85 (300 * t + j) / 2 = 6 * (8 * y + x) + p) → V G X 6 Q 25 [some (.inr 77), some (.inl x), some (.inl y), some (.inl p), some (.inl t), some (.inl k)] [] w := by
  have k1 := hm.1
  have k3 := hm.2.2.1
  have k5 := hm.2.2.2.2.1 t ht.1 (by omega)
  have hh : (0 ≤ x ∧ x < w 77 0 ∧ 0 ≤ y ∧ y < w 77 1) ∧ (0 ≤ p ∧ p ≤ 5) ∧ ¬ w 78 (6 * (8 * y + x) + p) = 0 := hl
  intro m
  induction m with
  | zero => intro k hm0 h1 h2 hI; omega
  | succ m ih =>
    intro k hm0 h1 h2 hI
    refine V_iload F dM_holder_25 rfl ?_
    refine V_aload_n (i := 0) F dM_holder_27 rfl rfl ?_
    refine V_getr (ci := 7) (C := R_M) (T := T_M) (N := 32) F dM_holder_28 (by first | rfl | assumption) rfl (j := 12) (by decide) rfl lfM_35 ?_
    refine V_iload F dM_holder_31 rfl ?_
    first
      | refine V_sald F dM_holder_33 (by decide) (by omega) (stt_in _ _) ?_
      | refine V_iald F dM_holder_33 (by first | rfl | assumption) rfl (by omega) ?_
    refine V_icmp_ge F 76 dM_holder_34 (by decide) (fun h34 => ?_) (fun h34 => ?_)
    · exact K k (fun j j1 j2 => hI j j1 (by omega))
    · have k6 := hm.2.2.2.2.2.1 (300 * t + k) (by omega) (by omega)
      refine V_aload_n (i := 0) F dM_holder_37 rfl rfl ?_
      refine V_getr (ci := 7) (C := R_M) (T := T_M) (N := 32) F dM_holder_38 (by first | rfl | assumption) rfl (j := 11) (by decide) rfl lfM_32 ?_
      refine V_sipush F dM_holder_41 (by decide) ?_
      refine V_iload F dM_holder_44 rfl ?_
      refine V_imul F dM_holder_46 (by omega) ?_
      refine V_iload F dM_holder_47 rfl ?_
      refine V_iadd F dM_holder_49 (by omega) ?_
      first
        | refine V_sald F dM_holder_50 (by decide) (by omega) (stt_in _ _) ?_
        | refine V_iald F dM_holder_50 (by first | rfl | assumption) rfl (by omega) ?_
      refine V_iconst F dM_holder_51 (by decide) ?_
      refine V_idiv F dM_holder_52 (by omega) ?_
      refine V_bipush F dM_holder_53 (by decide) ?_
      refine V_bipush F dM_holder_55 (by decide) ?_
      refine V_iload_n (i := 2) F dM_holder_57 rfl rfl ?_
      refine V_imul F dM_holder_58 (by omega) ?_
      refine V_iload_n (i := 1) F dM_holder_59 rfl rfl ?_
      refine V_iadd F dM_holder_60 (by omega) ?_
      refine V_imul F dM_holder_61 (by omega) ?_
      refine V_iload_n (i := 3) F dM_holder_62 rfl rfl ?_
      refine V_iadd F dM_holder_63 (by omega) ?_
      refine V_icmp_ne F 70 dM_holder_64 (by decide) (fun h64 => ?_) (fun h64 => ?_)
      · refine V_iinc F dM_holder_70 (by decide) rfl (by omega) (by simp only [List.set_cons_zero, List.set_cons_succ]; exact rfl) ?_
        refine V_goto F 25 dM_holder_73 (by decide) ?_
        refine ih (k + 1) (by omega) (by omega) (by omega) (fun j j1 j2 => ?_)
        by_cases e : j = k
        · subst e; exact h64
        · exact hI j j1 (by omega)
      · refine V_iload F dM_holder_67 rfl ?_
        exact hR _ _ _ _ dM_holder_69 (⟨Or.inl ⟨hl, ht, k, h1, by omega, by omega⟩, rfl⟩)
theorem lpM_holder {G : vG} {X : vX} {Q : State → Prop} {w : RW} {x y p : Int} (hl : lpc w x y p) (hm : mOK w) (F : FX G X cM_holder yM_holder.cls 6 2) (hR : RetI G X cM_holder 6 Q (fun r u => hoM w x y p r ∧ w = u)) : ∀ (m : Nat) (t : Int) (o : Option RV), w 77 10 - t < m → (0 ≤ t) → (t ≤ w 77 10) → (∀ s, 0 ≤ s → s < t → ∀ j, 0 ≤ j → j < w 86 s → ¬ w 85 (300 * s + j) / 2 = 6 * (8 * y + x) + p) → V G X 6 Q 13 [some (.inr 77), some (.inl x), some (.inl y), some (.inl p), some (.inl t), o] [] w := by
  have k3 := hm.2.2.1
  intro m
  induction m with
  | zero => intro t o hm0 h1 h2 hI; omega
  | succ m ih =>
    intro t o hm0 h1 h2 hI
    refine V_iload F dM_holder_13 rfl ?_
    refine V_aload_n (i := 0) F dM_holder_15 rfl rfl ?_
    refine V_geti (ci := 7) (C := R_M) (T := T_M) (N := 32) F dM_holder_16 (by first | rfl | assumption) rfl (j := 10) 10 rfl (by decide) rfl lfM_141 ?_
    refine V_icmp_ge F 82 dM_holder_19 (by decide) (fun h19 => ?_) (fun h19 => ?_)
    · refine V_iconst F dM_holder_82 (by decide) ?_
      exact hR _ _ _ _ dM_holder_83 (⟨Or.inr ⟨rfl, fun z => by obtain ⟨_, t2, k2, a, b, c, d⟩ := z; exact hI t2 a.1 (by omega) k2 b c d⟩, rfl⟩)
    · refine V_iconst F dM_holder_22 (by decide) ?_
      refine V_istore F dM_holder_23 (by decide) (by simp only [List.set_cons_zero, List.set_cons_succ]; exact rfl) ?_
      have k5 := hm.2.2.2.2.1 t h1 (by omega)
      refine lpM_holderI hl ⟨h1, by omega⟩ hm F hR (fun k hk => ?_) ((w 86 t).toNat + 1) 0 (by omega) (by omega) (by omega) (fun j j1 j2 => by omega)
      refine V_iinc F dM_holder_76 (by decide) rfl (by omega) (by simp only [List.set_cons_zero, List.set_cons_succ]; exact rfl) ?_
      refine V_goto F 13 dM_holder_79 (by decide) ?_
      refine ih (t + 1) _ (by omega) (by omega) (by omega) (fun s s1 s2 => ?_)
      by_cases e : s = t
      · subst e; exact hk
      · exact hI s s1 (by omega)
theorem ctM_holder {G : vG} {l : Launch} {w : RW} {x y p : Int} (hm : mOK w) : CTi G l yM_holder cM_holder 6 .int 2 [.inr 77, .inl x, .inl y, .inl p] w (fun r u => hoM w x y p r ∧ w = u) := by
  refine CTi.int (by decide) (Nat.le_of_ble_eq_true rfl) ?_
  intro X Q F hX hR
  subst hX
  show V G X 6 Q 0 [some (.inr 77), some (.inl x), some (.inl y), some (.inl p), none, none] [] w
  refine V_aload_n (i := 0) F dM_holder_0 rfl rfl ?_
  refine V_iload_n (i := 1) F dM_holder_1 rfl rfl ?_
  refine V_iload_n (i := 2) F dM_holder_2 rfl rfl ?_
  refine V_iload_n (i := 3) F dM_holder_3 rfl rfl ?_
  refine V_callVi F dM_holder_4 lmM_101 miM_isPiece mvM_isPiece (ctM_isPiece hm) (by decide) (by first | rfl | assumption) rfl rfl (Nat.le_of_ble_eq_true rfl) (fun r u hr => ?_)
  obtain ⟨rfl, rfl⟩ := hr
  refine V_if_eq F 82 dM_holder_7 (by decide) (fun h7 => ?_) (fun h7 => ?_)
  · first | (replace h7 := bz_ne0.mp h7) | (replace h7 := bz_eq0.mp h7) | skip
    refine V_iconst F dM_holder_82 (by decide) ?_
    exact hR _ _ _ _ dM_holder_83 (⟨Or.inr ⟨rfl, fun z => h7 z.1⟩, rfl⟩)
  · first | (replace h7 := bz_ne0.mp h7) | (replace h7 := bz_eq0.mp h7) | skip
    refine V_iconst F dM_holder_10 (by decide) ?_
    refine V_istore F dM_holder_11 (by decide) (by simp only [List.set_cons_zero, List.set_cons_succ]; exact rfl) ?_
    have k3 := hm.2.2.1
    exact lpM_holder h7 hm F hR 7 0 none (by omega) (by omega) (by omega) (fun s s1 s2 => by omega)
def rqOK (w : RW) : Prop := (0 ≤ w 77 21 ∧ w 77 21 ≤ 600) ∧ ∀ j, 0 ≤ j → j < w 77 21 → 0 ≤ w 95 j ∧ w 95 j < 576
def cxI (w : RW) (n : Int) : Prop := ∃ k j, 0 ≤ j ∧ j < k ∧ k < n ∧ crs (w 95 k / 2) (w 95 j / 2)
def cxs (w : RW) : Prop := cxI w (w 77 21)
theorem lpM_crossesItselfI {G : vG} {X : vX} {Q : State → Prop} {w : RW} {k : Int} (hk : 0 ≤ k ∧ k < w 77 21) (hq : rqOK w) (F : FX G X cM_crossesItself yM_crossesItself.cls 3 1) (hR : RetZ G X cM_crossesItself 3 Q (fun r u => r = bz (cxs w) ∧ w = u)) (K : ∀ j, (∀ j, 0 ≤ j → j < k → ¬ crs (w 95 k / 2) (w 95 j / 2)) → V G X 3 Q 47 [some (.inr 77), some (.inl k), some (.inl j)] [] w) : ∀ (m : Nat) (j : Int), k - j < m → (0 ≤ j) → (j ≤ k) → (∀ i, 0 ≤ i → i < j → ¬ crs (w 95 k / 2) (w 95 i / 2)) → V G X 3 Q 12 [some (.inr 77), some (.inl k), some (.inl j)] [] w := by
  have q1 := hq.1
  have q2 := hq.2 k hk.1 hk.2
  intro m
  induction m with
  | zero => intro j hm0 h1 h2 hI; omega
  | succ m ih =>
    intro j hm0 h1 h2 hI
    refine V_iload_n (i := 2) F dM_crossesItself_12 rfl rfl ?_
    refine V_iload_n (i := 1) F dM_crossesItself_13 rfl rfl ?_
    refine V_icmp_ge F 47 dM_crossesItself_14 (by decide) (fun h14 => ?_) (fun h14 => ?_)
    · first | (replace h14 := bz_ne0.mp h14) | (replace h14 := bz_eq0.mp h14) | skip
      exact K j (fun i i1 i2 => hI i i1 (by omega))
    · first | (replace h14 := bz_ne0.mp h14) | (replace h14 := bz_eq0.mp h14) | skip
      have q3 := hq.2 j h1 (by omega)
      refine V_aload_n (i := 0) F dM_crossesItself_17 rfl rfl ?_
      refine V_getr (ci := 7) (C := R_M) (T := T_M) (N := 32) F dM_crossesItself_18 (by first | rfl | assumption) rfl (j := 22) (by decide) rfl lfM_62 ?_
      refine V_iload_n (i := 1) F dM_crossesItself_21 rfl rfl ?_
      first
        | refine V_sald F dM_crossesItself_22 (by decide) (by omega) (stt_in _ _) ?_
        | refine V_iald F dM_crossesItself_22 (by first | rfl | assumption) rfl (by omega) ?_
      refine V_iconst F dM_crossesItself_23 (by decide) ?_
      refine V_idiv F dM_crossesItself_24 (by omega) ?_
      refine V_aload_n (i := 0) F dM_crossesItself_25 rfl rfl ?_
      refine V_getr (ci := 7) (C := R_M) (T := T_M) (N := 32) F dM_crossesItself_26 (by first | rfl | assumption) rfl (j := 22) (by decide) rfl lfM_62 ?_
      refine V_iload_n (i := 2) F dM_crossesItself_29 rfl rfl ?_
      first
        | refine V_sald F dM_crossesItself_30 (by decide) (by omega) (stt_in _ _) ?_
        | refine V_iald F dM_crossesItself_30 (by first | rfl | assumption) rfl (by omega) ?_
      refine V_iconst F dM_crossesItself_31 (by decide) ?_
      refine V_idiv F dM_crossesItself_32 (by omega) ?_
      refine V_callSi F dM_crossesItself_33 lmM_138 miM_cross msM_cross (ctM_cross (by omega)) (by decide) rfl (Nat.le_of_ble_eq_true rfl) (fun r u hr => ?_)
      obtain ⟨rfl, rfl⟩ := hr
      refine V_if_eq F 41 dM_crossesItself_36 (by decide) (fun h36 => ?_) (fun h36 => ?_)
      · first | (replace h36 := bz_ne0.mp h36) | (replace h36 := bz_eq0.mp h36) | skip
        refine V_iinc F dM_crossesItself_41 (by decide) rfl (by omega) (by simp only [List.set_cons_zero, List.set_cons_succ]; exact rfl) ?_
        refine V_goto F 12 dM_crossesItself_44 (by decide) ?_
        refine ih (j + 1) (by omega) (by omega) (by omega) (fun i i1 i2 => ?_)
        by_cases e : i = j
        · subst e; exact h36
        · exact hI i i1 (by omega)
      · first | (replace h36 := bz_ne0.mp h36) | (replace h36 := bz_eq0.mp h36) | skip
        refine V_iconst F dM_crossesItself_39 (by decide) ?_
        exact hR _ _ _ _ dM_crossesItself_40 (by first | exact Or.inl rfl | exact Or.inr rfl | exact bz_01 _ | assumption) (⟨(bz_t ⟨k, j, h1, by omega, by omega, h36⟩).symm, rfl⟩)
theorem lpM_crossesItself {G : vG} {X : vX} {Q : State → Prop} {w : RW} (hq : rqOK w) (F : FX G X cM_crossesItself yM_crossesItself.cls 3 1) (hR : RetZ G X cM_crossesItself 3 Q (fun r u => r = bz (cxs w) ∧ w = u)) : ∀ (m : Nat) (k : Int) (o : Option RV), w 77 21 - k < m → (0 ≤ k) → (k ≤ w 77 21) → (∀ i, 0 ≤ i → i < k → ∀ j, 0 ≤ j → j < i → ¬ crs (w 95 i / 2) (w 95 j / 2)) → V G X 3 Q 2 [some (.inr 77), some (.inl k), o] [] w := by
  have q1 := hq.1
  intro m
  induction m with
  | zero => intro k o hm0 h1 h2 hI; omega
  | succ m ih =>
    intro k o hm0 h1 h2 hI
    refine V_iload_n (i := 1) F dM_crossesItself_2 rfl rfl ?_
    refine V_aload_n (i := 0) F dM_crossesItself_3 rfl rfl ?_
    refine V_geti (ci := 7) (C := R_M) (T := T_M) (N := 32) F dM_crossesItself_4 (by first | rfl | assumption) rfl (j := 21) 21 rfl (by decide) rfl lfM_147 ?_
    refine V_icmp_ge F 53 dM_crossesItself_7 (by decide) (fun h7 => ?_) (fun h7 => ?_)
    · refine V_iconst F dM_crossesItself_53 (by decide) ?_
      exact hR _ _ _ _ dM_crossesItself_54 (by first | exact Or.inl rfl | exact Or.inr rfl | exact bz_01 _ | assumption) (⟨(bz_f (fun z => by obtain ⟨a, b, c, d, e, f⟩ := z; exact hI a (by omega) (by omega) b c d f)).symm, rfl⟩)
    · refine V_iconst F dM_crossesItself_10 (by decide) ?_
      refine V_istore_n (i := 2) F dM_crossesItself_11 rfl (by decide) (by simp only [List.set_cons_zero, List.set_cons_succ]; exact rfl) ?_
      refine lpM_crossesItselfI ⟨h1, by omega⟩ hq F hR (fun j hj => ?_) (k.toNat + 1) 0 (by omega) (by omega) (by omega) (fun j j1 j2 => by omega)
      refine V_iinc F dM_crossesItself_47 (by decide) rfl (by omega) (by simp only [List.set_cons_zero, List.set_cons_succ]; exact rfl) ?_
      refine V_goto F 2 dM_crossesItself_50 (by decide) ?_
      refine ih (k + 1) _ (by omega) (by omega) (by omega) (fun s s1 s2 => ?_)
      by_cases e : s = k
      · subst e; exact hj
      · exact hI s s1 (by omega)
theorem ctM_crossesItself {G : vG} {l : Launch} {w : RW} (hq : rqOK w) : CTi G l yM_crossesItself cM_crossesItself 3 .boolean 1 [.inr 77] w (fun r u => r = bz (cxs w) ∧ w = u) := by
  refine CTi.bool (by decide) (Nat.le_of_ble_eq_true rfl) ?_
  intro X Q F hX hR
  subst hX
  show V G X 3 Q 0 [some (.inr 77), none, none] [] w
  refine V_iconst F dM_crossesItself_0 (by decide) ?_
  refine V_istore_n (i := 1) F dM_crossesItself_1 rfl (by decide) (by simp only [List.set_cons_zero, List.set_cons_succ]; exact rfl) ?_
  have q1 := hq.1
  exact lpM_crossesItself hq F hR 601 0 none (by omega) (by omega) (by omega) (fun s s1 s2 => by omega)
def cgI (w : RW) (n : Int) : Prop := ¬ cxs w ∧ ∀ k, 0 ≤ k → k < n → ¬ brd w (w 77 10) (w 95 k / 2)
def canG (w : RW) : Prop := cgI w (w 77 21)
theorem lpM_canGrant {G : vG} {X : vX} {Q : State → Prop} {w : RW} (hm : mOK w) (hq : rqOK w) (F : FX G X cM_canGrant yM_canGrant.cls 3 3) (hR : RetZ G X cM_canGrant 3 Q (fun r u => r = bz (canG w) ∧ w = u)) : ∀ (m : Nat) (k f : Int), w 77 21 - k < m → (0 ≤ k) → (k ≤ w 77 21) → (f = bz (cgI w k)) → V G X 3 Q 15 [some (.inr 77), some (.inl f), some (.inl k)] [] w := by
  have q1 := hq.1
  intro m
  induction m with
  | zero => intro k f hm0 h1 h2 hf; omega
  | succ m ih =>
    intro k f hm0 h1 h2 hf
    have hf01 : f = 0 ∨ f = 1 := by rw [hf]; exact bz_01 _
    refine V_iload_n (i := 2) F dM_canGrant_15 rfl rfl ?_
    refine V_aload_n (i := 0) F dM_canGrant_16 rfl rfl ?_
    refine V_geti (ci := 7) (C := R_M) (T := T_M) (N := 32) F dM_canGrant_17 (by first | rfl | assumption) rfl (j := 21) 21 rfl (by decide) rfl lfM_147 ?_
    refine V_icmp_ge F 54 dM_canGrant_20 (by decide) (fun h20 => ?_) (fun h20 => ?_)
    · refine V_iload_n (i := 1) F dM_canGrant_54 rfl rfl ?_
      exact hR _ _ _ _ dM_canGrant_55 (by first | exact Or.inl rfl | exact Or.inr rfl | exact bz_01 _ | assumption) (by
                  first
                  | (rw [show k = w 77 21 by omega] at hf; exact ⟨hf, rfl⟩)
                  | (have hg : ¬ cgI w k := bz_eq0.mp (by rw [← hf]; exact h24)
                     exact ⟨by rw [show f = 0 by omega]; exact (bz_f (fun z => hg ⟨z.1, fun j j1 j2 => z.2 j j1 (by omega)⟩)).symm, rfl⟩))
    · refine V_iload_n (i := 1) F dM_canGrant_23 rfl rfl ?_
      refine V_if_eq F 54 dM_canGrant_24 (by decide) (fun h24 => ?_) (fun h24 => ?_)
      · refine V_iload_n (i := 1) F dM_canGrant_54 rfl rfl ?_
        exact hR _ _ _ _ dM_canGrant_55 (by first | exact Or.inl rfl | exact Or.inr rfl | exact bz_01 _ | assumption) (by
                    first
                    | (rw [show k = w 77 21 by omega] at hf; exact ⟨hf, rfl⟩)
                    | (have hg : ¬ cgI w k := bz_eq0.mp (by rw [← hf]; exact h24)
                       exact ⟨by rw [show f = 0 by omega]; exact (bz_f (fun z => hg ⟨z.1, fun j j1 j2 => z.2 j j1 (by omega)⟩)).symm, rfl⟩))
      · have q3 := hq.2 k h1 (by omega)
        refine V_aload_n (i := 0) F dM_canGrant_27 rfl rfl ?_
        refine V_aload_n (i := 0) F dM_canGrant_28 rfl rfl ?_
        refine V_getr (ci := 7) (C := R_M) (T := T_M) (N := 32) F dM_canGrant_29 (by first | rfl | assumption) rfl (j := 22) (by decide) rfl lfM_62 ?_
        refine V_iload_n (i := 2) F dM_canGrant_32 rfl rfl ?_
        first
          | refine V_sald F dM_canGrant_33 (by decide) (by omega) (stt_in _ _) ?_
          | refine V_iald F dM_canGrant_33 (by first | rfl | assumption) rfl (by omega) ?_
        refine V_iconst F dM_canGrant_34 (by decide) ?_
        refine V_idiv F dM_canGrant_35 (by omega) ?_
        refine V_callVi F dM_canGrant_36 lmM_161 miM_barred mvM_barred (ctM_barred (by omega) hm) (by decide) (by first | rfl | assumption) rfl rfl (Nat.le_of_ble_eq_true rfl) (fun r u hr => ?_)
        obtain ⟨rfl, rfl⟩ := hr
        refine V_if_ne F 46 dM_canGrant_39 (by decide) (fun h39 => ?_) (fun h39 => ?_)
        · refine V_iconst F dM_canGrant_46 (by decide) ?_
          refine V_istore_n (i := 1) F dM_canGrant_47 rfl (by decide) (by simp only [List.set_cons_zero, List.set_cons_succ]; exact rfl) ?_
          refine V_iinc F dM_canGrant_48 (by decide) rfl (by omega) (by simp only [List.set_cons_zero, List.set_cons_succ]; exact rfl) ?_
          refine V_goto F 15 dM_canGrant_51 (by decide) ?_
          have hg : cgI w k := bz_ne0.mp (by rw [← hf]; exact h24)
          first
          | exact ih (k + 1) _ (by omega) (by omega) (by omega) (bz_f (fun z => z.2 k h1 (by omega) (bz_ne0.mp h39))).symm
          | (refine ih (k + 1) _ (by omega) (by omega) (by omega) (bz_t ⟨hg.1, fun j j1 j2 => ?_⟩).symm
             by_cases e : j = k
             · subst e; exact bz_eq0.mp h39
             · exact hg.2 j j1 (by omega))
        · refine V_iconst F dM_canGrant_42 (by decide) ?_
          refine V_goto F 47 dM_canGrant_43 (by decide) ?_
          refine V_istore_n (i := 1) F dM_canGrant_47 rfl (by decide) (by simp only [List.set_cons_zero, List.set_cons_succ]; exact rfl) ?_
          refine V_iinc F dM_canGrant_48 (by decide) rfl (by omega) (by simp only [List.set_cons_zero, List.set_cons_succ]; exact rfl) ?_
          refine V_goto F 15 dM_canGrant_51 (by decide) ?_
          have hg : cgI w k := bz_ne0.mp (by rw [← hf]; exact h24)
          first
          | exact ih (k + 1) _ (by omega) (by omega) (by omega) (bz_f (fun z => z.2 k h1 (by omega) (bz_ne0.mp h39))).symm
          | (refine ih (k + 1) _ (by omega) (by omega) (by omega) (bz_t ⟨hg.1, fun j j1 j2 => ?_⟩).symm
             by_cases e : j = k
             · subst e; exact bz_eq0.mp h39
             · exact hg.2 j j1 (by omega))
theorem ctM_canGrant {G : vG} {l : Launch} {w : RW} (hm : mOK w) (hq : rqOK w) : CTi G l yM_canGrant cM_canGrant 3 .boolean 3 [.inr 77] w (fun r u => r = bz (canG w) ∧ w = u) := by
  refine CTi.bool (by decide) (Nat.le_of_ble_eq_true rfl) ?_
  intro X Q F hX hR
  subst hX
  show V G X 3 Q 0 [some (.inr 77), none, none] [] w
  refine V_aload_n (i := 0) F dM_canGrant_0 rfl rfl ?_
  refine V_callVi F dM_canGrant_1 lmM_157 miM_crossesItself mvM_crossesItself (ctM_crossesItself hq) (by decide) (by first | rfl | assumption) rfl rfl (Nat.le_of_ble_eq_true rfl) (fun r u hr => ?_)
  obtain ⟨rfl, rfl⟩ := hr
  refine V_if_ne F 11 dM_canGrant_4 (by decide) (fun h4 => ?_) (fun h4 => ?_)
  · first | (replace h4 := bz_ne0.mp h4) | (replace h4 := bz_eq0.mp h4) | skip
    refine V_iconst F dM_canGrant_11 (by decide) ?_
    refine V_istore_n (i := 1) F dM_canGrant_12 rfl (by decide) (by simp only [List.set_cons_zero, List.set_cons_succ]; exact rfl) ?_
    refine V_iconst F dM_canGrant_13 (by decide) ?_
    refine V_istore_n (i := 2) F dM_canGrant_14 rfl (by decide) (by simp only [List.set_cons_zero, List.set_cons_succ]; exact rfl) ?_
    have q1 := hq.1
    first
    | exact lpM_canGrant hm hq F hR 601 0 _ (by omega) (by omega) (by omega) (bz_f (fun z => z.1 h4)).symm
    | exact lpM_canGrant hm hq F hR 601 0 _ (by omega) (by omega) (by omega) (bz_t ⟨h4, fun j j1 j2 => by omega⟩).symm
  · first | (replace h4 := bz_ne0.mp h4) | (replace h4 := bz_eq0.mp h4) | skip
    refine V_iconst F dM_canGrant_7 (by decide) ?_
    refine V_goto F 12 dM_canGrant_8 (by decide) ?_
    refine V_istore_n (i := 1) F dM_canGrant_12 rfl (by decide) (by simp only [List.set_cons_zero, List.set_cons_succ]; exact rfl) ?_
    refine V_iconst F dM_canGrant_13 (by decide) ?_
    refine V_istore_n (i := 2) F dM_canGrant_14 rfl (by decide) (by simp only [List.set_cons_zero, List.set_cons_succ]; exact rfl) ?_
    have q1 := hq.1
    first
    | exact lpM_canGrant hm hq F hR 601 0 _ (by omega) (by omega) (by omega) (bz_f (fun z => z.1 h4)).symm
    | exact lpM_canGrant hm hq F hR 601 0 _ (by omega) (by omega) (by omega) (bz_t ⟨h4, fun j j1 j2 => by omega⟩).symm
def gtM (w : RW) (t n : Int) : RW := fun j i => if j = 85 ∧ 300 * t + w 86 t ≤ i ∧ i < 300 * t + w 86 t + n then w 95 (i - (300 * t + w 86 t)) else if j = 86 ∧ i = t then w 86 t + n else w j i
theorem gtM_f {w : RW} {t n : Int} {j : Nat} (h : j ≠ 85) (h2 : j ≠ 86) : gtM w t n j = w j := by
  funext i
  unfold gtM
  rw [if_neg (fun z => h z.1), if_neg (fun z => h2 z.1)]
theorem gtM_86 {w : RW} {t n : Int} : gtM w t n 86 t = w 86 t + n := by
  unfold gtM
  rw [if_neg (fun z => absurd z.1 (by decide)), if_pos ⟨rfl, rfl⟩]
theorem gtM_0 {w : RW} {t : Int} : gtM w t 0 = w := by
  funext j i
  unfold gtM
  rw [if_neg (by omega)]
  split
  · rename_i h; rw [h.1, h.2]; omega
  · rfl
theorem gtM_s {w : RW} {t n : Int} (h : 0 ≤ n) : upw (upw (gtM w t n) 85 (300 * t + gtM w t n 86 t) (gtM w t n 95 n)) 86 t (gtM w t n 86 t + 1) = gtM w t (n + 1) := by
  rw [gtM_86, gtM_f (j := 95) (by decide) (by decide)]
  funext j i
  unfold upw gtM
  by_cases e1 : j = 86 ∧ i = t
  · rw [if_pos e1, if_neg (fun z => by rw [e1.1] at z; exact absurd z.1 (by decide)), if_pos e1]; omega
  · rw [if_neg e1]
    by_cases e2 : j = 85 ∧ i = 300 * t + (w 86 t + n)
    · rw [if_pos e2, if_pos ⟨e2.1, by omega, by omega⟩]; congr 1; omega
    · rw [if_neg e2, if_neg e1]
      by_cases e3 : j = 85 ∧ 300 * t + w 86 t ≤ i ∧ i < 300 * t + w 86 t + n
      · rw [if_pos e3, if_pos ⟨e3.1, by omega, by omega⟩]
      · rw [if_neg e3, if_neg (fun z => by
          by_cases e4 : i = 300 * t + (w 86 t + n)
          · exact e2 ⟨z.1, e4⟩
          · exact e3 ⟨z.1, by omega, by omega⟩), if_neg e1]
theorem lpM_grant {G : vG} {X : vX} {Q : State → Prop} {w : RW} {t : Int} (ht : 0 ≤ t ∧ t < 6) (hn : 0 ≤ w 77 21 ∧ 0 ≤ w 86 t ∧ w 86 t + w 77 21 ≤ 300) (F : FX G X cM_grant yM_grant.cls 3 0) (hR : RetV G X cM_grant 3 Q (fun u => gtM w t (w 77 21) = u)) : ∀ (m : Nat) (k : Int) (v : RW), w 77 21 - k < m → (0 ≤ k) → (k ≤ w 77 21) → (gtM w t k = v) → V G X 3 Q 2 [some (.inr 77), some (.inl t), some (.inl k)] [] v := by
  intro m
  induction m with
  | zero => intro k v hm0 h1 h2 hv; omega
  | succ m ih =>
    intro k v hm0 h1 h2 hv
    have e77 : v 77 = w 77 := by rw [← hv]; exact gtM_f (by decide) (by decide)
    have e95 : v 95 = w 95 := by rw [← hv]; exact gtM_f (by decide) (by decide)
    have e86 : v 86 t = w 86 t + k := by rw [← hv]; exact gtM_86
    rw [← e77] at h2 hn
    refine V_iload_n (i := 2) F dM_grant_2 rfl rfl ?_
    refine V_aload_n (i := 0) F dM_grant_3 rfl rfl ?_
    refine V_geti (ci := 7) (C := R_M) (T := T_M) (N := 32) F dM_grant_4 (by first | rfl | assumption) rfl (j := 21) 21 rfl (by decide) rfl lfM_147 ?_
    refine V_icmp_ge F 49 dM_grant_7 (by decide) (fun h7 => ?_) (fun h7 => ?_)
    · exact hR _ _ _ dM_grant_49 (by rw [← hv, show k = w 77 21 by rw [← e77]; omega])
    · refine V_aload_n (i := 0) F dM_grant_10 rfl rfl ?_
      refine V_getr (ci := 7) (C := R_M) (T := T_M) (N := 32) F dM_grant_11 (by first | rfl | assumption) rfl (j := 11) (by decide) rfl lfM_32 ?_
      refine V_sipush F dM_grant_14 (by decide) ?_
      refine V_iload_n (i := 1) F dM_grant_17 rfl rfl ?_
      refine V_imul F dM_grant_18 (by omega) ?_
      refine V_aload_n (i := 0) F dM_grant_19 rfl rfl ?_
      refine V_getr (ci := 7) (C := R_M) (T := T_M) (N := 32) F dM_grant_20 (by first | rfl | assumption) rfl (j := 12) (by decide) rfl lfM_35 ?_
      refine V_iload_n (i := 1) F dM_grant_23 rfl rfl ?_
      first
        | refine V_sald F dM_grant_24 (by decide) (by omega) (stt_in _ _) ?_
        | refine V_iald F dM_grant_24 (by first | rfl | assumption) rfl (by omega) ?_
      refine V_iadd F dM_grant_25 (by omega) ?_
      refine V_aload_n (i := 0) F dM_grant_26 rfl rfl ?_
      refine V_getr (ci := 7) (C := R_M) (T := T_M) (N := 32) F dM_grant_27 (by first | rfl | assumption) rfl (j := 22) (by decide) rfl lfM_62 ?_
      refine V_iload_n (i := 2) F dM_grant_30 rfl rfl ?_
      first
        | refine V_sald F dM_grant_31 (by decide) (by omega) (stt_in _ _) ?_
        | refine V_iald F dM_grant_31 (by first | rfl | assumption) rfl (by omega) ?_
      refine V_iast F dM_grant_32 (by first | rfl | assumption) rfl (by omega) ?_
      refine V_aload_n (i := 0) F dM_grant_33 rfl rfl ?_
      refine V_getr (ci := 7) (C := R_M) (T := T_M) (N := 32) F dM_grant_34 (by first | rfl | assumption) rfl (j := 12) (by decide) rfl lfM_35 ?_
      refine V_iload_n (i := 1) F dM_grant_37 rfl rfl ?_
      refine V_dup2 F dM_grant_38 ?_
      first
        | refine V_sald F dM_grant_39 (by decide) (by omega) (stt_in _ _) ?_
        | refine V_iald F dM_grant_39 (by first | rfl | assumption) rfl (by omega) ?_
      rw [upw_f (show (86 : Nat) ≠ 85 by decide)]
      refine V_iconst F dM_grant_40 (by decide) ?_
      refine V_iadd F dM_grant_41 (by omega) ?_
      refine V_iast F dM_grant_42 (by first | rfl | assumption) rfl (by omega) ?_
      refine V_iinc F dM_grant_43 (by decide) rfl (by omega) (by simp only [List.set_cons_zero, List.set_cons_succ]; exact rfl) ?_
      refine V_goto F 2 dM_grant_46 (by decide) ?_
      exact ih (k + 1) _ (by rw [e77] at *; omega) (by omega) (by rw [e77] at *; omega) (by rw [← gtM_s h1, hv])
theorem ctM_grant {G : vG} {l : Launch} {w : RW} {t : Int} (ht : 0 ≤ t ∧ t < 6) (hn : 0 ≤ w 77 21 ∧ 0 ≤ w 86 t ∧ w 86 t + w 77 21 ≤ 300) : CTv G l yM_grant cM_grant 3 0 [.inr 77, .inl t] w (fun u => gtM w t (w 77 21) = u) := by
  refine CTv.intro (by decide) (Nat.le_of_ble_eq_true rfl) ?_
  intro X Q F hX hR
  subst hX
  show V G X 3 Q 0 [some (.inr 77), some (.inl t), none] [] w
  refine V_iconst F dM_grant_0 (by decide) ?_
  refine V_istore_n (i := 2) F dM_grant_1 rfl (by decide) (by simp only [List.set_cons_zero, List.set_cons_succ]; exact rfl) ?_
  exact lpM_grant ht hn F hR 301 0 w (by omega) (by omega) (by omega) gtM_0

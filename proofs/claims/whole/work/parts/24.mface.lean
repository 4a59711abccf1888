theorem dM_track_0 : decode cM_track 0 = .ok (.aload_n 0, 1) := by decide +kernel
theorem dM_track_1 : decode cM_track 1 = .ok (.iload_n 1, 1) := by decide +kernel
theorem dM_track_2 : decode cM_track 2 = .ok (.iload_n 2, 1) := by decide +kernel
theorem dM_track_3 : decode cM_track 3 = .ok (.invokevirtual 97, 3) := by decide +kernel
theorem dM_track_6 : decode cM_track 6 = .ok (.ifCond .eq 21, 3) := by decide +kernel
theorem dM_track_9 : decode cM_track 9 = .ok (.iload_n 3, 1) := by decide +kernel
theorem dM_track_10 : decode cM_track 10 = .ok (.ifCond .lt 17, 3) := by decide +kernel
theorem dM_track_13 : decode cM_track 13 = .ok (.iload_n 3, 1) := by decide +kernel
theorem dM_track_14 : decode cM_track 14 = .ok (.iconst 5, 1) := by decide +kernel
theorem dM_track_15 : decode cM_track 15 = .ok (.if_icmp .gt 12, 3) := by decide +kernel
theorem dM_track_18 : decode cM_track 18 = .ok (.aload_n 0, 1) := by decide +kernel
theorem dM_track_19 : decode cM_track 19 = .ok (.iload_n 1, 1) := by decide +kernel
theorem dM_track_20 : decode cM_track 20 = .ok (.iload_n 2, 1) := by decide +kernel
theorem dM_track_21 : decode cM_track 21 = .ok (.invokevirtual 194, 3) := by decide +kernel
theorem dM_track_24 : decode cM_track 24 = .ok (.ifCond .eq 5, 3) := by decide +kernel
theorem dM_track_27 : decode cM_track 27 = .ok (.iconst 0, 1) := by decide +kernel
theorem dM_track_28 : decode cM_track 28 = .ok (.ireturn, 1) := by decide +kernel
theorem dM_track_29 : decode cM_track 29 = .ok (.bipush 6, 2) := by decide +kernel
theorem dM_track_31 : decode cM_track 31 = .ok (.bipush 8, 2) := by decide +kernel
theorem dM_track_33 : decode cM_track 33 = .ok (.iload_n 2, 1) := by decide +kernel
theorem dM_track_34 : decode cM_track 34 = .ok (.imul, 1) := by decide +kernel
theorem dM_track_35 : decode cM_track 35 = .ok (.iload_n 1, 1) := by decide +kernel
theorem dM_track_36 : decode cM_track 36 = .ok (.iadd, 1) := by decide +kernel
theorem dM_track_37 : decode cM_track 37 = .ok (.imul, 1) := by decide +kernel
theorem dM_track_38 : decode cM_track 38 = .ok (.iload_n 3, 1) := by decide +kernel
theorem dM_track_39 : decode cM_track 39 = .ok (.iadd, 1) := by decide +kernel
theorem dM_track_40 : decode cM_track 40 = .ok (.istore 5, 2) := by decide +kernel
theorem dM_track_42 : decode cM_track 42 = .ok (.aload_n 0, 1) := by decide +kernel
theorem dM_track_43 : decode cM_track 43 = .ok (.getfield 7, 3) := by decide +kernel
theorem dM_track_46 : decode cM_track 46 = .ok (.iload 5, 2) := by decide +kernel
theorem dM_track_48 : decode cM_track 48 = .ok (.baload, 1) := by decide +kernel
theorem dM_track_49 : decode cM_track 49 = .ok (.iload 4, 2) := by decide +kernel
theorem dM_track_51 : decode cM_track 51 = .ok (.if_icmp .eq 18, 3) := by decide +kernel
theorem dM_track_54 : decode cM_track 54 = .ok (.iload 4, 2) := by decide +kernel
theorem dM_track_56 : decode cM_track 56 = .ok (.ifCond .ne 15, 3) := by decide +kernel
theorem dM_track_59 : decode cM_track 59 = .ok (.aload_n 0, 1) := by decide +kernel
theorem dM_track_60 : decode cM_track 60 = .ok (.iload_n 1, 1) := by decide +kernel
theorem dM_track_61 : decode cM_track 61 = .ok (.iload_n 2, 1) := by decide +kernel
theorem dM_track_62 : decode cM_track 62 = .ok (.iload_n 3, 1) := by decide +kernel
theorem dM_track_63 : decode cM_track 63 = .ok (.invokevirtual 197, 3) := by decide +kernel
theorem dM_track_66 : decode cM_track 66 = .ok (.ifCond .eq 5, 3) := by decide +kernel
theorem dM_track_69 : decode cM_track 69 = .ok (.iconst 0, 1) := by decide +kernel
theorem dM_track_70 : decode cM_track 70 = .ok (.ireturn, 1) := by decide +kernel
theorem dM_track_71 : decode cM_track 71 = .ok (.aload_n 0, 1) := by decide +kernel
theorem dM_track_72 : decode cM_track 72 = .ok (.getfield 7, 3) := by decide +kernel
theorem dM_track_75 : decode cM_track 75 = .ok (.iload 5, 2) := by decide +kernel
theorem dM_track_77 : decode cM_track 77 = .ok (.iload 4, 2) := by decide +kernel
theorem dM_track_79 : decode cM_track 79 = .ok (.bastore, 1) := by decide +kernel
theorem dM_track_80 : decode cM_track 80 = .ok (.aload_n 0, 1) := by decide +kernel
theorem dM_track_81 : decode cM_track 81 = .ok (.getfield 13, 3) := by decide +kernel
theorem dM_track_84 : decode cM_track 84 = .ok (.iload 5, 2) := by decide +kernel
theorem dM_track_86 : decode cM_track 86 = .ok (.iconst 0, 1) := by decide +kernel
theorem dM_track_87 : decode cM_track 87 = .ok (.iastore, 1) := by decide +kernel
theorem dM_track_88 : decode cM_track 88 = .ok (.aload_n 0, 1) := by decide +kernel
theorem dM_track_89 : decode cM_track 89 = .ok (.invokevirtual 200, 3) := by decide +kernel
theorem dM_track_92 : decode cM_track 92 = .ok (.iconst 1, 1) := by decide +kernel
theorem dM_track_93 : decode cM_track 93 = .ok (.ireturn, 1) := by decide +kernel
theorem dM_signal_0 : decode cM_signal 0 = .ok (.aload_n 0, 1) := by decide +kernel
theorem dM_signal_1 : decode cM_signal 1 = .ok (.iload_n 1, 1) := by decide +kernel
theorem dM_signal_2 : decode cM_signal 2 = .ok (.iload_n 2, 1) := by decide +kernel
theorem dM_signal_3 : decode cM_signal 3 = .ok (.iload_n 3, 1) := by decide +kernel
theorem dM_signal_4 : decode cM_signal 4 = .ok (.iload 4, 2) := by decide +kernel
theorem dM_signal_6 : decode cM_signal 6 = .ok (.invokevirtual 203, 3) := by decide +kernel
theorem dM_signal_9 : decode cM_signal 9 = .ok (.istore 6, 2) := by decide +kernel
theorem dM_signal_11 : decode cM_signal 11 = .ok (.iload 6, 2) := by decide +kernel
theorem dM_signal_13 : decode cM_signal 13 = .ok (.ifCond .lt 33, 3) := by decide +kernel
theorem dM_signal_16 : decode cM_signal 16 = .ok (.aload_n 0, 1) := by decide +kernel
theorem dM_signal_17 : decode cM_signal 17 = .ok (.iload_n 1, 1) := by decide +kernel
theorem dM_signal_18 : decode cM_signal 18 = .ok (.iload_n 2, 1) := by decide +kernel
theorem dM_signal_19 : decode cM_signal 19 = .ok (.invokevirtual 194, 3) := by decide +kernel
theorem dM_signal_22 : decode cM_signal 22 = .ok (.ifCond .ne 24, 3) := by decide +kernel
theorem dM_signal_25 : decode cM_signal 25 = .ok (.aload_n 0, 1) := by decide +kernel
theorem dM_signal_26 : decode cM_signal 26 = .ok (.iload_n 1, 1) := by decide +kernel
theorem dM_signal_27 : decode cM_signal 27 = .ok (.iload_n 2, 1) := by decide +kernel
theorem dM_signal_28 : decode cM_signal 28 = .ok (.iload_n 3, 1) := by decide +kernel
theorem dM_signal_29 : decode cM_signal 29 = .ok (.invokevirtual 197, 3) := by decide +kernel
theorem dM_signal_32 : decode cM_signal 32 = .ok (.ifCond .ne 14, 3) := by decide +kernel
theorem dM_signal_35 : decode cM_signal 35 = .ok (.aload_n 0, 1) := by decide +kernel
theorem dM_signal_36 : decode cM_signal 36 = .ok (.iload 6, 2) := by decide +kernel
theorem dM_signal_38 : decode cM_signal 38 = .ok (.invokevirtual 105, 3) := by decide +kernel
theorem dM_signal_41 : decode cM_signal 41 = .ok (.iload 5, 2) := by decide +kernel
theorem dM_signal_43 : decode cM_signal 43 = .ok (.if_icmp .ne 5, 3) := by decide +kernel
theorem dM_signal_46 : decode cM_signal 46 = .ok (.iconst 0, 1) := by decide +kernel
theorem dM_signal_47 : decode cM_signal 47 = .ok (.ireturn, 1) := by decide +kernel
theorem dM_signal_48 : decode cM_signal 48 = .ok (.aload_n 0, 1) := by decide +kernel
theorem dM_signal_49 : decode cM_signal 49 = .ok (.getfield 13, 3) := by decide +kernel
theorem dM_signal_52 : decode cM_signal 52 = .ok (.iload 6, 2) := by decide +kernel
theorem dM_signal_54 : decode cM_signal 54 = .ok (.iconst 2, 1) := by decide +kernel
theorem dM_signal_55 : decode cM_signal 55 = .ok (.idiv, 1) := by decide +kernel
theorem dM_signal_56 : decode cM_signal 56 = .ok (.dup2, 1) := by decide +kernel
theorem dM_signal_57 : decode cM_signal 57 = .ok (.iaload, 1) := by decide +kernel
theorem dM_signal_58 : decode cM_signal 58 = .ok (.iconst 1, 1) := by decide +kernel
theorem dM_signal_59 : decode cM_signal 59 = .ok (.iload 6, 2) := by decide +kernel
theorem dM_signal_61 : decode cM_signal 61 = .ok (.iconst 2, 1) := by decide +kernel
theorem dM_signal_62 : decode cM_signal 62 = .ok (.irem, 1) := by decide +kernel
theorem dM_signal_63 : decode cM_signal 63 = .ok (.ishl, 1) := by decide +kernel
theorem dM_signal_64 : decode cM_signal 64 = .ok (.ixor, 1) := by decide +kernel
theorem dM_signal_65 : decode cM_signal 65 = .ok (.iastore, 1) := by decide +kernel
theorem dM_signal_66 : decode cM_signal 66 = .ok (.aload_n 0, 1) := by decide +kernel
theorem dM_signal_67 : decode cM_signal 67 = .ok (.invokevirtual 200, 3) := by decide +kernel
theorem dM_signal_70 : decode cM_signal 70 = .ok (.iconst 1, 1) := by decide +kernel
theorem dM_signal_71 : decode cM_signal 71 = .ok (.ireturn, 1) := by decide +kernel
theorem dM_station_0 : decode cM_station 0 = .ok (.iload 4, 2) := by decide +kernel
theorem dM_station_2 : decode cM_station 2 = .ok (.ifCond .lt 63, 3) := by decide +kernel
theorem dM_station_5 : decode cM_station 5 = .ok (.iload 4, 2) := by decide +kernel
theorem dM_station_7 : decode cM_station 7 = .ok (.bipush 50, 2) := by decide +kernel
theorem dM_station_9 : decode cM_station 9 = .ok (.if_icmp .gt 56, 3) := by decide +kernel
theorem dM_station_12 : decode cM_station 12 = .ok (.iload_n 3, 1) := by decide +kernel
theorem dM_station_13 : decode cM_station 13 = .ok (.iconst 1, 1) := by decide +kernel
theorem dM_station_14 : decode cM_station 14 = .ok (.if_icmp .gt 51, 3) := by decide +kernel
theorem dM_station_17 : decode cM_station 17 = .ok (.aload_n 0, 1) := by decide +kernel
theorem dM_station_18 : decode cM_station 18 = .ok (.iload_n 1, 1) := by decide +kernel
theorem dM_station_19 : decode cM_station 19 = .ok (.iload_n 2, 1) := by decide +kernel
theorem dM_station_20 : decode cM_station 20 = .ok (.iload_n 3, 1) := by decide +kernel
theorem dM_station_21 : decode cM_station 21 = .ok (.invokevirtual 101, 3) := by decide +kernel
theorem dM_station_24 : decode cM_station 24 = .ok (.ifCond .eq 41, 3) := by decide +kernel
theorem dM_station_27 : decode cM_station 27 = .ok (.aload_n 0, 1) := by decide +kernel
theorem dM_station_28 : decode cM_station 28 = .ok (.getfield 13, 3) := by decide +kernel
theorem dM_station_31 : decode cM_station 31 = .ok (.bipush 6, 2) := by decide +kernel
theorem dM_station_33 : decode cM_station 33 = .ok (.bipush 8, 2) := by decide +kernel
theorem dM_station_35 : decode cM_station 35 = .ok (.iload_n 2, 1) := by decide +kernel
theorem dM_station_36 : decode cM_station 36 = .ok (.imul, 1) := by decide +kernel
theorem dM_station_37 : decode cM_station 37 = .ok (.iload_n 1, 1) := by decide +kernel
theorem dM_station_38 : decode cM_station 38 = .ok (.iadd, 1) := by decide +kernel
theorem dM_station_39 : decode cM_station 39 = .ok (.imul, 1) := by decide +kernel
theorem dM_station_40 : decode cM_station 40 = .ok (.iload_n 3, 1) := by decide +kernel
theorem dM_station_41 : decode cM_station 41 = .ok (.iadd, 1) := by decide +kernel
theorem dM_station_42 : decode cM_station 42 = .ok (.iaload, 1) := by decide +kernel
theorem dM_station_43 : decode cM_station 43 = .ok (.ifCond .ne 22, 3) := by decide +kernel
theorem dM_station_46 : decode cM_station 46 = .ok (.aload_n 0, 1) := by decide +kernel
theorem dM_station_47 : decode cM_station 47 = .ok (.iload_n 1, 1) := by decide +kernel
theorem dM_station_48 : decode cM_station 48 = .ok (.iload_n 2, 1) := by decide +kernel
theorem dM_station_49 : decode cM_station 49 = .ok (.invokevirtual 194, 3) := by decide +kernel
theorem dM_station_52 : decode cM_station 52 = .ok (.ifCond .ne 13, 3) := by decide +kernel
theorem dM_station_55 : decode cM_station 55 = .ok (.aload_n 0, 1) := by decide +kernel
theorem dM_station_56 : decode cM_station 56 = .ok (.iload_n 1, 1) := by decide +kernel
theorem dM_station_57 : decode cM_station 57 = .ok (.iload_n 2, 1) := by decide +kernel
theorem dM_station_58 : decode cM_station 58 = .ok (.iconst (-1), 1) := by decide +kernel
theorem dM_station_59 : decode cM_station 59 = .ok (.invokevirtual 197, 3) := by decide +kernel
theorem dM_station_62 : decode cM_station 62 = .ok (.ifCond .eq 5, 3) := by decide +kernel
theorem dM_station_65 : decode cM_station 65 = .ok (.iconst (-1), 1) := by decide +kernel
theorem dM_station_66 : decode cM_station 66 = .ok (.ireturn, 1) := by decide +kernel
theorem dM_station_67 : decode cM_station 67 = .ok (.aload_n 0, 1) := by decide +kernel
theorem dM_station_68 : decode cM_station 68 = .ok (.getfield 185, 3) := by decide +kernel
theorem dM_station_71 : decode cM_station 71 = .ok (.bipush 6, 2) := by decide +kernel
theorem dM_station_73 : decode cM_station 73 = .ok (.if_icmp .ne 6, 3) := by decide +kernel
theorem dM_station_76 : decode cM_station 76 = .ok (.bipush (-2), 2) := by decide +kernel
theorem dM_station_78 : decode cM_station 78 = .ok (.ireturn, 1) := by decide +kernel
theorem dM_station_79 : decode cM_station 79 = .ok (.aload_n 0, 1) := by decide +kernel
theorem dM_station_80 : decode cM_station 80 = .ok (.getfield 17, 3) := by decide +kernel
theorem dM_station_83 : decode cM_station 83 = .ok (.aload_n 0, 1) := by decide +kernel
theorem dM_station_84 : decode cM_station 84 = .ok (.getfield 185, 3) := by decide +kernel
theorem dM_station_87 : decode cM_station 87 = .ok (.bipush 6, 2) := by decide +kernel
theorem dM_station_89 : decode cM_station 89 = .ok (.bipush 8, 2) := by decide +kernel
theorem dM_station_91 : decode cM_station 91 = .ok (.iload_n 2, 1) := by decide +kernel
theorem dM_station_92 : decode cM_station 92 = .ok (.imul, 1) := by decide +kernel
theorem dM_station_93 : decode cM_station 93 = .ok (.iload_n 1, 1) := by decide +kernel
theorem dM_station_94 : decode cM_station 94 = .ok (.iadd, 1) := by decide +kernel
theorem dM_station_95 : decode cM_station 95 = .ok (.imul, 1) := by decide +kernel
theorem dM_station_96 : decode cM_station 96 = .ok (.iload_n 3, 1) := by decide +kernel
theorem dM_station_97 : decode cM_station 97 = .ok (.iadd, 1) := by decide +kernel
theorem dM_station_98 : decode cM_station 98 = .ok (.iastore, 1) := by decide +kernel
theorem dM_station_99 : decode cM_station 99 = .ok (.aload_n 0, 1) := by decide +kernel
theorem dM_station_100 : decode cM_station 100 = .ok (.getfield 20, 3) := by decide +kernel
theorem dM_station_103 : decode cM_station 103 = .ok (.aload_n 0, 1) := by decide +kernel
theorem dM_station_104 : decode cM_station 104 = .ok (.getfield 185, 3) := by decide +kernel
theorem dM_station_107 : decode cM_station 107 = .ok (.iload 4, 2) := by decide +kernel
theorem dM_station_109 : decode cM_station 109 = .ok (.iastore, 1) := by decide +kernel
theorem dM_station_110 : decode cM_station 110 = .ok (.aload_n 0, 1) := by decide +kernel
theorem dM_station_111 : decode cM_station 111 = .ok (.getfield 23, 3) := by decide +kernel
theorem dM_station_114 : decode cM_station 114 = .ok (.aload_n 0, 1) := by decide +kernel
theorem dM_station_115 : decode cM_station 115 = .ok (.getfield 185, 3) := by decide +kernel
theorem dM_station_118 : decode cM_station 118 = .ok (.iconst 0, 1) := by decide +kernel
theorem dM_station_119 : decode cM_station 119 = .ok (.iastore, 1) := by decide +kernel
theorem dM_station_120 : decode cM_station 120 = .ok (.aload_n 0, 1) := by decide +kernel
theorem dM_station_121 : decode cM_station 121 = .ok (.getfield 26, 3) := by decide +kernel
theorem dM_station_124 : decode cM_station 124 = .ok (.aload_n 0, 1) := by decide +kernel
theorem dM_station_125 : decode cM_station 125 = .ok (.getfield 185, 3) := by decide +kernel
theorem dM_station_128 : decode cM_station 128 = .ok (.iconst 0, 1) := by decide +kernel
theorem dM_station_129 : decode cM_station 129 = .ok (.bastore, 1) := by decide +kernel
theorem dM_station_130 : decode cM_station 130 = .ok (.aload_n 0, 1) := by decide +kernel
theorem dM_station_131 : decode cM_station 131 = .ok (.dup, 1) := by decide +kernel
theorem dM_station_132 : decode cM_station 132 = .ok (.getfield 185, 3) := by decide +kernel
theorem dM_station_135 : decode cM_station 135 = .ok (.iconst 1, 1) := by decide +kernel
theorem dM_station_136 : decode cM_station 136 = .ok (.iadd, 1) := by decide +kernel
theorem dM_station_137 : decode cM_station 137 = .ok (.putfield 185, 3) := by decide +kernel
theorem dM_station_140 : decode cM_station 140 = .ok (.aload_n 0, 1) := by decide +kernel
theorem dM_station_141 : decode cM_station 141 = .ok (.getfield 185, 3) := by decide +kernel
theorem dM_station_144 : decode cM_station 144 = .ok (.iconst 1, 1) := by decide +kernel
theorem dM_station_145 : decode cM_station 145 = .ok (.isub, 1) := by decide +kernel
theorem dM_station_146 : decode cM_station 146 = .ok (.ireturn, 1) := by decide +kernel
theorem dM_order_0 : decode cM_order 0 = .ok (.aload_n 0, 1) := by decide +kernel
theorem dM_order_1 : decode cM_order 1 = .ok (.iload_n 1, 1) := by decide +kernel
theorem dM_order_2 : decode cM_order 2 = .ok (.invokevirtual 210, 3) := by decide +kernel
theorem dM_order_5 : decode cM_order 5 = .ok (.ifCond .eq 26, 3) := by decide +kernel
theorem dM_order_8 : decode cM_order 8 = .ok (.iload_n 2, 1) := by decide +kernel
theorem dM_order_9 : decode cM_order 9 = .ok (.ifCond .lt 22, 3) := by decide +kernel
theorem dM_order_12 : decode cM_order 12 = .ok (.iload_n 2, 1) := by decide +kernel
theorem dM_order_13 : decode cM_order 13 = .ok (.aload_n 0, 1) := by decide +kernel
theorem dM_order_14 : decode cM_order 14 = .ok (.getfield 185, 3) := by decide +kernel
theorem dM_order_17 : decode cM_order 17 = .ok (.if_icmp .ge 14, 3) := by decide +kernel
theorem dM_order_20 : decode cM_order 20 = .ok (.aload_n 0, 1) := by decide +kernel
theorem dM_order_21 : decode cM_order 21 = .ok (.getfield 56, 3) := by decide +kernel
theorem dM_order_24 : decode cM_order 24 = .ok (.iload_n 1, 1) := by decide +kernel
theorem dM_order_25 : decode cM_order 25 = .ok (.iaload, 1) := by decide +kernel
theorem dM_order_26 : decode cM_order 26 = .ok (.bipush 6, 2) := by decide +kernel
theorem dM_order_28 : decode cM_order 28 = .ok (.if_icmp .ne 5, 3) := by decide +kernel
theorem dM_order_31 : decode cM_order 31 = .ok (.iconst 0, 1) := by decide +kernel
theorem dM_order_32 : decode cM_order 32 = .ok (.ireturn, 1) := by decide +kernel
theorem dM_order_33 : decode cM_order 33 = .ok (.aload_n 0, 1) := by decide +kernel
theorem dM_order_34 : decode cM_order 34 = .ok (.getfield 53, 3) := by decide +kernel
theorem dM_order_37 : decode cM_order 37 = .ok (.bipush 6, 2) := by decide +kernel
theorem dM_order_39 : decode cM_order 39 = .ok (.iload_n 1, 1) := by decide +kernel
theorem dM_order_40 : decode cM_order 40 = .ok (.imul, 1) := by decide +kernel
theorem dM_order_41 : decode cM_order 41 = .ok (.aload_n 0, 1) := by decide +kernel
theorem dM_order_42 : decode cM_order 42 = .ok (.getfield 56, 3) := by decide +kernel
theorem dM_order_45 : decode cM_order 45 = .ok (.iload_n 1, 1) := by decide +kernel
theorem dM_order_46 : decode cM_order 46 = .ok (.iaload, 1) := by decide +kernel
theorem dM_order_47 : decode cM_order 47 = .ok (.iadd, 1) := by decide +kernel
theorem dM_order_48 : decode cM_order 48 = .ok (.iload_n 2, 1) := by decide +kernel
theorem dM_order_49 : decode cM_order 49 = .ok (.iastore, 1) := by decide +kernel
theorem dM_order_50 : decode cM_order 50 = .ok (.aload_n 0, 1) := by decide +kernel
theorem dM_order_51 : decode cM_order 51 = .ok (.getfield 56, 3) := by decide +kernel
theorem dM_order_54 : decode cM_order 54 = .ok (.iload_n 1, 1) := by decide +kernel
theorem dM_order_55 : decode cM_order 55 = .ok (.dup2, 1) := by decide +kernel
theorem dM_order_56 : decode cM_order 56 = .ok (.iaload, 1) := by decide +kernel
theorem dM_order_57 : decode cM_order 57 = .ok (.iconst 1, 1) := by decide +kernel
theorem dM_order_58 : decode cM_order 58 = .ok (.iadd, 1) := by decide +kernel
theorem dM_order_59 : decode cM_order 59 = .ok (.iastore, 1) := by decide +kernel
theorem dM_order_60 : decode cM_order 60 = .ok (.iconst 1, 1) := by decide +kernel
theorem dM_order_61 : decode cM_order 61 = .ok (.ireturn, 1) := by decide +kernel
theorem dM_toGo_0 : decode cM_toGo 0 = .ok (.aload_n 0, 1) := by decide +kernel
theorem dM_toGo_1 : decode cM_toGo 1 = .ok (.iload_n 1, 1) := by decide +kernel
theorem dM_toGo_2 : decode cM_toGo 2 = .ok (.iload_n 2, 1) := by decide +kernel
theorem dM_toGo_3 : decode cM_toGo 3 = .ok (.iload_n 3, 1) := by decide +kernel
theorem dM_toGo_4 : decode cM_toGo 4 = .ok (.iload 4, 2) := by decide +kernel
theorem dM_toGo_6 : decode cM_toGo 6 = .ok (.invokevirtual 203, 3) := by decide +kernel
theorem dM_toGo_9 : decode cM_toGo 9 = .ok (.istore 6, 2) := by decide +kernel
theorem dM_toGo_11 : decode cM_toGo 11 = .ok (.iload 6, 2) := by decide +kernel
theorem dM_toGo_13 : decode cM_toGo 13 = .ok (.ifCond .lt 17, 3) := by decide +kernel
theorem dM_toGo_16 : decode cM_toGo 16 = .ok (.iload 5, 2) := by decide +kernel
theorem dM_toGo_18 : decode cM_toGo 18 = .ok (.ifCond .lt 12, 3) := by decide +kernel
theorem dM_toGo_21 : decode cM_toGo 21 = .ok (.iload 5, 2) := by decide +kernel
theorem dM_toGo_23 : decode cM_toGo 23 = .ok (.aload_n 0, 1) := by decide +kernel
theorem dM_toGo_24 : decode cM_toGo 24 = .ok (.getfield 185, 3) := by decide +kernel
theorem dM_toGo_27 : decode cM_toGo 27 = .ok (.if_icmp .lt 5, 3) := by decide +kernel
theorem dM_toGo_30 : decode cM_toGo 30 = .ok (.iconst (-1), 1) := by decide +kernel
theorem dM_toGo_31 : decode cM_toGo 31 = .ok (.ireturn, 1) := by decide +kernel
theorem dM_toGo_32 : decode cM_toGo 32 = .ok (.aload_n 0, 1) := by decide +kernel
theorem dM_toGo_33 : decode cM_toGo 33 = .ok (.iload 5, 2) := by decide +kernel
theorem dM_toGo_35 : decode cM_toGo 35 = .ok (.invokevirtual 150, 3) := by decide +kernel
theorem dM_toGo_38 : decode cM_toGo 38 = .ok (.aload_n 0, 1) := by decide +kernel
theorem dM_toGo_39 : decode cM_toGo 39 = .ok (.getfield 29, 3) := by decide +kernel
theorem dM_toGo_42 : decode cM_toGo 42 = .ok (.sipush 576, 3) := by decide +kernel
theorem dM_toGo_45 : decode cM_toGo 45 = .ok (.iload 5, 2) := by decide +kernel
theorem dM_toGo_47 : decode cM_toGo 47 = .ok (.imul, 1) := by decide +kernel
theorem dM_toGo_48 : decode cM_toGo 48 = .ok (.iload 6, 2) := by decide +kernel
theorem dM_toGo_50 : decode cM_toGo 50 = .ok (.iadd, 1) := by decide +kernel
theorem dM_toGo_51 : decode cM_toGo 51 = .ok (.iaload, 1) := by decide +kernel
theorem dM_toGo_52 : decode cM_toGo 52 = .ok (.istore 7, 2) := by decide +kernel
theorem dM_toGo_54 : decode cM_toGo 54 = .ok (.iload 7, 2) := by decide +kernel
theorem dM_toGo_56 : decode cM_toGo 56 = .ok (.ldc 119, 2) := by decide +kernel
theorem dM_toGo_58 : decode cM_toGo 58 = .ok (.if_icmp .ge 8, 3) := by decide +kernel
theorem dM_toGo_61 : decode cM_toGo 61 = .ok (.iload 7, 2) := by decide +kernel
theorem dM_toGo_63 : decode cM_toGo 63 = .ok (.goto 4, 3) := by decide +kernel
theorem dM_toGo_66 : decode cM_toGo 66 = .ok (.iconst (-1), 1) := by decide +kernel
theorem dM_toGo_67 : decode cM_toGo 67 = .ok (.ireturn, 1) := by decide +kernel
theorem dM_reverse_0 : decode cM_reverse 0 = .ok (.aload_n 0, 1) := by decide +kernel
theorem dM_reverse_1 : decode cM_reverse 1 = .ok (.iload_n 1, 1) := by decide +kernel
theorem dM_reverse_2 : decode cM_reverse 2 = .ok (.invokevirtual 210, 3) := by decide +kernel
theorem dM_reverse_5 : decode cM_reverse 5 = .ok (.ifCond .eq 29, 3) := by decide +kernel
theorem dM_reverse_8 : decode cM_reverse 8 = .ok (.aload_n 0, 1) := by decide +kernel
theorem dM_reverse_9 : decode cM_reverse 9 = .ok (.getfield 41, 3) := by decide +kernel
theorem dM_reverse_12 : decode cM_reverse 12 = .ok (.iload_n 1, 1) := by decide +kernel
theorem dM_reverse_13 : decode cM_reverse 13 = .ok (.iaload, 1) := by decide +kernel
theorem dM_reverse_14 : decode cM_reverse 14 = .ok (.ifCond .ne 20, 3) := by decide +kernel
theorem dM_reverse_17 : decode cM_reverse 17 = .ok (.aload_n 0, 1) := by decide +kernel
theorem dM_reverse_18 : decode cM_reverse 18 = .ok (.getfield 44, 3) := by decide +kernel
theorem dM_reverse_21 : decode cM_reverse 21 = .ok (.iload_n 1, 1) := by decide +kernel
theorem dM_reverse_22 : decode cM_reverse 22 = .ok (.iaload, 1) := by decide +kernel
theorem dM_reverse_23 : decode cM_reverse 23 = .ok (.ifCond .gt 11, 3) := by decide +kernel
theorem dM_reverse_26 : decode cM_reverse 26 = .ok (.aload_n 0, 1) := by decide +kernel
theorem dM_reverse_27 : decode cM_reverse 27 = .ok (.iload_n 1, 1) := by decide +kernel
theorem dM_reverse_28 : decode cM_reverse 28 = .ok (.invokevirtual 135, 3) := by decide +kernel
theorem dM_reverse_31 : decode cM_reverse 31 = .ok (.ifCond .le 5, 3) := by decide +kernel
theorem dM_reverse_34 : decode cM_reverse 34 = .ok (.iconst 0, 1) := by decide +kernel
theorem dM_reverse_35 : decode cM_reverse 35 = .ok (.ireturn, 1) := by decide +kernel
theorem dM_reverse_36 : decode cM_reverse 36 = .ok (.iconst 0, 1) := by decide +kernel
theorem dM_reverse_37 : decode cM_reverse 37 = .ok (.istore_n 2, 1) := by decide +kernel
theorem dM_reverse_38 : decode cM_reverse 38 = .ok (.iload_n 2, 1) := by decide +kernel
theorem dM_reverse_39 : decode cM_reverse 39 = .ok (.aload_n 0, 1) := by decide +kernel
theorem dM_reverse_40 : decode cM_reverse 40 = .ok (.getfield 35, 3) := by decide +kernel
theorem dM_reverse_43 : decode cM_reverse 43 = .ok (.iload_n 1, 1) := by decide +kernel
theorem dM_reverse_44 : decode cM_reverse 44 = .ok (.iaload, 1) := by decide +kernel
theorem dM_reverse_45 : decode cM_reverse 45 = .ok (.if_icmp .ge 33, 3) := by decide +kernel
theorem dM_reverse_48 : decode cM_reverse 48 = .ok (.aload_n 0, 1) := by decide +kernel
theorem dM_reverse_49 : decode cM_reverse 49 = .ok (.getfield 13, 3) := by decide +kernel
theorem dM_reverse_52 : decode cM_reverse 52 = .ok (.aload_n 0, 1) := by decide +kernel
theorem dM_reverse_53 : decode cM_reverse 53 = .ok (.getfield 32, 3) := by decide +kernel
theorem dM_reverse_56 : decode cM_reverse 56 = .ok (.sipush 300, 3) := by decide +kernel
theorem dM_reverse_59 : decode cM_reverse 59 = .ok (.iload_n 1, 1) := by decide +kernel
theorem dM_reverse_60 : decode cM_reverse 60 = .ok (.imul, 1) := by decide +kernel
theorem dM_reverse_61 : decode cM_reverse 61 = .ok (.iload_n 2, 1) := by decide +kernel
theorem dM_reverse_62 : decode cM_reverse 62 = .ok (.iadd, 1) := by decide +kernel
theorem dM_reverse_63 : decode cM_reverse 63 = .ok (.iaload, 1) := by decide +kernel
theorem dM_reverse_64 : decode cM_reverse 64 = .ok (.iconst 2, 1) := by decide +kernel
theorem dM_reverse_65 : decode cM_reverse 65 = .ok (.idiv, 1) := by decide +kernel
theorem dM_reverse_66 : decode cM_reverse 66 = .ok (.iaload, 1) := by decide +kernel
theorem dM_reverse_67 : decode cM_reverse 67 = .ok (.ifCond .eq 5, 3) := by decide +kernel
theorem dM_reverse_70 : decode cM_reverse 70 = .ok (.iconst 0, 1) := by decide +kernel
theorem dM_reverse_71 : decode cM_reverse 71 = .ok (.ireturn, 1) := by decide +kernel
theorem dM_reverse_72 : decode cM_reverse 72 = .ok (.iinc 2 1, 3) := by decide +kernel
theorem dM_reverse_75 : decode cM_reverse 75 = .ok (.goto (-37), 3) := by decide +kernel
theorem dM_reverse_78 : decode cM_reverse 78 = .ok (.iconst 0, 1) := by decide +kernel
theorem dM_reverse_79 : decode cM_reverse 79 = .ok (.istore_n 2, 1) := by decide +kernel
theorem dM_reverse_80 : decode cM_reverse 80 = .ok (.iload_n 2, 1) := by decide +kernel
theorem dM_reverse_81 : decode cM_reverse 81 = .ok (.aload_n 0, 1) := by decide +kernel
theorem dM_reverse_82 : decode cM_reverse 82 = .ok (.getfield 35, 3) := by decide +kernel
theorem dM_reverse_85 : decode cM_reverse 85 = .ok (.iload_n 1, 1) := by decide +kernel
theorem dM_reverse_86 : decode cM_reverse 86 = .ok (.iaload, 1) := by decide +kernel
theorem dM_reverse_87 : decode cM_reverse 87 = .ok (.if_icmp .ge 29, 3) := by decide +kernel
theorem dM_reverse_90 : decode cM_reverse 90 = .ok (.aload_n 0, 1) := by decide +kernel
theorem dM_reverse_91 : decode cM_reverse 91 = .ok (.getfield 62, 3) := by decide +kernel
theorem dM_reverse_94 : decode cM_reverse 94 = .ok (.iload_n 2, 1) := by decide +kernel
theorem dM_reverse_95 : decode cM_reverse 95 = .ok (.aload_n 0, 1) := by decide +kernel
theorem dM_reverse_96 : decode cM_reverse 96 = .ok (.getfield 32, 3) := by decide +kernel
theorem dM_reverse_99 : decode cM_reverse 99 = .ok (.sipush 300, 3) := by decide +kernel
theorem dM_reverse_102 : decode cM_reverse 102 = .ok (.iload_n 1, 1) := by decide +kernel
theorem dM_reverse_103 : decode cM_reverse 103 = .ok (.imul, 1) := by decide +kernel
theorem dM_reverse_104 : decode cM_reverse 104 = .ok (.iload_n 2, 1) := by decide +kernel
theorem dM_reverse_105 : decode cM_reverse 105 = .ok (.iadd, 1) := by decide +kernel
theorem dM_reverse_106 : decode cM_reverse 106 = .ok (.iaload, 1) := by decide +kernel
theorem dM_reverse_107 : decode cM_reverse 107 = .ok (.iconst 1, 1) := by decide +kernel
theorem dM_reverse_108 : decode cM_reverse 108 = .ok (.ixor, 1) := by decide +kernel
theorem dM_reverse_109 : decode cM_reverse 109 = .ok (.iastore, 1) := by decide +kernel
theorem dM_reverse_110 : decode cM_reverse 110 = .ok (.iinc 2 1, 3) := by decide +kernel
theorem dM_reverse_113 : decode cM_reverse 113 = .ok (.goto (-33), 3) := by decide +kernel
theorem dM_reverse_116 : decode cM_reverse 116 = .ok (.iconst 0, 1) := by decide +kernel
theorem dM_reverse_117 : decode cM_reverse 117 = .ok (.istore_n 2, 1) := by decide +kernel
theorem dM_reverse_118 : decode cM_reverse 118 = .ok (.iload_n 2, 1) := by decide +kernel
theorem dM_reverse_119 : decode cM_reverse 119 = .ok (.aload_n 0, 1) := by decide +kernel
theorem dM_reverse_120 : decode cM_reverse 120 = .ok (.getfield 35, 3) := by decide +kernel
theorem dM_reverse_123 : decode cM_reverse 123 = .ok (.iload_n 1, 1) := by decide +kernel
theorem dM_reverse_124 : decode cM_reverse 124 = .ok (.iaload, 1) := by decide +kernel
theorem dM_reverse_125 : decode cM_reverse 125 = .ok (.if_icmp .ge 36, 3) := by decide +kernel
theorem dM_reverse_128 : decode cM_reverse 128 = .ok (.aload_n 0, 1) := by decide +kernel
theorem dM_reverse_129 : decode cM_reverse 129 = .ok (.getfield 32, 3) := by decide +kernel
theorem dM_reverse_132 : decode cM_reverse 132 = .ok (.sipush 300, 3) := by decide +kernel
theorem dM_reverse_135 : decode cM_reverse 135 = .ok (.iload_n 1, 1) := by decide +kernel
theorem dM_reverse_136 : decode cM_reverse 136 = .ok (.imul, 1) := by decide +kernel
theorem dM_reverse_137 : decode cM_reverse 137 = .ok (.iload_n 2, 1) := by decide +kernel
theorem dM_reverse_138 : decode cM_reverse 138 = .ok (.iadd, 1) := by decide +kernel
theorem dM_reverse_139 : decode cM_reverse 139 = .ok (.aload_n 0, 1) := by decide +kernel
theorem dM_reverse_140 : decode cM_reverse 140 = .ok (.getfield 62, 3) := by decide +kernel
theorem dM_reverse_143 : decode cM_reverse 143 = .ok (.aload_n 0, 1) := by decide +kernel
theorem dM_reverse_144 : decode cM_reverse 144 = .ok (.getfield 35, 3) := by decide +kernel
theorem dM_reverse_147 : decode cM_reverse 147 = .ok (.iload_n 1, 1) := by decide +kernel
theorem dM_reverse_148 : decode cM_reverse 148 = .ok (.iaload, 1) := by decide +kernel
theorem dM_reverse_149 : decode cM_reverse 149 = .ok (.iconst 1, 1) := by decide +kernel
theorem dM_reverse_150 : decode cM_reverse 150 = .ok (.isub, 1) := by decide +kernel
theorem dM_reverse_151 : decode cM_reverse 151 = .ok (.iload_n 2, 1) := by decide +kernel
theorem dM_reverse_152 : decode cM_reverse 152 = .ok (.isub, 1) := by decide +kernel
theorem dM_reverse_153 : decode cM_reverse 153 = .ok (.iaload, 1) := by decide +kernel
theorem dM_reverse_154 : decode cM_reverse 154 = .ok (.iastore, 1) := by decide +kernel
theorem dM_reverse_155 : decode cM_reverse 155 = .ok (.iinc 2 1, 3) := by decide +kernel
theorem dM_reverse_158 : decode cM_reverse 158 = .ok (.goto (-40), 3) := by decide +kernel
theorem dM_reverse_161 : decode cM_reverse 161 = .ok (.aload_n 0, 1) := by decide +kernel
theorem dM_reverse_162 : decode cM_reverse 162 = .ok (.getfield 50, 3) := by decide +kernel
theorem dM_reverse_165 : decode cM_reverse 165 = .ok (.iload_n 1, 1) := by decide +kernel
theorem dM_reverse_166 : decode cM_reverse 166 = .ok (.iconst 0, 1) := by decide +kernel
theorem dM_reverse_167 : decode cM_reverse 167 = .ok (.bastore, 1) := by decide +kernel
theorem dM_reverse_168 : decode cM_reverse 168 = .ok (.iconst 1, 1) := by decide +kernel
theorem dM_reverse_169 : decode cM_reverse 169 = .ok (.ireturn, 1) := by decide +kernel
theorem lmM_194 : Cond.methodLink R_M 194 yM_tileHeld ∈ bigW := bw 835 (by decide +kernel) rfl
theorem lmM_200 : Cond.methodLink R_M 200 yM_changed ∈ bigW := bw 843 (by decide +kernel) rfl
theorem lmM_197 : Cond.methodLink R_M 197 yM_stationed ∈ bigW := bw 839 (by decide +kernel) rfl
theorem lmM_203 : Cond.methodLink R_M 203 yM_toward ∈ bigW := bw 851 (by decide +kernel) rfl
theorem lfM_20 : Cond.fieldLink R_M 20 "RailYardModel" "rate" "[I" ∈ bigW := bw 638 (by decide +kernel) rfl
theorem miM_tileHeld : MI yM_tileHeld cM_tileHeld 6 (some .boolean) 2 := ⟨bw 838 (by decide +kernel) rfl, bw 48 (by decide +kernel) rfl, ⟨by decide +kernel, by decide +kernel⟩, by decide +kernel, by decide⟩
theorem mvM_tileHeld : MV yM_tileHeld := ⟨bw 837 (by decide +kernel) rfl, bw 30 (by decide +kernel) rfl⟩
theorem miM_changed : MI yM_changed cM_changed 2 none 0 := ⟨bw 846 (by decide +kernel) rfl, bw 48 (by decide +kernel) rfl, ⟨by decide +kernel, by decide +kernel⟩, by decide +kernel, by decide⟩
theorem mvM_changed : MV yM_changed := ⟨bw 845 (by decide +kernel) rfl, bw 32 (by decide +kernel) rfl⟩
theorem miM_stationed : MI yM_stationed cM_stationed 6 (some .boolean) 3 := ⟨bw 842 (by decide +kernel) rfl, bw 48 (by decide +kernel) rfl, ⟨by decide +kernel, by decide +kernel⟩, by decide +kernel, by decide⟩
theorem mvM_stationed : MV yM_stationed := ⟨bw 841 (by decide +kernel) rfl, bw 31 (by decide +kernel) rfl⟩
theorem miM_toward : MI yM_toward cM_toward 5 (some .int) 4 := ⟨bw 854 (by decide +kernel) rfl, bw 48 (by decide +kernel) rfl, ⟨by decide +kernel, by decide +kernel⟩, by decide +kernel, by decide⟩
theorem mvM_toward : MV yM_toward := ⟨bw 853 (by decide +kernel) rfl, bw 33 (by decide +kernel) rfl⟩
def trM (w : RW) (x y p b : Int) : Prop := isT (w 77 0) (w 77 1) x y ∧ (0 ≤ p ∧ p ≤ 5) ∧ ¬ hdM w (8 * y + x) (w 77 10) ∧ ¬ w 78 (6 * (8 * y + x) + p) = b ∧ ¬ (b = 0 ∧ stM w (w 77 4) x y p)
theorem twd_rng {w : RW} {x y p e : Int} (hm : mOK w) : (twd w x y p e = -1 ∧ ¬ (lpc w x y p ∧ hsE p e)) ∨ ((0 ≤ twd w x y p e ∧ twd w x y p e < 576) ∧ lpc w x y p ∧ hsE p e ∧ twd w x y p e / 2 = 6 * (8 * y + x) + p) := by
  unfold twd
  by_cases h : lpc w x y p ∧ hsE p e
  · rw [cif_t h]
    have h1 := hm.1
    have h2 : (0 ≤ x ∧ x < w 77 0 ∧ 0 ≤ y ∧ y < w 77 1) ∧ (0 ≤ p ∧ p ≤ 5) ∧ ¬ w 78 (6 * (8 * y + x) + p) = 0 := h.1
    refine Or.inr ⟨?_, h.1, h.2, ?_⟩ <;> split <;> omega
  · rw [cif_f h]; exact Or.inl ⟨rfl, h⟩
theorem lpc_xy {w : RW} {x y p : Int} (hm : mOK w) (h : lpc w x y p) : 0 ≤ x ∧ x < 8 ∧ 0 ≤ y ∧ y < 6 ∧ 0 ≤ p ∧ p ≤ 5 := by
  have h1 := hm.1
  have h2 : (0 ≤ x ∧ x < w 77 0 ∧ 0 ≤ y ∧ y < w 77 1) ∧ (0 ≤ p ∧ p ≤ 5) ∧ ¬ w 78 (6 * (8 * y + x) + p) = 0 := h
  omega
theorem ctM_track {G : vG} {l : Launch} {w : RW} {x y p b : Int} (hb : b = 0 ∨ b = 1) (hm : mOK w) : CTi G l yM_track cM_track 6 .boolean 1 [.inr 77, .inl x, .inl y, .inl p, .inl b] w (fun r u => (trM w x y p b ∧ r = 1 ∧ chI (upw (upw w 78 (6 * (8 * y + x) + p) b) 79 (6 * (8 * y + x) + p) 0) u 6) ∨ (¬ trM w x y p b ∧ r = 0 ∧ w = u)) := by
  refine CTi.bool (by decide) (Nat.le_of_ble_eq_true rfl) ?_
  intro X Q F hX hR
  subst hX
  show V G X 6 Q 0 [some (.inr 77), some (.inl x), some (.inl y), some (.inl p), some (.inl b), none] [] w
  have k1 := hm.1
  refine V_aload_n (i := 0) F dM_track_0 rfl rfl ?_
  refine V_iload_n (i := 1) F dM_track_1 rfl rfl ?_
  refine V_iload_n (i := 2) F dM_track_2 rfl rfl ?_
  refine V_callVi F dM_track_3 lmM_97 miM_isTile mvM_isTile (ctM_isTile) (by decide) (by first | rfl | assumption) rfl rfl (Nat.le_of_ble_eq_true rfl) (fun r u hr => ?_)
  obtain ⟨rfl, rfl⟩ := hr
  refine V_if_eq F 27 dM_track_6 (by decide) (fun h6 => ?_) (fun h6 => ?_)
  · first | (replace h6 := bz_ne0.mp h6) | (replace h6 := bz_eq0.mp h6) | skip
    refine V_iconst F dM_track_27 (by decide) ?_
    exact hR _ _ _ _ dM_track_28 (by first | exact Or.inl rfl | exact Or.inr rfl | exact bz_01 _ | assumption) (by
                  first
                  | exact Or.inl ⟨⟨h6, by omega, h24, h51, fun z => h66 z.2⟩, rfl, hr⟩
                  | exact Or.inl ⟨⟨h6, by omega, h24, h51, fun z => h56 z.1⟩, rfl, hr⟩
                  | exact Or.inr ⟨fun z => h6 z.1, rfl, rfl⟩
                  | exact Or.inr ⟨fun z => z.2.2.1 h24, rfl, rfl⟩
                  | exact Or.inr ⟨fun z => z.2.2.2.1 h51, rfl, rfl⟩
                  | exact Or.inr ⟨fun z => z.2.2.2.2 ⟨h56, h66⟩, rfl, rfl⟩
                  | exact Or.inr ⟨fun z => by have := z.2.1; omega, rfl, rfl⟩)
  · first | (replace h6 := bz_ne0.mp h6) | (replace h6 := bz_eq0.mp h6) | skip
    have hh : 0 ≤ x ∧ x < w 77 0 ∧ 0 ≤ y ∧ y < w 77 1 := h6
    refine V_iload_n (i := 3) F dM_track_9 rfl rfl ?_
    refine V_if_lt F 27 dM_track_10 (by decide) (fun h10 => ?_) (fun h10 => ?_)
    · first | (replace h10 := bz_ne0.mp h10) | (replace h10 := bz_eq0.mp h10) | skip
      refine V_iconst F dM_track_27 (by decide) ?_
      exact hR _ _ _ _ dM_track_28 (by first | exact Or.inl rfl | exact Or.inr rfl | exact bz_01 _ | assumption) (by
                    first
                    | exact Or.inl ⟨⟨h6, by omega, h24, h51, fun z => h66 z.2⟩, rfl, hr⟩
                    | exact Or.inl ⟨⟨h6, by omega, h24, h51, fun z => h56 z.1⟩, rfl, hr⟩
                    | exact Or.inr ⟨fun z => h6 z.1, rfl, rfl⟩
                    | exact Or.inr ⟨fun z => z.2.2.1 h24, rfl, rfl⟩
                    | exact Or.inr ⟨fun z => z.2.2.2.1 h51, rfl, rfl⟩
                    | exact Or.inr ⟨fun z => z.2.2.2.2 ⟨h56, h66⟩, rfl, rfl⟩
                    | exact Or.inr ⟨fun z => by have := z.2.1; omega, rfl, rfl⟩)
    · first | (replace h10 := bz_ne0.mp h10) | (replace h10 := bz_eq0.mp h10) | skip
      refine V_iload_n (i := 3) F dM_track_13 rfl rfl ?_
      refine V_iconst F dM_track_14 (by decide) ?_
      refine V_icmp_gt F 27 dM_track_15 (by decide) (fun h15 => ?_) (fun h15 => ?_)
      · first | (replace h15 := bz_ne0.mp h15) | (replace h15 := bz_eq0.mp h15) | skip
        refine V_iconst F dM_track_27 (by decide) ?_
        exact hR _ _ _ _ dM_track_28 (by first | exact Or.inl rfl | exact Or.inr rfl | exact bz_01 _ | assumption) (by
                      first
                      | exact Or.inl ⟨⟨h6, by omega, h24, h51, fun z => h66 z.2⟩, rfl, hr⟩
                      | exact Or.inl ⟨⟨h6, by omega, h24, h51, fun z => h56 z.1⟩, rfl, hr⟩
                      | exact Or.inr ⟨fun z => h6 z.1, rfl, rfl⟩
                      | exact Or.inr ⟨fun z => z.2.2.1 h24, rfl, rfl⟩
                      | exact Or.inr ⟨fun z => z.2.2.2.1 h51, rfl, rfl⟩
                      | exact Or.inr ⟨fun z => z.2.2.2.2 ⟨h56, h66⟩, rfl, rfl⟩
                      | exact Or.inr ⟨fun z => by have := z.2.1; omega, rfl, rfl⟩)
      · first | (replace h15 := bz_ne0.mp h15) | (replace h15 := bz_eq0.mp h15) | skip
        refine V_aload_n (i := 0) F dM_track_18 rfl rfl ?_
        refine V_iload_n (i := 1) F dM_track_19 rfl rfl ?_
        refine V_iload_n (i := 2) F dM_track_20 rfl rfl ?_
        refine V_callVi F dM_track_21 lmM_194 miM_tileHeld mvM_tileHeld (ctM_tileHeld (by omega) hm) (by decide) (by first | rfl | assumption) rfl rfl (Nat.le_of_ble_eq_true rfl) (fun r u hr => ?_)
        obtain ⟨rfl, rfl⟩ := hr
        refine V_if_eq F 29 dM_track_24 (by decide) (fun h24 => ?_) (fun h24 => ?_)
        · first | (replace h24 := bz_ne0.mp h24) | (replace h24 := bz_eq0.mp h24) | skip
          refine V_bipush F dM_track_29 (by decide) ?_
          refine V_bipush F dM_track_31 (by decide) ?_
          refine V_iload_n (i := 2) F dM_track_33 rfl rfl ?_
          refine V_imul F dM_track_34 (by omega) ?_
          refine V_iload_n (i := 1) F dM_track_35 rfl rfl ?_
          refine V_iadd F dM_track_36 (by omega) ?_
          refine V_imul F dM_track_37 (by omega) ?_
          refine V_iload_n (i := 3) F dM_track_38 rfl rfl ?_
          refine V_iadd F dM_track_39 (by omega) ?_
          refine V_istore F dM_track_40 (by decide) (by simp only [List.set_cons_zero, List.set_cons_succ]; exact rfl) ?_
          refine V_aload_n (i := 0) F dM_track_42 rfl rfl ?_
          refine V_getr (ci := 7) (C := R_M) (T := T_M) (N := 32) F dM_track_43 (by first | rfl | assumption) rfl (j := 2) (by decide) rfl lfM_7 ?_
          refine V_iload F dM_track_46 rfl ?_
          refine V_zald F dM_track_48 (by first | rfl | assumption) rfl (by omega) ?_
          refine V_iload F dM_track_49 rfl ?_
          refine V_icmp_eq F 69 dM_track_51 (by decide) (fun h51 => ?_) (fun h51 => ?_)
          · first | (replace h51 := bz_ne0.mp h51) | (replace h51 := bz_eq0.mp h51) | skip
            refine V_iconst F dM_track_69 (by decide) ?_
            exact hR _ _ _ _ dM_track_70 (by first | exact Or.inl rfl | exact Or.inr rfl | exact bz_01 _ | assumption) (by
                          first
                          | exact Or.inl ⟨⟨h6, by omega, h24, h51, fun z => h66 z.2⟩, rfl, hr⟩
                          | exact Or.inl ⟨⟨h6, by omega, h24, h51, fun z => h56 z.1⟩, rfl, hr⟩
                          | exact Or.inr ⟨fun z => h6 z.1, rfl, rfl⟩
                          | exact Or.inr ⟨fun z => z.2.2.1 h24, rfl, rfl⟩
                          | exact Or.inr ⟨fun z => z.2.2.2.1 h51, rfl, rfl⟩
                          | exact Or.inr ⟨fun z => z.2.2.2.2 ⟨h56, h66⟩, rfl, rfl⟩
                          | exact Or.inr ⟨fun z => by have := z.2.1; omega, rfl, rfl⟩)
          · first | (replace h51 := bz_ne0.mp h51) | (replace h51 := bz_eq0.mp h51) | skip
            refine V_iload F dM_track_54 rfl ?_
            refine V_if_ne F 71 dM_track_56 (by decide) (fun h56 => ?_) (fun h56 => ?_)
            · first | (replace h56 := bz_ne0.mp h56) | (replace h56 := bz_eq0.mp h56) | skip
              refine V_aload_n (i := 0) F dM_track_71 rfl rfl ?_
              refine V_getr (ci := 7) (C := R_M) (T := T_M) (N := 32) F dM_track_72 (by first | rfl | assumption) rfl (j := 2) (by decide) rfl lfM_7 ?_
              refine V_iload F dM_track_75 rfl ?_
              refine V_iload F dM_track_77 rfl ?_
              refine V_zast F dM_track_79 (by first | rfl | assumption) rfl (by omega) (by first | exact Or.inl rfl | exact Or.inr rfl | exact bz_01 _ | assumption) ?_
              refine V_aload_n (i := 0) F dM_track_80 rfl rfl ?_
              refine V_getr (ci := 7) (C := R_M) (T := T_M) (N := 32) F dM_track_81 (by first | rfl | assumption) rfl (j := 3) (by decide) rfl lfM_13 ?_
              refine V_iload F dM_track_84 rfl ?_
              refine V_iconst F dM_track_86 (by decide) ?_
              refine V_iast F dM_track_87 (by first | rfl | assumption) rfl (by omega) ?_
              refine V_aload_n (i := 0) F dM_track_88 rfl rfl ?_
              refine V_callVv F dM_track_89 lmM_200 miM_changed mvM_changed (ctM_changed (w := upw (upw w 78 (6 * (8 * y + x) + p) b) 79 (6 * (8 * y + x) + p) 0)) (by decide) (by first | rfl | assumption) rfl rfl (Nat.le_of_ble_eq_true rfl) (fun u hr => ?_)
              skip
              refine V_iconst F dM_track_92 (by decide) ?_
              exact hR _ _ _ _ dM_track_93 (by first | exact Or.inl rfl | exact Or.inr rfl | exact bz_01 _ | assumption) (by
                            first
                            | exact Or.inl ⟨⟨h6, by omega, h24, h51, fun z => h66 z.2⟩, rfl, hr⟩
                            | exact Or.inl ⟨⟨h6, by omega, h24, h51, fun z => h56 z.1⟩, rfl, hr⟩
                            | exact Or.inr ⟨fun z => h6 z.1, rfl, rfl⟩
                            | exact Or.inr ⟨fun z => z.2.2.1 h24, rfl, rfl⟩
                            | exact Or.inr ⟨fun z => z.2.2.2.1 h51, rfl, rfl⟩
                            | exact Or.inr ⟨fun z => z.2.2.2.2 ⟨h56, h66⟩, rfl, rfl⟩
                            | exact Or.inr ⟨fun z => by have := z.2.1; omega, rfl, rfl⟩)
            · first | (replace h56 := bz_ne0.mp h56) | (replace h56 := bz_eq0.mp h56) | skip
              refine V_aload_n (i := 0) F dM_track_59 rfl rfl ?_
              refine V_iload_n (i := 1) F dM_track_60 rfl rfl ?_
              refine V_iload_n (i := 2) F dM_track_61 rfl rfl ?_
              refine V_iload_n (i := 3) F dM_track_62 rfl rfl ?_
              refine V_callVi F dM_track_63 lmM_197 miM_stationed mvM_stationed (ctM_stationed (by omega) hm) (by decide) (by first | rfl | assumption) rfl rfl (Nat.le_of_ble_eq_true rfl) (fun r u hr => ?_)
              obtain ⟨rfl, rfl⟩ := hr
              refine V_if_eq F 71 dM_track_66 (by decide) (fun h66 => ?_) (fun h66 => ?_)
              · first | (replace h66 := bz_ne0.mp h66) | (replace h66 := bz_eq0.mp h66) | skip
                refine V_aload_n (i := 0) F dM_track_71 rfl rfl ?_
                refine V_getr (ci := 7) (C := R_M) (T := T_M) (N := 32) F dM_track_72 (by first | rfl | assumption) rfl (j := 2) (by decide) rfl lfM_7 ?_
                refine V_iload F dM_track_75 rfl ?_
                refine V_iload F dM_track_77 rfl ?_
                refine V_zast F dM_track_79 (by first | rfl | assumption) rfl (by omega) (by first | exact Or.inl rfl | exact Or.inr rfl | exact bz_01 _ | assumption) ?_
                refine V_aload_n (i := 0) F dM_track_80 rfl rfl ?_
                refine V_getr (ci := 7) (C := R_M) (T := T_M) (N := 32) F dM_track_81 (by first | rfl | assumption) rfl (j := 3) (by decide) rfl lfM_13 ?_
                refine V_iload F dM_track_84 rfl ?_
                refine V_iconst F dM_track_86 (by decide) ?_
                refine V_iast F dM_track_87 (by first | rfl | assumption) rfl (by omega) ?_
                refine V_aload_n (i := 0) F dM_track_88 rfl rfl ?_
                refine V_callVv F dM_track_89 lmM_200 miM_changed mvM_changed (ctM_changed (w := upw (upw w 78 (6 * (8 * y + x) + p) b) 79 (6 * (8 * y + x) + p) 0)) (by decide) (by first | rfl | assumption) rfl rfl (Nat.le_of_ble_eq_true rfl) (fun u hr => ?_)
                skip
                refine V_iconst F dM_track_92 (by decide) ?_
                exact hR _ _ _ _ dM_track_93 (by first | exact Or.inl rfl | exact Or.inr rfl | exact bz_01 _ | assumption) (by
                              first
                              | exact Or.inl ⟨⟨h6, by omega, h24, h51, fun z => h66 z.2⟩, rfl, hr⟩
                              | exact Or.inl ⟨⟨h6, by omega, h24, h51, fun z => h56 z.1⟩, rfl, hr⟩
                              | exact Or.inr ⟨fun z => h6 z.1, rfl, rfl⟩
                              | exact Or.inr ⟨fun z => z.2.2.1 h24, rfl, rfl⟩
                              | exact Or.inr ⟨fun z => z.2.2.2.1 h51, rfl, rfl⟩
                              | exact Or.inr ⟨fun z => z.2.2.2.2 ⟨h56, h66⟩, rfl, rfl⟩
                              | exact Or.inr ⟨fun z => by have := z.2.1; omega, rfl, rfl⟩)
              · first | (replace h66 := bz_ne0.mp h66) | (replace h66 := bz_eq0.mp h66) | skip
                refine V_iconst F dM_track_69 (by decide) ?_
                exact hR _ _ _ _ dM_track_70 (by first | exact Or.inl rfl | exact Or.inr rfl | exact bz_01 _ | assumption) (by
                              first
                              | exact Or.inl ⟨⟨h6, by omega, h24, h51, fun z => h66 z.2⟩, rfl, hr⟩
                              | exact Or.inl ⟨⟨h6, by omega, h24, h51, fun z => h56 z.1⟩, rfl, hr⟩
                              | exact Or.inr ⟨fun z => h6 z.1, rfl, rfl⟩
                              | exact Or.inr ⟨fun z => z.2.2.1 h24, rfl, rfl⟩
                              | exact Or.inr ⟨fun z => z.2.2.2.1 h51, rfl, rfl⟩
                              | exact Or.inr ⟨fun z => z.2.2.2.2 ⟨h56, h66⟩, rfl, rfl⟩
                              | exact Or.inr ⟨fun z => by have := z.2.1; omega, rfl, rfl⟩)
        · first | (replace h24 := bz_ne0.mp h24) | (replace h24 := bz_eq0.mp h24) | skip
          refine V_iconst F dM_track_27 (by decide) ?_
          exact hR _ _ _ _ dM_track_28 (by first | exact Or.inl rfl | exact Or.inr rfl | exact bz_01 _ | assumption) (by
                        first
                        | exact Or.inl ⟨⟨h6, by omega, h24, h51, fun z => h66 z.2⟩, rfl, hr⟩
                        | exact Or.inl ⟨⟨h6, by omega, h24, h51, fun z => h56 z.1⟩, rfl, hr⟩
                        | exact Or.inr ⟨fun z => h6 z.1, rfl, rfl⟩
                        | exact Or.inr ⟨fun z => z.2.2.1 h24, rfl, rfl⟩
                        | exact Or.inr ⟨fun z => z.2.2.2.1 h51, rfl, rfl⟩
                        | exact Or.inr ⟨fun z => z.2.2.2.2 ⟨h56, h66⟩, rfl, rfl⟩
                        | exact Or.inr ⟨fun z => by have := z.2.1; omega, rfl, rfl⟩)
def sgM (w : RW) (x y p e b : Int) : Prop := (lpc w x y p ∧ hsE p e) ∧ ¬ hdM w (8 * y + x) (w 77 10) ∧ ¬ stM w (w 77 4) x y p ∧ ¬ bz (tb (w 79 (twd w x y p e / 2)) (twd w x y p e % 2)) = b
noncomputable def sgMW (w : RW) (q : Int) : RW := upw w 79 (q / 2) (ixor (w 79 (q / 2)) (p2 (q % 2)))
theorem ctM_signal {G : vG} {l : Launch} {w : RW} {x y p e b : Int} (hb : b = 0 ∨ b = 1) (hm : mOK w) : CTi G l yM_signal cM_signal 7 .boolean 3 [.inr 77, .inl x, .inl y, .inl p, .inl e, .inl b] w (fun r u => (sgM w x y p e b ∧ r = 1 ∧ chI (sgMW w (twd w x y p e)) u 6) ∨ (¬ sgM w x y p e b ∧ r = 0 ∧ w = u)) := by
  refine CTi.bool (by decide) (Nat.le_of_ble_eq_true rfl) ?_
  intro X Q F hX hR
  subst hX
  show V G X 7 Q 0 [some (.inr 77), some (.inl x), some (.inl y), some (.inl p), some (.inl e), some (.inl b), none] [] w
  have k1 := hm.1
  have hT := twd_rng (x := x) (y := y) (p := p) (e := e) hm
  refine V_aload_n (i := 0) F dM_signal_0 rfl rfl ?_
  refine V_iload_n (i := 1) F dM_signal_1 rfl rfl ?_
  refine V_iload_n (i := 2) F dM_signal_2 rfl rfl ?_
  refine V_iload_n (i := 3) F dM_signal_3 rfl rfl ?_
  refine V_iload F dM_signal_4 rfl ?_
  refine V_callVi F dM_signal_6 lmM_203 miM_toward mvM_toward (ctM_toward hm) (by decide) (by first | rfl | assumption) rfl rfl (Nat.le_of_ble_eq_true rfl) (fun r u hr => ?_)
  obtain ⟨rfl, rfl⟩ := hr
  refine V_istore F dM_signal_9 (by decide) (by simp only [List.set_cons_zero, List.set_cons_succ]; exact rfl) ?_
  refine V_iload F dM_signal_11 rfl ?_
  refine V_if_lt F 46 dM_signal_13 (by decide) (fun h13 => ?_) (fun h13 => ?_)
  · refine V_iconst F dM_signal_46 (by decide) ?_
    exact hR _ _ _ _ dM_signal_47 (by first | exact Or.inl rfl | exact Or.inr rfl | exact bz_01 _ | assumption) (by
                  first
                  | exact Or.inl ⟨⟨⟨hT2.2.1, hT2.2.2.1⟩, bz_eq0.mp (by omega), bz_eq0.mp (by omega), h43⟩, rfl, hr⟩
                  | exact Or.inr ⟨fun z => z.2.2.2 h43, rfl, rfl⟩
                  | exact Or.inr ⟨fun z => z.2.2.1 (bz_ne0.mp h32), rfl, rfl⟩
                  | exact Or.inr ⟨fun z => z.2.1 (bz_ne0.mp h22), rfl, rfl⟩
                  | exact Or.inr ⟨fun z => (hT.elim (fun h => h.2) (fun h => by omega)) z.1, rfl, rfl⟩)
  · have hT2 : (0 ≤ twd w x y p e ∧ twd w x y p e < 576) ∧ lpc w x y p ∧ hsE p e ∧ twd w x y p e / 2 = 6 * (8 * y + x) + p := hT.resolve_left (fun h => by have := h.1; omega)
    have hxy := lpc_xy hm hT2.2.1
    refine V_aload_n (i := 0) F dM_signal_16 rfl rfl ?_
    refine V_iload_n (i := 1) F dM_signal_17 rfl rfl ?_
    refine V_iload_n (i := 2) F dM_signal_18 rfl rfl ?_
    refine V_callVi F dM_signal_19 lmM_194 miM_tileHeld mvM_tileHeld (ctM_tileHeld (by omega) hm) (by decide) (by first | rfl | assumption) rfl rfl (Nat.le_of_ble_eq_true rfl) (fun r u hr => ?_)
    obtain ⟨rfl, rfl⟩ := hr
    refine V_if_ne F 46 dM_signal_22 (by decide) (fun h22 => ?_) (fun h22 => ?_)
    · refine V_iconst F dM_signal_46 (by decide) ?_
      exact hR _ _ _ _ dM_signal_47 (by first | exact Or.inl rfl | exact Or.inr rfl | exact bz_01 _ | assumption) (by
                    first
                    | exact Or.inl ⟨⟨⟨hT2.2.1, hT2.2.2.1⟩, bz_eq0.mp (by omega), bz_eq0.mp (by omega), h43⟩, rfl, hr⟩
                    | exact Or.inr ⟨fun z => z.2.2.2 h43, rfl, rfl⟩
                    | exact Or.inr ⟨fun z => z.2.2.1 (bz_ne0.mp h32), rfl, rfl⟩
                    | exact Or.inr ⟨fun z => z.2.1 (bz_ne0.mp h22), rfl, rfl⟩
                    | exact Or.inr ⟨fun z => (hT.elim (fun h => h.2) (fun h => by omega)) z.1, rfl, rfl⟩)
    · refine V_aload_n (i := 0) F dM_signal_25 rfl rfl ?_
      refine V_iload_n (i := 1) F dM_signal_26 rfl rfl ?_
      refine V_iload_n (i := 2) F dM_signal_27 rfl rfl ?_
      refine V_iload_n (i := 3) F dM_signal_28 rfl rfl ?_
      refine V_callVi F dM_signal_29 lmM_197 miM_stationed mvM_stationed (ctM_stationed (by omega) hm) (by decide) (by first | rfl | assumption) rfl rfl (Nat.le_of_ble_eq_true rfl) (fun r u hr => ?_)
      obtain ⟨rfl, rfl⟩ := hr
      refine V_if_ne F 46 dM_signal_32 (by decide) (fun h32 => ?_) (fun h32 => ?_)
      · refine V_iconst F dM_signal_46 (by decide) ?_
        exact hR _ _ _ _ dM_signal_47 (by first | exact Or.inl rfl | exact Or.inr rfl | exact bz_01 _ | assumption) (by
                      first
                      | exact Or.inl ⟨⟨⟨hT2.2.1, hT2.2.2.1⟩, bz_eq0.mp (by omega), bz_eq0.mp (by omega), h43⟩, rfl, hr⟩
                      | exact Or.inr ⟨fun z => z.2.2.2 h43, rfl, rfl⟩
                      | exact Or.inr ⟨fun z => z.2.2.1 (bz_ne0.mp h32), rfl, rfl⟩
                      | exact Or.inr ⟨fun z => z.2.1 (bz_ne0.mp h22), rfl, rfl⟩
                      | exact Or.inr ⟨fun z => (hT.elim (fun h => h.2) (fun h => by omega)) z.1, rfl, rfl⟩)
      · refine V_aload_n (i := 0) F dM_signal_35 rfl rfl ?_
        refine V_iload F dM_signal_36 rfl ?_
        refine V_callVi F dM_signal_38 lmM_105 miM_signalled mvM_signalled (ctM_signalled (by omega) hm) (by decide) (by first | rfl | assumption) rfl rfl (Nat.le_of_ble_eq_true rfl) (fun r u hr => ?_)
        obtain ⟨rfl, rfl⟩ := hr
        refine V_iload F dM_signal_41 rfl ?_
        refine V_icmp_ne F 48 dM_signal_43 (by decide) (fun h43 => ?_) (fun h43 => ?_)
        · refine V_aload_n (i := 0) F dM_signal_48 rfl rfl ?_
          refine V_getr (ci := 7) (C := R_M) (T := T_M) (N := 32) F dM_signal_49 (by first | rfl | assumption) rfl (j := 3) (by decide) rfl lfM_13 ?_
          refine V_iload F dM_signal_52 rfl ?_
          refine V_iconst F dM_signal_54 (by decide) ?_
          refine V_idiv F dM_signal_55 (by omega) ?_
          refine V_dup2 F dM_signal_56 ?_
          first
            | refine V_sald F dM_signal_57 (by decide) (by omega) (stt_in _ _) ?_
            | refine V_iald F dM_signal_57 (by first | rfl | assumption) rfl (by omega) ?_
          refine V_iconst F dM_signal_58 (by decide) ?_
          refine V_iload F dM_signal_59 rfl ?_
          refine V_iconst F dM_signal_61 (by decide) ?_
          refine V_irem F dM_signal_62 (by omega) ?_
          refine V_ishl F _ dM_signal_63 (ishl_1 (by omega)) ?_
          refine V_ixor F _ dM_signal_64 rfl ?_
          refine V_iast F dM_signal_65 (by first | rfl | assumption) rfl (by omega) ?_
          show V _ _ _ _ _ _ _ (sgMW w (twd w x y p e))
          refine V_aload_n (i := 0) F dM_signal_66 rfl rfl ?_
          refine V_callVv F dM_signal_67 lmM_200 miM_changed mvM_changed (ctM_changed (w := sgMW w (twd w x y p e))) (by decide) (by first | rfl | assumption) rfl rfl (Nat.le_of_ble_eq_true rfl) (fun u hr => ?_)
          skip
          refine V_iconst F dM_signal_70 (by decide) ?_
          exact hR _ _ _ _ dM_signal_71 (by first | exact Or.inl rfl | exact Or.inr rfl | exact bz_01 _ | assumption) (by
                        first
                        | exact Or.inl ⟨⟨⟨hT2.2.1, hT2.2.2.1⟩, bz_eq0.mp (by omega), bz_eq0.mp (by omega), h43⟩, rfl, hr⟩
                        | exact Or.inr ⟨fun z => z.2.2.2 h43, rfl, rfl⟩
                        | exact Or.inr ⟨fun z => z.2.2.1 (bz_ne0.mp h32), rfl, rfl⟩
                        | exact Or.inr ⟨fun z => z.2.1 (bz_ne0.mp h22), rfl, rfl⟩
                        | exact Or.inr ⟨fun z => (hT.elim (fun h => h.2) (fun h => by omega)) z.1, rfl, rfl⟩)
        · refine V_iconst F dM_signal_46 (by decide) ?_
          exact hR _ _ _ _ dM_signal_47 (by first | exact Or.inl rfl | exact Or.inr rfl | exact bz_01 _ | assumption) (by
                        first
                        | exact Or.inl ⟨⟨⟨hT2.2.1, hT2.2.2.1⟩, bz_eq0.mp (by omega), bz_eq0.mp (by omega), h43⟩, rfl, hr⟩
                        | exact Or.inr ⟨fun z => z.2.2.2 h43, rfl, rfl⟩
                        | exact Or.inr ⟨fun z => z.2.2.1 (bz_ne0.mp h32), rfl, rfl⟩
                        | exact Or.inr ⟨fun z => z.2.1 (bz_ne0.mp h22), rfl, rfl⟩
                        | exact Or.inr ⟨fun z => (hT.elim (fun h => h.2) (fun h => by omega)) z.1, rfl, rfl⟩)
def soM (w : RW) (x y p c : Int) : Prop := (0 ≤ c ∧ c ≤ 50 ∧ p ≤ 1) ∧ lpc w x y p ∧ w 79 (6 * (8 * y + x) + p) = 0 ∧ ¬ hdM w (8 * y + x) (w 77 10) ∧ ¬ stM w (w 77 4) x y (-1)
def soW (w : RW) (x y p c : Int) : RW := upw (upw (upw (upw (upw w 80 (w 77 4) (6 * (8 * y + x) + p)) 81 (w 77 4) c) 82 (w 77 4) 0) 83 (w 77 4) 0) 77 4 (w 77 4 + 1)
theorem ctM_station {G : vG} {l : Launch} {w : RW} {x y p c : Int} (hm : mOK w) : CTi G l yM_station cM_station 5 .int 2 [.inr 77, .inl x, .inl y, .inl p, .inl c] w (fun r u => (¬ soM w x y p c ∧ r = -1 ∧ w = u) ∨ (soM w x y p c ∧ w 77 4 = 6 ∧ r = -2 ∧ w = u) ∨ (soM w x y p c ∧ ¬ w 77 4 = 6 ∧ r = w 77 4 ∧ soW w x y p c = u)) := by
  refine CTi.int (by decide) (Nat.le_of_ble_eq_true rfl) ?_
  intro X Q F hX hR
  subst hX
  show V G X 5 Q 0 [some (.inr 77), some (.inl x), some (.inl y), some (.inl p), some (.inl c)] [] w
  have k1 := hm.1
  have k3 := hm.2.2.1
  refine V_iload F dM_station_0 rfl ?_
  refine V_if_lt F 65 dM_station_2 (by decide) (fun h2 => ?_) (fun h2 => ?_)
  · first | (replace h2 := bz_ne0.mp h2) | (replace h2 := bz_eq0.mp h2) | skip
    refine V_iconst F dM_station_65 (by decide) ?_
    exact hR _ _ _ _ dM_station_66 (by
                  first
                  | exact Or.inr (Or.inr ⟨⟨by omega, h24, h43, h52, h62⟩, h73, by omega, rfl⟩)
                  | exact Or.inr (Or.inl ⟨⟨by omega, h24, h43, h52, h62⟩, h73, rfl, rfl⟩)
                  | exact Or.inl ⟨fun z => z.2.2.2.2 h62, rfl, rfl⟩
                  | exact Or.inl ⟨fun z => z.2.2.2.1 h52, rfl, rfl⟩
                  | exact Or.inl ⟨fun z => h43 z.2.2.1, rfl, rfl⟩
                  | exact Or.inl ⟨fun z => h24 z.2.1, rfl, rfl⟩
                  | exact Or.inl ⟨fun z => by have := z.1; omega, rfl, rfl⟩)
  · first | (replace h2 := bz_ne0.mp h2) | (replace h2 := bz_eq0.mp h2) | skip
    refine V_iload F dM_station_5 rfl ?_
    refine V_bipush F dM_station_7 (by decide) ?_
    refine V_icmp_gt F 65 dM_station_9 (by decide) (fun h9 => ?_) (fun h9 => ?_)
    · first | (replace h9 := bz_ne0.mp h9) | (replace h9 := bz_eq0.mp h9) | skip
      refine V_iconst F dM_station_65 (by decide) ?_
      exact hR _ _ _ _ dM_station_66 (by
                    first
                    | exact Or.inr (Or.inr ⟨⟨by omega, h24, h43, h52, h62⟩, h73, by omega, rfl⟩)
                    | exact Or.inr (Or.inl ⟨⟨by omega, h24, h43, h52, h62⟩, h73, rfl, rfl⟩)
                    | exact Or.inl ⟨fun z => z.2.2.2.2 h62, rfl, rfl⟩
                    | exact Or.inl ⟨fun z => z.2.2.2.1 h52, rfl, rfl⟩
                    | exact Or.inl ⟨fun z => h43 z.2.2.1, rfl, rfl⟩
                    | exact Or.inl ⟨fun z => h24 z.2.1, rfl, rfl⟩
                    | exact Or.inl ⟨fun z => by have := z.1; omega, rfl, rfl⟩)
    · first | (replace h9 := bz_ne0.mp h9) | (replace h9 := bz_eq0.mp h9) | skip
      refine V_iload_n (i := 3) F dM_station_12 rfl rfl ?_
      refine V_iconst F dM_station_13 (by decide) ?_
      refine V_icmp_gt F 65 dM_station_14 (by decide) (fun h14 => ?_) (fun h14 => ?_)
      · first | (replace h14 := bz_ne0.mp h14) | (replace h14 := bz_eq0.mp h14) | skip
        refine V_iconst F dM_station_65 (by decide) ?_
        exact hR _ _ _ _ dM_station_66 (by
                      first
                      | exact Or.inr (Or.inr ⟨⟨by omega, h24, h43, h52, h62⟩, h73, by omega, rfl⟩)
                      | exact Or.inr (Or.inl ⟨⟨by omega, h24, h43, h52, h62⟩, h73, rfl, rfl⟩)
                      | exact Or.inl ⟨fun z => z.2.2.2.2 h62, rfl, rfl⟩
                      | exact Or.inl ⟨fun z => z.2.2.2.1 h52, rfl, rfl⟩
                      | exact Or.inl ⟨fun z => h43 z.2.2.1, rfl, rfl⟩
                      | exact Or.inl ⟨fun z => h24 z.2.1, rfl, rfl⟩
                      | exact Or.inl ⟨fun z => by have := z.1; omega, rfl, rfl⟩)
      · first | (replace h14 := bz_ne0.mp h14) | (replace h14 := bz_eq0.mp h14) | skip
        refine V_aload_n (i := 0) F dM_station_17 rfl rfl ?_
        refine V_iload_n (i := 1) F dM_station_18 rfl rfl ?_
        refine V_iload_n (i := 2) F dM_station_19 rfl rfl ?_
        refine V_iload_n (i := 3) F dM_station_20 rfl rfl ?_
        refine V_callVi F dM_station_21 lmM_101 miM_isPiece mvM_isPiece (ctM_isPiece hm) (by decide) (by first | rfl | assumption) rfl rfl (Nat.le_of_ble_eq_true rfl) (fun r u hr => ?_)
        obtain ⟨rfl, rfl⟩ := hr
        refine V_if_eq F 65 dM_station_24 (by decide) (fun h24 => ?_) (fun h24 => ?_)
        · first | (replace h24 := bz_ne0.mp h24) | (replace h24 := bz_eq0.mp h24) | skip
          refine V_iconst F dM_station_65 (by decide) ?_
          exact hR _ _ _ _ dM_station_66 (by
                        first
                        | exact Or.inr (Or.inr ⟨⟨by omega, h24, h43, h52, h62⟩, h73, by omega, rfl⟩)
                        | exact Or.inr (Or.inl ⟨⟨by omega, h24, h43, h52, h62⟩, h73, rfl, rfl⟩)
                        | exact Or.inl ⟨fun z => z.2.2.2.2 h62, rfl, rfl⟩
                        | exact Or.inl ⟨fun z => z.2.2.2.1 h52, rfl, rfl⟩
                        | exact Or.inl ⟨fun z => h43 z.2.2.1, rfl, rfl⟩
                        | exact Or.inl ⟨fun z => h24 z.2.1, rfl, rfl⟩
                        | exact Or.inl ⟨fun z => by have := z.1; omega, rfl, rfl⟩)
        · first | (replace h24 := bz_ne0.mp h24) | (replace h24 := bz_eq0.mp h24) | skip
          have hxy := lpc_xy hm h24
          refine V_aload_n (i := 0) F dM_station_27 rfl rfl ?_
          refine V_getr (ci := 7) (C := R_M) (T := T_M) (N := 32) F dM_station_28 (by first | rfl | assumption) rfl (j := 3) (by decide) rfl lfM_13 ?_
          refine V_bipush F dM_station_31 (by decide) ?_
          refine V_bipush F dM_station_33 (by decide) ?_
          refine V_iload_n (i := 2) F dM_station_35 rfl rfl ?_
          refine V_imul F dM_station_36 (by omega) ?_
          refine V_iload_n (i := 1) F dM_station_37 rfl rfl ?_
          refine V_iadd F dM_station_38 (by omega) ?_
          refine V_imul F dM_station_39 (by omega) ?_
          refine V_iload_n (i := 3) F dM_station_40 rfl rfl ?_
          refine V_iadd F dM_station_41 (by omega) ?_
          first
            | refine V_sald F dM_station_42 (by decide) (by omega) (stt_in _ _) ?_
            | refine V_iald F dM_station_42 (by first | rfl | assumption) rfl (by omega) ?_
          refine V_if_ne F 65 dM_station_43 (by decide) (fun h43 => ?_) (fun h43 => ?_)
          · first | (replace h43 := bz_ne0.mp h43) | (replace h43 := bz_eq0.mp h43) | skip
            refine V_iconst F dM_station_65 (by decide) ?_
            exact hR _ _ _ _ dM_station_66 (by
                          first
                          | exact Or.inr (Or.inr ⟨⟨by omega, h24, h43, h52, h62⟩, h73, by omega, rfl⟩)
                          | exact Or.inr (Or.inl ⟨⟨by omega, h24, h43, h52, h62⟩, h73, rfl, rfl⟩)
                          | exact Or.inl ⟨fun z => z.2.2.2.2 h62, rfl, rfl⟩
                          | exact Or.inl ⟨fun z => z.2.2.2.1 h52, rfl, rfl⟩
                          | exact Or.inl ⟨fun z => h43 z.2.2.1, rfl, rfl⟩
                          | exact Or.inl ⟨fun z => h24 z.2.1, rfl, rfl⟩
                          | exact Or.inl ⟨fun z => by have := z.1; omega, rfl, rfl⟩)
          · first | (replace h43 := bz_ne0.mp h43) | (replace h43 := bz_eq0.mp h43) | skip
            refine V_aload_n (i := 0) F dM_station_46 rfl rfl ?_
            refine V_iload_n (i := 1) F dM_station_47 rfl rfl ?_
            refine V_iload_n (i := 2) F dM_station_48 rfl rfl ?_
            refine V_callVi F dM_station_49 lmM_194 miM_tileHeld mvM_tileHeld (ctM_tileHeld (by omega) hm) (by decide) (by first | rfl | assumption) rfl rfl (Nat.le_of_ble_eq_true rfl) (fun r u hr => ?_)
            obtain ⟨rfl, rfl⟩ := hr
            refine V_if_ne F 65 dM_station_52 (by decide) (fun h52 => ?_) (fun h52 => ?_)
            · first | (replace h52 := bz_ne0.mp h52) | (replace h52 := bz_eq0.mp h52) | skip
              refine V_iconst F dM_station_65 (by decide) ?_
              exact hR _ _ _ _ dM_station_66 (by
                            first
                            | exact Or.inr (Or.inr ⟨⟨by omega, h24, h43, h52, h62⟩, h73, by omega, rfl⟩)
                            | exact Or.inr (Or.inl ⟨⟨by omega, h24, h43, h52, h62⟩, h73, rfl, rfl⟩)
                            | exact Or.inl ⟨fun z => z.2.2.2.2 h62, rfl, rfl⟩
                            | exact Or.inl ⟨fun z => z.2.2.2.1 h52, rfl, rfl⟩
                            | exact Or.inl ⟨fun z => h43 z.2.2.1, rfl, rfl⟩
                            | exact Or.inl ⟨fun z => h24 z.2.1, rfl, rfl⟩
                            | exact Or.inl ⟨fun z => by have := z.1; omega, rfl, rfl⟩)
            · first | (replace h52 := bz_ne0.mp h52) | (replace h52 := bz_eq0.mp h52) | skip
              refine V_aload_n (i := 0) F dM_station_55 rfl rfl ?_
              refine V_iload_n (i := 1) F dM_station_56 rfl rfl ?_
              refine V_iload_n (i := 2) F dM_station_57 rfl rfl ?_
              refine V_iconst F dM_station_58 (by decide) ?_
              refine V_callVi F dM_station_59 lmM_197 miM_stationed mvM_stationed (ctM_stationed (by omega) hm) (by decide) (by first | rfl | assumption) rfl rfl (Nat.le_of_ble_eq_true rfl) (fun r u hr => ?_)
              obtain ⟨rfl, rfl⟩ := hr
              refine V_if_eq F 67 dM_station_62 (by decide) (fun h62 => ?_) (fun h62 => ?_)
              · first | (replace h62 := bz_ne0.mp h62) | (replace h62 := bz_eq0.mp h62) | skip
                refine V_aload_n (i := 0) F dM_station_67 rfl rfl ?_
                refine V_geti (ci := 7) (C := R_M) (T := T_M) (N := 32) F dM_station_68 (by first | rfl | assumption) rfl (j := 4) 4 rfl (by decide) rfl lfM_185 ?_
                refine V_bipush F dM_station_71 (by decide) ?_
                refine V_icmp_ne F 79 dM_station_73 (by decide) (fun h73 => ?_) (fun h73 => ?_)
                · first | (replace h73 := bz_ne0.mp h73) | (replace h73 := bz_eq0.mp h73) | skip
                  refine V_aload_n (i := 0) F dM_station_79 rfl rfl ?_
                  refine V_getr (ci := 7) (C := R_M) (T := T_M) (N := 32) F dM_station_80 (by first | rfl | assumption) rfl (j := 5) (by decide) rfl lfM_17 ?_
                  refine V_aload_n (i := 0) F dM_station_83 rfl rfl ?_
                  refine V_geti (ci := 7) (C := R_M) (T := T_M) (N := 32) F dM_station_84 (by first | rfl | assumption) rfl (j := 4) 4 rfl (by decide) rfl lfM_185 ?_
                  refine V_bipush F dM_station_87 (by decide) ?_
                  refine V_bipush F dM_station_89 (by decide) ?_
                  refine V_iload_n (i := 2) F dM_station_91 rfl rfl ?_
                  refine V_imul F dM_station_92 (by omega) ?_
                  refine V_iload_n (i := 1) F dM_station_93 rfl rfl ?_
                  refine V_iadd F dM_station_94 (by omega) ?_
                  refine V_imul F dM_station_95 (by omega) ?_
                  refine V_iload_n (i := 3) F dM_station_96 rfl rfl ?_
                  refine V_iadd F dM_station_97 (by omega) ?_
                  refine V_iast F dM_station_98 (by first | rfl | assumption) rfl (by omega) ?_
                  refine V_aload_n (i := 0) F dM_station_99 rfl rfl ?_
                  refine V_getr (ci := 7) (C := R_M) (T := T_M) (N := 32) F dM_station_100 (by first | rfl | assumption) rfl (j := 6) (by decide) rfl lfM_20 ?_
                  refine V_aload_n (i := 0) F dM_station_103 rfl rfl ?_
                  refine V_geti (ci := 7) (C := R_M) (T := T_M) (N := 32) F dM_station_104 (by first | rfl | assumption) rfl (j := 4) 4 rfl (by decide) rfl lfM_185 ?_
                  try simp only [upw_s, upw_f (show (77 : Nat) ≠ 80 by decide), upw_f (show (77 : Nat) ≠ 81 by decide), upw_f (show (77 : Nat) ≠ 82 by decide), upw_f (show (77 : Nat) ≠ 83 by decide)]
                  refine V_iload F dM_station_107 rfl ?_
                  refine V_iast F dM_station_109 (by first | rfl | assumption) rfl (by omega) ?_
                  refine V_aload_n (i := 0) F dM_station_110 rfl rfl ?_
                  refine V_getr (ci := 7) (C := R_M) (T := T_M) (N := 32) F dM_station_111 (by first | rfl | assumption) rfl (j := 7) (by decide) rfl lfM_23 ?_
                  refine V_aload_n (i := 0) F dM_station_114 rfl rfl ?_
                  refine V_geti (ci := 7) (C := R_M) (T := T_M) (N := 32) F dM_station_115 (by first | rfl | assumption) rfl (j := 4) 4 rfl (by decide) rfl lfM_185 ?_
                  try simp only [upw_s, upw_f (show (77 : Nat) ≠ 80 by decide), upw_f (show (77 : Nat) ≠ 81 by decide), upw_f (show (77 : Nat) ≠ 82 by decide), upw_f (show (77 : Nat) ≠ 83 by decide)]
                  refine V_iconst F dM_station_118 (by decide) ?_
                  refine V_iast F dM_station_119 (by first | rfl | assumption) rfl (by omega) ?_
                  refine V_aload_n (i := 0) F dM_station_120 rfl rfl ?_
                  refine V_getr (ci := 7) (C := R_M) (T := T_M) (N := 32) F dM_station_121 (by first | rfl | assumption) rfl (j := 8) (by decide) rfl lfM_26 ?_
                  refine V_aload_n (i := 0) F dM_station_124 rfl rfl ?_
                  refine V_geti (ci := 7) (C := R_M) (T := T_M) (N := 32) F dM_station_125 (by first | rfl | assumption) rfl (j := 4) 4 rfl (by decide) rfl lfM_185 ?_
                  try simp only [upw_s, upw_f (show (77 : Nat) ≠ 80 by decide), upw_f (show (77 : Nat) ≠ 81 by decide), upw_f (show (77 : Nat) ≠ 82 by decide), upw_f (show (77 : Nat) ≠ 83 by decide)]
                  refine V_iconst F dM_station_128 (by decide) ?_
                  refine V_zast F dM_station_129 (by first | rfl | assumption) rfl (by omega) (by first | exact Or.inl rfl | exact Or.inr rfl | exact bz_01 _ | assumption) ?_
                  refine V_aload_n (i := 0) F dM_station_130 rfl rfl ?_
                  refine V_dup F dM_station_131 ?_
                  refine V_geti (ci := 7) (C := R_M) (T := T_M) (N := 32) F dM_station_132 (by first | rfl | assumption) rfl (j := 4) 4 rfl (by decide) rfl lfM_185 ?_
                  try simp only [upw_s, upw_f (show (77 : Nat) ≠ 80 by decide), upw_f (show (77 : Nat) ≠ 81 by decide), upw_f (show (77 : Nat) ≠ 82 by decide), upw_f (show (77 : Nat) ≠ 83 by decide)]
                  refine V_iconst F dM_station_135 (by decide) ?_
                  refine V_iadd F dM_station_136 (by omega) ?_
                  refine V_puti (ci := 7) (C := R_M) (T := T_M) (N := 32) F dM_station_137 (by first | rfl | assumption) rfl (j := 4) 4 rfl (by decide) rfl rfl rfl lfM_185 ?_
                  refine V_aload_n (i := 0) F dM_station_140 rfl rfl ?_
                  refine V_geti (ci := 7) (C := R_M) (T := T_M) (N := 32) F dM_station_141 (by first | rfl | assumption) rfl (j := 4) 4 rfl (by decide) rfl lfM_185 ?_
                  try simp only [upw_s, upw_f (show (77 : Nat) ≠ 80 by decide), upw_f (show (77 : Nat) ≠ 81 by decide), upw_f (show (77 : Nat) ≠ 82 by decide), upw_f (show (77 : Nat) ≠ 83 by decide)]
                  refine V_iconst F dM_station_144 (by decide) ?_
                  refine V_isub F dM_station_145 (by omega) ?_
                  exact hR _ _ _ _ dM_station_146 (by
                                first
                                | exact Or.inr (Or.inr ⟨⟨by omega, h24, h43, h52, h62⟩, h73, by omega, rfl⟩)
                                | exact Or.inr (Or.inl ⟨⟨by omega, h24, h43, h52, h62⟩, h73, rfl, rfl⟩)
                                | exact Or.inl ⟨fun z => z.2.2.2.2 h62, rfl, rfl⟩
                                | exact Or.inl ⟨fun z => z.2.2.2.1 h52, rfl, rfl⟩
                                | exact Or.inl ⟨fun z => h43 z.2.2.1, rfl, rfl⟩
                                | exact Or.inl ⟨fun z => h24 z.2.1, rfl, rfl⟩
                                | exact Or.inl ⟨fun z => by have := z.1; omega, rfl, rfl⟩)
                · first | (replace h73 := bz_ne0.mp h73) | (replace h73 := bz_eq0.mp h73) | skip
                  refine V_bipush F dM_station_76 (by decide) ?_
                  exact hR _ _ _ _ dM_station_78 (by
                                first
                                | exact Or.inr (Or.inr ⟨⟨by omega, h24, h43, h52, h62⟩, h73, by omega, rfl⟩)
                                | exact Or.inr (Or.inl ⟨⟨by omega, h24, h43, h52, h62⟩, h73, rfl, rfl⟩)
                                | exact Or.inl ⟨fun z => z.2.2.2.2 h62, rfl, rfl⟩
                                | exact Or.inl ⟨fun z => z.2.2.2.1 h52, rfl, rfl⟩
                                | exact Or.inl ⟨fun z => h43 z.2.2.1, rfl, rfl⟩
                                | exact Or.inl ⟨fun z => h24 z.2.1, rfl, rfl⟩
                                | exact Or.inl ⟨fun z => by have := z.1; omega, rfl, rfl⟩)
              · first | (replace h62 := bz_ne0.mp h62) | (replace h62 := bz_eq0.mp h62) | skip
                refine V_iconst F dM_station_65 (by decide) ?_
                exact hR _ _ _ _ dM_station_66 (by
                              first
                              | exact Or.inr (Or.inr ⟨⟨by omega, h24, h43, h52, h62⟩, h73, by omega, rfl⟩)
                              | exact Or.inr (Or.inl ⟨⟨by omega, h24, h43, h52, h62⟩, h73, rfl, rfl⟩)
                              | exact Or.inl ⟨fun z => z.2.2.2.2 h62, rfl, rfl⟩
                              | exact Or.inl ⟨fun z => z.2.2.2.1 h52, rfl, rfl⟩
                              | exact Or.inl ⟨fun z => h43 z.2.2.1, rfl, rfl⟩
                              | exact Or.inl ⟨fun z => h24 z.2.1, rfl, rfl⟩
                              | exact Or.inl ⟨fun z => by have := z.1; omega, rfl, rfl⟩)
def ooM (w : RW) (t s : Int) : Prop := (0 ≤ t ∧ t < w 77 10) ∧ (0 ≤ s ∧ s < w 77 4) ∧ ¬ w 93 t = 6
def ooW (w : RW) (t s : Int) : RW := upw (upw w 92 (6 * t + w 93 t) s) 93 t (w 93 t + 1)
theorem ctM_order {G : vG} {l : Launch} {w : RW} {t s : Int} (hm : mOK w) : CTi G l yM_order cM_order 3 .boolean 1 [.inr 77, .inl t, .inl s] w (fun r u => (ooM w t s ∧ r = 1 ∧ ooW w t s = u) ∨ (¬ ooM w t s ∧ r = 0 ∧ w = u)) := by
  refine CTi.bool (by decide) (Nat.le_of_ble_eq_true rfl) ?_
  intro X Q F hX hR
  subst hX
  show V G X 3 Q 0 [some (.inr 77), some (.inl t), some (.inl s)] [] w
  have k3 := hm.2.2.1
  refine V_aload_n (i := 0) F dM_order_0 rfl rfl ?_
  refine V_iload_n (i := 1) F dM_order_1 rfl rfl ?_
  refine V_callVi F dM_order_2 lmM_210 miM_isTrain mvM_isTrain (ctM_isTrain) (by decide) (by first | rfl | assumption) rfl rfl (Nat.le_of_ble_eq_true rfl) (fun r u hr => ?_)
  obtain ⟨rfl, rfl⟩ := hr
  refine V_if_eq F 31 dM_order_5 (by decide) (fun h5 => ?_) (fun h5 => ?_)
  · first | (replace h5 := bz_ne0.mp h5) | (replace h5 := bz_eq0.mp h5) | skip
    refine V_iconst F dM_order_31 (by decide) ?_
    exact hR _ _ _ _ dM_order_32 (by first | exact Or.inl rfl | exact Or.inr rfl | exact bz_01 _ | assumption) (by
                  first
                  | exact Or.inl ⟨⟨h5, by omega, h28⟩, rfl, rfl⟩
                  | exact Or.inr ⟨fun z => h5 z.1, rfl, rfl⟩
                  | exact Or.inr ⟨fun z => z.2.2 h28, rfl, rfl⟩
                  | exact Or.inr ⟨fun z => by have := z.2.1; omega, rfl, rfl⟩)
  · first | (replace h5 := bz_ne0.mp h5) | (replace h5 := bz_eq0.mp h5) | skip
    have k5 := hm.2.2.2.2.1 t h5.1 (by omega)
    refine V_iload_n (i := 2) F dM_order_8 rfl rfl ?_
    refine V_if_lt F 31 dM_order_9 (by decide) (fun h9 => ?_) (fun h9 => ?_)
    · first | (replace h9 := bz_ne0.mp h9) | (replace h9 := bz_eq0.mp h9) | skip
      refine V_iconst F dM_order_31 (by decide) ?_
      exact hR _ _ _ _ dM_order_32 (by first | exact Or.inl rfl | exact Or.inr rfl | exact bz_01 _ | assumption) (by
                    first
                    | exact Or.inl ⟨⟨h5, by omega, h28⟩, rfl, rfl⟩
                    | exact Or.inr ⟨fun z => h5 z.1, rfl, rfl⟩
                    | exact Or.inr ⟨fun z => z.2.2 h28, rfl, rfl⟩
                    | exact Or.inr ⟨fun z => by have := z.2.1; omega, rfl, rfl⟩)
    · first | (replace h9 := bz_ne0.mp h9) | (replace h9 := bz_eq0.mp h9) | skip
      refine V_iload_n (i := 2) F dM_order_12 rfl rfl ?_
      refine V_aload_n (i := 0) F dM_order_13 rfl rfl ?_
      refine V_geti (ci := 7) (C := R_M) (T := T_M) (N := 32) F dM_order_14 (by first | rfl | assumption) rfl (j := 4) 4 rfl (by decide) rfl lfM_185 ?_
      refine V_icmp_ge F 31 dM_order_17 (by decide) (fun h17 => ?_) (fun h17 => ?_)
      · first | (replace h17 := bz_ne0.mp h17) | (replace h17 := bz_eq0.mp h17) | skip
        refine V_iconst F dM_order_31 (by decide) ?_
        exact hR _ _ _ _ dM_order_32 (by first | exact Or.inl rfl | exact Or.inr rfl | exact bz_01 _ | assumption) (by
                      first
                      | exact Or.inl ⟨⟨h5, by omega, h28⟩, rfl, rfl⟩
                      | exact Or.inr ⟨fun z => h5 z.1, rfl, rfl⟩
                      | exact Or.inr ⟨fun z => z.2.2 h28, rfl, rfl⟩
                      | exact Or.inr ⟨fun z => by have := z.2.1; omega, rfl, rfl⟩)
      · first | (replace h17 := bz_ne0.mp h17) | (replace h17 := bz_eq0.mp h17) | skip
        refine V_aload_n (i := 0) F dM_order_20 rfl rfl ?_
        refine V_getr (ci := 7) (C := R_M) (T := T_M) (N := 32) F dM_order_21 (by first | rfl | assumption) rfl (j := 19) (by decide) rfl lfM_56 ?_
        refine V_iload_n (i := 1) F dM_order_24 rfl rfl ?_
        first
          | refine V_sald F dM_order_25 (by decide) (by omega) (stt_in _ _) ?_
          | refine V_iald F dM_order_25 (by first | rfl | assumption) rfl (by omega) ?_
        refine V_bipush F dM_order_26 (by decide) ?_
        refine V_icmp_ne F 33 dM_order_28 (by decide) (fun h28 => ?_) (fun h28 => ?_)
        · first | (replace h28 := bz_ne0.mp h28) | (replace h28 := bz_eq0.mp h28) | skip
          refine V_aload_n (i := 0) F dM_order_33 rfl rfl ?_
          refine V_getr (ci := 7) (C := R_M) (T := T_M) (N := 32) F dM_order_34 (by first | rfl | assumption) rfl (j := 18) (by decide) rfl lfM_53 ?_
          refine V_bipush F dM_order_37 (by decide) ?_
          refine V_iload_n (i := 1) F dM_order_39 rfl rfl ?_
          refine V_imul F dM_order_40 (by omega) ?_
          refine V_aload_n (i := 0) F dM_order_41 rfl rfl ?_
          refine V_getr (ci := 7) (C := R_M) (T := T_M) (N := 32) F dM_order_42 (by first | rfl | assumption) rfl (j := 19) (by decide) rfl lfM_56 ?_
          refine V_iload_n (i := 1) F dM_order_45 rfl rfl ?_
          first
            | refine V_sald F dM_order_46 (by decide) (by omega) (stt_in _ _) ?_
            | refine V_iald F dM_order_46 (by first | rfl | assumption) rfl (by omega) ?_
          refine V_iadd F dM_order_47 (by omega) ?_
          refine V_iload_n (i := 2) F dM_order_48 rfl rfl ?_
          refine V_iast F dM_order_49 (by first | rfl | assumption) rfl (by omega) ?_
          refine V_aload_n (i := 0) F dM_order_50 rfl rfl ?_
          refine V_getr (ci := 7) (C := R_M) (T := T_M) (N := 32) F dM_order_51 (by first | rfl | assumption) rfl (j := 19) (by decide) rfl lfM_56 ?_
          refine V_iload_n (i := 1) F dM_order_54 rfl rfl ?_
          refine V_dup2 F dM_order_55 ?_
          first
            | refine V_sald F dM_order_56 (by decide) (by omega) (stt_in _ _) ?_
            | refine V_iald F dM_order_56 (by first | rfl | assumption) rfl (by omega) ?_
          try simp only [upw_s, upw_f (show (93 : Nat) ≠ 92 by decide)]
          refine V_iconst F dM_order_57 (by decide) ?_
          refine V_iadd F dM_order_58 (by omega) ?_
          refine V_iast F dM_order_59 (by first | rfl | assumption) rfl (by omega) ?_
          refine V_iconst F dM_order_60 (by decide) ?_
          exact hR _ _ _ _ dM_order_61 (by first | exact Or.inl rfl | exact Or.inr rfl | exact bz_01 _ | assumption) (by
                        first
                        | exact Or.inl ⟨⟨h5, by omega, h28⟩, rfl, rfl⟩
                        | exact Or.inr ⟨fun z => h5 z.1, rfl, rfl⟩
                        | exact Or.inr ⟨fun z => z.2.2 h28, rfl, rfl⟩
                        | exact Or.inr ⟨fun z => by have := z.2.1; omega, rfl, rfl⟩)
        · first | (replace h28 := bz_ne0.mp h28) | (replace h28 := bz_eq0.mp h28) | skip
          refine V_iconst F dM_order_31 (by decide) ?_
          exact hR _ _ _ _ dM_order_32 (by first | exact Or.inl rfl | exact Or.inr rfl | exact bz_01 _ | assumption) (by
                        first
                        | exact Or.inl ⟨⟨h5, by omega, h28⟩, rfl, rfl⟩
                        | exact Or.inr ⟨fun z => h5 z.1, rfl, rfl⟩
                        | exact Or.inr ⟨fun z => z.2.2 h28, rfl, rfl⟩
                        | exact Or.inr ⟨fun z => by have := z.2.1; omega, rfl, rfl⟩)
theorem ctM_toGo {G : vG} {l : Launch} {w : RW} {x y p e s : Int} (hm : mOK w) (hk : kOK w) : CTi G l yM_toGo cM_toGo 8 .int 5 [.inr 77, .inl x, .inl y, .inl p, .inl e, .inl s] w (fun r u => (¬ ((lpc w x y p ∧ hsE p e) ∧ 0 ≤ s ∧ s < w 77 4) ∧ r = -1 ∧ w = u) ∨ (((lpc w x y p ∧ hsE p e) ∧ 0 ≤ s ∧ s < w 77 4) ∧ msP w u s ∧ frOK u s ∧ r = if u 84 (576 * s + twd w x y p e) < 1000000000 then u 84 (576 * s + twd w x y p e) else -1)) := by
  refine CTi.int (by decide) (Nat.le_of_ble_eq_true rfl) ?_
  intro X Q F hX hR
  subst hX
  show V G X 8 Q 0 [some (.inr 77), some (.inl x), some (.inl y), some (.inl p), some (.inl e), some (.inl s), none, none] [] w
  have k1 := hm.1
  have k3 := hm.2.2.1
  have hT := twd_rng (x := x) (y := y) (p := p) (e := e) hm
  refine V_aload_n (i := 0) F dM_toGo_0 rfl rfl ?_
  refine V_iload_n (i := 1) F dM_toGo_1 rfl rfl ?_
  refine V_iload_n (i := 2) F dM_toGo_2 rfl rfl ?_
  refine V_iload_n (i := 3) F dM_toGo_3 rfl rfl ?_
  refine V_iload F dM_toGo_4 rfl ?_
  refine V_callVi F dM_toGo_6 lmM_203 miM_toward mvM_toward (ctM_toward hm) (by decide) (by first | rfl | assumption) rfl rfl (Nat.le_of_ble_eq_true rfl) (fun r u hr => ?_)
  obtain ⟨rfl, rfl⟩ := hr
  refine V_istore F dM_toGo_9 (by decide) (by simp only [List.set_cons_zero, List.set_cons_succ]; exact rfl) ?_
  refine V_iload F dM_toGo_11 rfl ?_
  refine V_if_lt F 30 dM_toGo_13 (by decide) (fun h13 => ?_) (fun h13 => ?_)
  · refine V_iconst F dM_toGo_30 (by decide) ?_
    exact hR _ _ _ _ dM_toGo_31 (by
                  first
                  | exact Or.inr ⟨⟨⟨hT2.2.1, hT2.2.2.1⟩, by omega, by omega⟩, hms, hmo.2.2, (if_pos (by omega)).symm⟩
                  | exact Or.inr ⟨⟨⟨hT2.2.1, hT2.2.2.1⟩, by omega, by omega⟩, hms, hmo.2.2, (if_neg (by omega)).symm⟩
                  | exact Or.inl ⟨fun z => (hT.elim (fun h => h.2) (fun h => by omega)) z.1, rfl, rfl⟩)
  · refine V_iload F dM_toGo_16 rfl ?_
    refine V_if_lt F 30 dM_toGo_18 (by decide) (fun h18 => ?_) (fun h18 => ?_)
    · refine V_iconst F dM_toGo_30 (by decide) ?_
      exact hR _ _ _ _ dM_toGo_31 (by
                    first
                    | exact Or.inr ⟨⟨⟨hT2.2.1, hT2.2.2.1⟩, by omega, by omega⟩, hms, hmo.2.2, (if_pos (by omega)).symm⟩
                    | exact Or.inr ⟨⟨⟨hT2.2.1, hT2.2.2.1⟩, by omega, by omega⟩, hms, hmo.2.2, (if_neg (by omega)).symm⟩
                    | exact Or.inl ⟨fun z => (hT.elim (fun h => h.2) (fun h => by omega)) z.1, rfl, rfl⟩)
    · refine V_iload F dM_toGo_21 rfl ?_
      refine V_aload_n (i := 0) F dM_toGo_23 rfl rfl ?_
      refine V_geti (ci := 7) (C := R_M) (T := T_M) (N := 32) F dM_toGo_24 (by first | rfl | assumption) rfl (j := 4) 4 rfl (by decide) rfl lfM_185 ?_
      refine V_icmp_lt F 32 dM_toGo_27 (by decide) (fun h27 => ?_) (fun h27 => ?_)
      · refine V_aload_n (i := 0) F dM_toGo_32 rfl rfl ?_
        refine V_iload F dM_toGo_33 rfl ?_
        refine V_callVv F dM_toGo_35 lmM_150 miM_measure mvM_measure (ctM_measure (by omega) hm (hk s (by omega) (by omega)).1) (by decide) (by first | rfl | assumption) rfl rfl (Nat.le_of_ble_eq_true rfl) (fun v hms => ?_)
        have hmo := msP_ok hm ⟨by omega, by omega⟩ hk hms
        have hT2 : (0 ≤ twd w x y p e ∧ twd w x y p e < 576) ∧ lpc w x y p ∧ hsE p e ∧ twd w x y p e / 2 = 6 * (8 * y + x) + p := hT.resolve_left (fun h => by have := h.1; omega)
        have hfr := hmo.2.2.1 (twd w x y p e) hT2.1.1 hT2.1.2
        refine V_aload_n (i := 0) F dM_toGo_38 rfl rfl ?_
        refine V_getr (ci := 7) (C := R_M) (T := T_M) (N := 32) F dM_toGo_39 (by first | rfl | assumption) rfl (j := 9) (by decide) rfl lfM_29 ?_
        refine V_sipush F dM_toGo_42 (by decide) ?_
        refine V_iload F dM_toGo_45 rfl ?_
        refine V_imul F dM_toGo_47 (by omega) ?_
        refine V_iload F dM_toGo_48 rfl ?_
        refine V_iadd F dM_toGo_50 (by omega) ?_
        first
          | refine V_sald F dM_toGo_51 (by decide) (by omega) (stt_in _ _) ?_
          | refine V_iald F dM_toGo_51 (by first | rfl | assumption) rfl (by omega) ?_
        refine V_istore F dM_toGo_52 (by decide) (by simp only [List.set_cons_zero, List.set_cons_succ]; exact rfl) ?_
        refine V_iload F dM_toGo_54 rfl ?_
        refine V_ldc F dM_toGo_56 lcM_119 ⟨by decide, by decide⟩ ?_
        refine V_icmp_ge F 66 dM_toGo_58 (by decide) (fun h58 => ?_) (fun h58 => ?_)
        · refine V_iconst F dM_toGo_66 (by decide) ?_
          exact hR _ _ _ _ dM_toGo_67 (by
                        first
                        | exact Or.inr ⟨⟨⟨hT2.2.1, hT2.2.2.1⟩, by omega, by omega⟩, hms, hmo.2.2, (if_pos (by omega)).symm⟩
                        | exact Or.inr ⟨⟨⟨hT2.2.1, hT2.2.2.1⟩, by omega, by omega⟩, hms, hmo.2.2, (if_neg (by omega)).symm⟩
                        | exact Or.inl ⟨fun z => (hT.elim (fun h => h.2) (fun h => by omega)) z.1, rfl, rfl⟩)
        · refine V_iload F dM_toGo_61 rfl ?_
          refine V_goto F 67 dM_toGo_63 (by decide) ?_
          exact hR _ _ _ _ dM_toGo_67 (by
                        first
                        | exact Or.inr ⟨⟨⟨hT2.2.1, hT2.2.2.1⟩, by omega, by omega⟩, hms, hmo.2.2, (if_pos (by omega)).symm⟩
                        | exact Or.inr ⟨⟨⟨hT2.2.1, hT2.2.2.1⟩, by omega, by omega⟩, hms, hmo.2.2, (if_neg (by omega)).symm⟩
                        | exact Or.inl ⟨fun z => (hT.elim (fun h => h.2) (fun h => by omega)) z.1, rfl, rfl⟩)
      · refine V_iconst F dM_toGo_30 (by decide) ?_
        exact hR _ _ _ _ dM_toGo_31 (by
                      first
                      | exact Or.inr ⟨⟨⟨hT2.2.1, hT2.2.2.1⟩, by omega, by omega⟩, hms, hmo.2.2, (if_pos (by omega)).symm⟩
                      | exact Or.inr ⟨⟨⟨hT2.2.1, hT2.2.2.1⟩, by omega, by omega⟩, hms, hmo.2.2, (if_neg (by omega)).symm⟩
                      | exact Or.inl ⟨fun z => (hT.elim (fun h => h.2) (fun h => by omega)) z.1, rfl, rfl⟩)
def rvC (w : RW) (t : Int) : Prop := (0 ≤ t ∧ t < w 77 10) ∧ w 88 t = 0 ∧ w 89 t ≤ 0 ∧ w 86 t - w 87 t ≤ 0 ∧ ∀ k, 0 ≤ k → k < w 86 t → w 79 (w 85 (300 * t + k) / 2) = 0
def fl1 (q : Int) : Int := q + 1 - 2 * (q % 2)
theorem ixor_1 : ∀ n, n < 576 → ixor ((n : Nat) : Int) 1 = fl1 (n : Int) := by decide +kernel
def rvM (w u : RW) (t : Int) : Prop := (∀ j, j ≠ 85 → j ≠ 91 → j ≠ 95 → u j = w j) ∧ u 91 = upw w 91 t 0 91 ∧ ∀ i, u 85 i = if 300 * t ≤ i ∧ i < 300 * t + w 86 t then fl1 (w 85 (300 * t + (w 86 t - 1 - (i - 300 * t)))) else w 85 i
def rv1 (w u : RW) (t k : Int) : Prop := (∀ j, j ≠ 95 → u j = w j) ∧ ∀ i, 0 ≤ i → i < k → u 95 i = fl1 (w 85 (300 * t + i))
def rv2 (w u : RW) (t k : Int) : Prop := (∀ j, j ≠ 85 → j ≠ 95 → u j = w j) ∧ (∀ i, 0 ≤ i → i < w 86 t → u 95 i = fl1 (w 85 (300 * t + i))) ∧ ∀ i, u 85 i = if 300 * t ≤ i ∧ i < 300 * t + k then fl1 (w 85 (300 * t + (w 86 t - 1 - (i - 300 * t)))) else w 85 i
theorem lpM_rev3 {G : vG} {X : vX} {Q : State → Prop} {w : RW} {t : Int} (ht : 0 ≤ t ∧ t < w 77 10) (hm : mOK w) (hc : rvC w t) (F : FX G X cM_reverse yM_reverse.cls 3 1) (hR : RetZ G X cM_reverse 3 Q (fun r u => (rvC w t ∧ r = 1 ∧ rvM w u t) ∨ (¬ rvC w t ∧ r = 0 ∧ w = u))) : ∀ (m : Nat) (k : Int) (u : RW), w 86 t - k < m → (0 ≤ k) → (k ≤ w 86 t) → (rv2 w u t k) → V G X 3 Q 118 [some (.inr 77), some (.inl t), some (.inl k)] [] u := by
  have k3 := hm.2.2.1
  have k5 := hm.2.2.2.2.1 t ht.1 (by omega)
  intro m
  induction m with
  | zero => intro k u hm0 h1 h2 hI; omega
  | succ m ih =>
    intro k u hm0 h1 h2 hI
    have e86 := hI.1 86 (by decide) (by decide)
    have e86t : u 86 t = w 86 t := by rw [e86]
    refine V_iload_n (i := 2) F dM_reverse_118 rfl rfl ?_
    refine V_aload_n (i := 0) F dM_reverse_119 rfl rfl ?_
    refine V_getr (ci := 7) (C := R_M) (T := T_M) (N := 32) F dM_reverse_120 (by first | rfl | assumption) rfl (j := 12) (by decide) rfl lfM_35 ?_
    refine V_iload_n (i := 1) F dM_reverse_123 rfl rfl ?_
    first
      | refine V_sald F dM_reverse_124 (by decide) (by omega) (stt_in _ _) ?_
      | refine V_iald F dM_reverse_124 (by first | rfl | assumption) rfl (by omega) ?_
    refine V_icmp_ge F 161 dM_reverse_125 (by decide) (fun h125 => ?_) (fun h125 => ?_)
    · refine V_aload_n (i := 0) F dM_reverse_161 rfl rfl ?_
      refine V_getr (ci := 7) (C := R_M) (T := T_M) (N := 32) F dM_reverse_162 (by first | rfl | assumption) rfl (j := 17) (by decide) rfl lfM_50 ?_
      refine V_iload_n (i := 1) F dM_reverse_165 rfl rfl ?_
      refine V_iconst F dM_reverse_166 (by decide) ?_
      refine V_zast F dM_reverse_167 (by first | rfl | assumption) rfl (by omega) (by first | exact Or.inl rfl | exact Or.inr rfl | exact bz_01 _ | assumption) ?_
      refine V_iconst F dM_reverse_168 (by decide) ?_
      exact hR _ _ _ _ dM_reverse_169 (by first | exact Or.inl rfl | exact Or.inr rfl | exact bz_01 _ | assumption) (by
                    refine Or.inl ⟨hc, rfl, fun j j1 j2 j3 => by rw [upw_f j2]; exact hI.1 j j1 j3, by funext i; unfold upw; rw [hI.1 91 (by decide) (by decide)], fun i => ?_⟩
                    rw [upw_f (by decide), hI.2.2 i, show k = w 86 t by omega])
    · refine V_aload_n (i := 0) F dM_reverse_128 rfl rfl ?_
      refine V_getr (ci := 7) (C := R_M) (T := T_M) (N := 32) F dM_reverse_129 (by first | rfl | assumption) rfl (j := 11) (by decide) rfl lfM_32 ?_
      refine V_sipush F dM_reverse_132 (by decide) ?_
      refine V_iload_n (i := 1) F dM_reverse_135 rfl rfl ?_
      refine V_imul F dM_reverse_136 (by omega) ?_
      refine V_iload_n (i := 2) F dM_reverse_137 rfl rfl ?_
      refine V_iadd F dM_reverse_138 (by omega) ?_
      refine V_aload_n (i := 0) F dM_reverse_139 rfl rfl ?_
      refine V_getr (ci := 7) (C := R_M) (T := T_M) (N := 32) F dM_reverse_140 (by first | rfl | assumption) rfl (j := 22) (by decide) rfl lfM_62 ?_
      refine V_aload_n (i := 0) F dM_reverse_143 rfl rfl ?_
      refine V_getr (ci := 7) (C := R_M) (T := T_M) (N := 32) F dM_reverse_144 (by first | rfl | assumption) rfl (j := 12) (by decide) rfl lfM_35 ?_
      refine V_iload_n (i := 1) F dM_reverse_147 rfl rfl ?_
      first
        | refine V_sald F dM_reverse_148 (by decide) (by omega) (stt_in _ _) ?_
        | refine V_iald F dM_reverse_148 (by first | rfl | assumption) rfl (by omega) ?_
      refine V_iconst F dM_reverse_149 (by decide) ?_
      refine V_isub F dM_reverse_150 (by omega) ?_
      refine V_iload_n (i := 2) F dM_reverse_151 rfl rfl ?_
      refine V_isub F dM_reverse_152 (by omega) ?_
      first
        | refine V_sald F dM_reverse_153 (by decide) (by omega) (stt_in _ _) ?_
        | refine V_iald F dM_reverse_153 (by first | rfl | assumption) rfl (by omega) ?_
      refine V_iast F dM_reverse_154 (by first | rfl | assumption) rfl (by omega) ?_
      refine V_iinc F dM_reverse_155 (by decide) rfl (by omega) (by simp only [List.set_cons_zero, List.set_cons_succ]; exact rfl) ?_
      refine V_goto F 118 dM_reverse_158 (by decide) ?_
      refine ih (k + 1) _ (by omega) (by omega) (by omega) ⟨fun j j1 j2 => by rw [upw_f j1]; exact hI.1 j j1 j2, fun i i1 i2 => by rw [upw_f (by decide)]; exact hI.2.1 i i1 i2, fun i => ?_⟩
      by_cases e : i = 300 * t + k
      · rw [e, upw_s, if_pos (by omega), e86t, hI.2.1 _ (by omega) (by omega), show 300 * t + k - 300 * t = k by omega]
      · rw [upw_i e, hI.2.2 i]
        by_cases e2 : 300 * t ≤ i ∧ i < 300 * t + k
        · rw [if_pos e2, if_pos (by omega)]
        · rw [if_neg e2, if_neg (by omega)]
theorem lpM_rev2 {G : vG} {X : vX} {Q : State → Prop} {w : RW} {t : Int} (ht : 0 ≤ t ∧ t < w 77 10) (hm : mOK w) (hc : rvC w t) (F : FX G X cM_reverse yM_reverse.cls 3 1) (hR : RetZ G X cM_reverse 3 Q (fun r u => (rvC w t ∧ r = 1 ∧ rvM w u t) ∨ (¬ rvC w t ∧ r = 0 ∧ w = u))) : ∀ (m : Nat) (k : Int) (u : RW), w 86 t - k < m → (0 ≤ k) → (k ≤ w 86 t) → (rv1 w u t k) → V G X 3 Q 80 [some (.inr 77), some (.inl t), some (.inl k)] [] u := by
  have k3 := hm.2.2.1
  have k5 := hm.2.2.2.2.1 t ht.1 (by omega)
  intro m
  induction m with
  | zero => intro k u hm0 h1 h2 hI; omega
  | succ m ih =>
    intro k u hm0 h1 h2 hI
    have e86 := hI.1 86 (by decide)
    have e86t : u 86 t = w 86 t := by rw [e86]
    have e85 := hI.1 85 (by decide)
    refine V_iload_n (i := 2) F dM_reverse_80 rfl rfl ?_
    refine V_aload_n (i := 0) F dM_reverse_81 rfl rfl ?_
    refine V_getr (ci := 7) (C := R_M) (T := T_M) (N := 32) F dM_reverse_82 (by first | rfl | assumption) rfl (j := 12) (by decide) rfl lfM_35 ?_
    refine V_iload_n (i := 1) F dM_reverse_85 rfl rfl ?_
    first
      | refine V_sald F dM_reverse_86 (by decide) (by omega) (stt_in _ _) ?_
      | refine V_iald F dM_reverse_86 (by first | rfl | assumption) rfl (by omega) ?_
    refine V_icmp_ge F 116 dM_reverse_87 (by decide) (fun h87 => ?_) (fun h87 => ?_)
    · refine V_iconst F dM_reverse_116 (by decide) ?_
      refine V_istore_n (i := 2) F dM_reverse_117 rfl (by decide) (by simp only [List.set_cons_zero, List.set_cons_succ]; exact rfl) ?_
      exact lpM_rev3 ht hm hc F hR 301 0 _ (by omega) (by omega) (by omega) ⟨fun j j1 j2 => hI.1 j j2, fun i i1 i2 => hI.2 i i1 (by omega), fun i => by rw [if_neg (by omega), e85]⟩
    · refine V_aload_n (i := 0) F dM_reverse_90 rfl rfl ?_
      refine V_getr (ci := 7) (C := R_M) (T := T_M) (N := 32) F dM_reverse_91 (by first | rfl | assumption) rfl (j := 22) (by decide) rfl lfM_62 ?_
      refine V_iload_n (i := 2) F dM_reverse_94 rfl rfl ?_
      refine V_aload_n (i := 0) F dM_reverse_95 rfl rfl ?_
      refine V_getr (ci := 7) (C := R_M) (T := T_M) (N := 32) F dM_reverse_96 (by first | rfl | assumption) rfl (j := 11) (by decide) rfl lfM_32 ?_
      refine V_sipush F dM_reverse_99 (by decide) ?_
      refine V_iload_n (i := 1) F dM_reverse_102 rfl rfl ?_
      refine V_imul F dM_reverse_103 (by omega) ?_
      refine V_iload_n (i := 2) F dM_reverse_104 rfl rfl ?_
      refine V_iadd F dM_reverse_105 (by omega) ?_
      first
        | refine V_sald F dM_reverse_106 (by decide) (by omega) (stt_in _ _) ?_
        | refine V_iald F dM_reverse_106 (by first | rfl | assumption) rfl (by omega) ?_
      rw [e85]
      have k6 := hm.2.2.2.2.2.1 (300 * t + k) (by omega) (by omega)
      refine V_iconst F dM_reverse_107 (by decide) ?_
      refine V_ixor F _ dM_reverse_108 (show ixor (w 85 (300 * t + k)) 1 = fl1 (w 85 (300 * t + k)) from by have := ixor_1 (w 85 (300 * t + k)).toNat (by omega); rw [show (((w 85 (300 * t + k)).toNat : Nat) : Int) = w 85 (300 * t + k) by omega] at this; exact this) ?_
      refine V_iast F dM_reverse_109 (by first | rfl | assumption) rfl (by omega) ?_
      refine V_iinc F dM_reverse_110 (by decide) rfl (by omega) (by simp only [List.set_cons_zero, List.set_cons_succ]; exact rfl) ?_
      refine V_goto F 80 dM_reverse_113 (by decide) ?_
      refine ih (k + 1) _ (by omega) (by omega) (by omega) ⟨fun j j1 => by rw [upw_f j1]; exact hI.1 j j1, fun i i1 i2 => ?_⟩
      by_cases e : i = k
      · rw [e, upw_s]
      · rw [upw_i e]; exact hI.2 i i1 (by omega)
theorem lpM_rev1 {G : vG} {X : vX} {Q : State → Prop} {w : RW} {t : Int} (ht : 0 ≤ t ∧ t < w 77 10) (hm : mOK w) (hc : w 88 t = 0 ∧ w 89 t ≤ 0 ∧ w 86 t - w 87 t ≤ 0) (F : FX G X cM_reverse yM_reverse.cls 3 1) (hR : RetZ G X cM_reverse 3 Q (fun r u => (rvC w t ∧ r = 1 ∧ rvM w u t) ∨ (¬ rvC w t ∧ r = 0 ∧ w = u))) : ∀ (m : Nat) (k : Int), w 86 t - k < m → (0 ≤ k) → (k ≤ w 86 t) → (∀ j, 0 ≤ j → j < k → w 79 (w 85 (300 * t + j) / 2) = 0) → V G X 3 Q 38 [some (.inr 77), some (.inl t), some (.inl k)] [] w := by
  have k3 := hm.2.2.1
  have k5 := hm.2.2.2.2.1 t ht.1 (by omega)
  intro m
  induction m with
  | zero => intro k hm0 h1 h2 hI; omega
  | succ m ih =>
    intro k hm0 h1 h2 hI
    refine V_iload_n (i := 2) F dM_reverse_38 rfl rfl ?_
    refine V_aload_n (i := 0) F dM_reverse_39 rfl rfl ?_
    refine V_getr (ci := 7) (C := R_M) (T := T_M) (N := 32) F dM_reverse_40 (by first | rfl | assumption) rfl (j := 12) (by decide) rfl lfM_35 ?_
    refine V_iload_n (i := 1) F dM_reverse_43 rfl rfl ?_
    first
      | refine V_sald F dM_reverse_44 (by decide) (by omega) (stt_in _ _) ?_
      | refine V_iald F dM_reverse_44 (by first | rfl | assumption) rfl (by omega) ?_
    refine V_icmp_ge F 78 dM_reverse_45 (by decide) (fun h45 => ?_) (fun h45 => ?_)
    · refine V_iconst F dM_reverse_78 (by decide) ?_
      refine V_istore_n (i := 2) F dM_reverse_79 rfl (by decide) (by simp only [List.set_cons_zero, List.set_cons_succ]; exact rfl) ?_
      exact lpM_rev2 ht hm ⟨ht, hc.1, hc.2.1, hc.2.2, fun j j1 j2 => hI j j1 (by omega)⟩ F hR 301 0 w (by omega) (by omega) (by omega) ⟨fun _ _ => rfl, fun i i1 i2 => by omega⟩
    · have k6 := hm.2.2.2.2.2.1 (300 * t + k) (by omega) (by omega)
      refine V_aload_n (i := 0) F dM_reverse_48 rfl rfl ?_
      refine V_getr (ci := 7) (C := R_M) (T := T_M) (N := 32) F dM_reverse_49 (by first | rfl | assumption) rfl (j := 3) (by decide) rfl lfM_13 ?_
      refine V_aload_n (i := 0) F dM_reverse_52 rfl rfl ?_
      refine V_getr (ci := 7) (C := R_M) (T := T_M) (N := 32) F dM_reverse_53 (by first | rfl | assumption) rfl (j := 11) (by decide) rfl lfM_32 ?_
      refine V_sipush F dM_reverse_56 (by decide) ?_
      refine V_iload_n (i := 1) F dM_reverse_59 rfl rfl ?_
      refine V_imul F dM_reverse_60 (by omega) ?_
      refine V_iload_n (i := 2) F dM_reverse_61 rfl rfl ?_
      refine V_iadd F dM_reverse_62 (by omega) ?_
      first
        | refine V_sald F dM_reverse_63 (by decide) (by omega) (stt_in _ _) ?_
        | refine V_iald F dM_reverse_63 (by first | rfl | assumption) rfl (by omega) ?_
      refine V_iconst F dM_reverse_64 (by decide) ?_
      refine V_idiv F dM_reverse_65 (by omega) ?_
      first
        | refine V_sald F dM_reverse_66 (by decide) (by omega) (stt_in _ _) ?_
        | refine V_iald F dM_reverse_66 (by first | rfl | assumption) rfl (by omega) ?_
      refine V_if_eq F 72 dM_reverse_67 (by decide) (fun h67 => ?_) (fun h67 => ?_)
      · refine V_iinc F dM_reverse_72 (by decide) rfl (by omega) (by simp only [List.set_cons_zero, List.set_cons_succ]; exact rfl) ?_
        refine V_goto F 38 dM_reverse_75 (by decide) ?_
        refine ih (k + 1) (by omega) (by omega) (by omega) (fun j j1 j2 => ?_)
        by_cases e : j = k
        · rw [e]; exact h67
        · exact hI j j1 (by omega)
      · refine V_iconst F dM_reverse_70 (by decide) ?_
        exact hR _ _ _ _ dM_reverse_71 (by first | exact Or.inl rfl | exact Or.inr rfl | exact bz_01 _ | assumption) (Or.inr ⟨fun z => h67 (z.2.2.2.2 k h1 (by omega)), rfl, rfl⟩)
theorem ctM_reverse {G : vG} {l : Launch} {w : RW} {t : Int} (hm : mOK w) : CTi G l yM_reverse cM_reverse 3 .boolean 1 [.inr 77, .inl t] w (fun r u => (rvC w t ∧ r = 1 ∧ rvM w u t) ∨ (¬ rvC w t ∧ r = 0 ∧ w = u)) := by
  refine CTi.bool (by decide) (Nat.le_of_ble_eq_true rfl) ?_
  intro X Q F hX hR
  subst hX
  show V G X 3 Q 0 [some (.inr 77), some (.inl t), none] [] w
  have k3 := hm.2.2.1
  refine V_aload_n (i := 0) F dM_reverse_0 rfl rfl ?_
  refine V_iload_n (i := 1) F dM_reverse_1 rfl rfl ?_
  refine V_callVi F dM_reverse_2 lmM_210 miM_isTrain mvM_isTrain (ctM_isTrain) (by decide) (by first | rfl | assumption) rfl rfl (Nat.le_of_ble_eq_true rfl) (fun r u hr => ?_)
  obtain ⟨rfl, rfl⟩ := hr
  refine V_if_eq F 34 dM_reverse_5 (by decide) (fun h5 => ?_) (fun h5 => ?_)
  · first | (replace h5 := bz_ne0.mp h5) | (replace h5 := bz_eq0.mp h5) | skip
    refine V_iconst F dM_reverse_34 (by decide) ?_
    exact hR _ _ _ _ dM_reverse_35 (by first | exact Or.inl rfl | exact Or.inr rfl | exact bz_01 _ | assumption) (by
                  first
                  | exact Or.inr ⟨fun z => h5 z.1, rfl, rfl⟩
                  | exact Or.inr ⟨fun z => by have a := z.2.1; have b := z.2.2.1; have c := z.2.2.2.1; omega, rfl, rfl⟩)
  · first | (replace h5 := bz_ne0.mp h5) | (replace h5 := bz_eq0.mp h5) | skip
    have k5 := hm.2.2.2.2.1 t h5.1 (by omega)
    refine V_aload_n (i := 0) F dM_reverse_8 rfl rfl ?_
    refine V_getr (ci := 7) (C := R_M) (T := T_M) (N := 32) F dM_reverse_9 (by first | rfl | assumption) rfl (j := 14) (by decide) rfl lfM_41 ?_
    refine V_iload_n (i := 1) F dM_reverse_12 rfl rfl ?_
    first
      | refine V_sald F dM_reverse_13 (by decide) (by omega) (stt_in _ _) ?_
      | refine V_iald F dM_reverse_13 (by first | rfl | assumption) rfl (by omega) ?_
    refine V_if_ne F 34 dM_reverse_14 (by decide) (fun h14 => ?_) (fun h14 => ?_)
    · first | (replace h14 := bz_ne0.mp h14) | (replace h14 := bz_eq0.mp h14) | skip
      refine V_iconst F dM_reverse_34 (by decide) ?_
      exact hR _ _ _ _ dM_reverse_35 (by first | exact Or.inl rfl | exact Or.inr rfl | exact bz_01 _ | assumption) (by
                    first
                    | exact Or.inr ⟨fun z => h5 z.1, rfl, rfl⟩
                    | exact Or.inr ⟨fun z => by have a := z.2.1; have b := z.2.2.1; have c := z.2.2.2.1; omega, rfl, rfl⟩)
    · first | (replace h14 := bz_ne0.mp h14) | (replace h14 := bz_eq0.mp h14) | skip
      refine V_aload_n (i := 0) F dM_reverse_17 rfl rfl ?_
      refine V_getr (ci := 7) (C := R_M) (T := T_M) (N := 32) F dM_reverse_18 (by first | rfl | assumption) rfl (j := 15) (by decide) rfl lfM_44 ?_
      refine V_iload_n (i := 1) F dM_reverse_21 rfl rfl ?_
      first
        | refine V_sald F dM_reverse_22 (by decide) (by omega) (stt_in _ _) ?_
        | refine V_iald F dM_reverse_22 (by first | rfl | assumption) rfl (by omega) ?_
      refine V_if_gt F 34 dM_reverse_23 (by decide) (fun h23 => ?_) (fun h23 => ?_)
      · first | (replace h23 := bz_ne0.mp h23) | (replace h23 := bz_eq0.mp h23) | skip
        refine V_iconst F dM_reverse_34 (by decide) ?_
        exact hR _ _ _ _ dM_reverse_35 (by first | exact Or.inl rfl | exact Or.inr rfl | exact bz_01 _ | assumption) (by
                      first
                      | exact Or.inr ⟨fun z => h5 z.1, rfl, rfl⟩
                      | exact Or.inr ⟨fun z => by have a := z.2.1; have b := z.2.2.1; have c := z.2.2.2.1; omega, rfl, rfl⟩)
      · first | (replace h23 := bz_ne0.mp h23) | (replace h23 := bz_eq0.mp h23) | skip
        refine V_aload_n (i := 0) F dM_reverse_26 rfl rfl ?_
        refine V_iload_n (i := 1) F dM_reverse_27 rfl rfl ?_
        refine V_callVi F dM_reverse_28 lmM_135 miM_ahead mvM_ahead (ctM_ahead (by omega) hm) (by decide) (by first | rfl | assumption) rfl rfl (Nat.le_of_ble_eq_true rfl) (fun r u hr => ?_)
        obtain ⟨rfl, rfl⟩ := hr
        refine V_if_le F 36 dM_reverse_31 (by decide) (fun h31 => ?_) (fun h31 => ?_)
        · first | (replace h31 := bz_ne0.mp h31) | (replace h31 := bz_eq0.mp h31) | skip
          refine V_iconst F dM_reverse_36 (by decide) ?_
          refine V_istore_n (i := 2) F dM_reverse_37 rfl (by decide) (by simp only [List.set_cons_zero, List.set_cons_succ]; exact rfl) ?_
          exact lpM_rev1 h5 hm ⟨by omega, by omega, by omega⟩ F hR 301 0 (by omega) (by omega) (by omega) (fun j j1 j2 => by omega)
        · first | (replace h31 := bz_ne0.mp h31) | (replace h31 := bz_eq0.mp h31) | skip
          refine V_iconst F dM_reverse_34 (by decide) ?_
          exact hR _ _ _ _ dM_reverse_35 (by first | exact Or.inl rfl | exact Or.inr rfl | exact bz_01 _ | assumption) (by
                        first
                        | exact Or.inr ⟨fun z => h5 z.1, rfl, rfl⟩
                        | exact Or.inr ⟨fun z => by have a := z.2.1; have b := z.2.2.1; have c := z.2.2.2.1; omega, rfl, rfl⟩)

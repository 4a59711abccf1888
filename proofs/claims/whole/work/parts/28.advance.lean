theorem dX_train_0 : decode cX_train 0 = .ok (.aload_n 0, 1) := by decide +kernel
theorem dX_train_1 : decode cX_train 1 = .ok (.getfield 41, 3) := by decide +kernel
theorem dX_train_4 : decode cX_train 4 = .ok (.getfield 48, 3) := by decide +kernel
theorem dX_train_7 : decode cX_train 7 = .ok (.iload_n 1, 1) := by decide +kernel
theorem dX_train_8 : decode cX_train 8 = .ok (.iload_n 2, 1) := by decide +kernel
theorem dX_train_9 : decode cX_train 9 = .ok (.iload_n 3, 1) := by decide +kernel
theorem dX_train_10 : decode cX_train 10 = .ok (.invokevirtual 86, 3) := by decide +kernel
theorem dX_train_13 : decode cX_train 13 = .ok (.ifCond .eq 12, 3) := by decide +kernel
theorem dX_train_16 : decode cX_train 16 = .ok (.iload_n 3, 1) := by decide +kernel
theorem dX_train_17 : decode cX_train 17 = .ok (.iload 4, 2) := by decide +kernel
theorem dX_train_19 : decode cX_train 19 = .ok (.invokestatic 90, 3) := by decide +kernel
theorem dX_train_22 : decode cX_train 22 = .ok (.ifCond .ne 5, 3) := by decide +kernel
theorem dX_train_25 : decode cX_train 25 = .ok (.iconst (-1), 1) := by decide +kernel
theorem dX_train_26 : decode cX_train 26 = .ok (.ireturn, 1) := by decide +kernel
theorem dX_train_27 : decode cX_train 27 = .ok (.iload 5, 2) := by decide +kernel
theorem dX_train_29 : decode cX_train 29 = .ok (.iconst 1, 1) := by decide +kernel
theorem dX_train_30 : decode cX_train 30 = .ok (.if_icmp .lt 9, 3) := by decide +kernel
theorem dX_train_33 : decode cX_train 33 = .ok (.iload 5, 2) := by decide +kernel
theorem dX_train_35 : decode cX_train 35 = .ok (.iconst 5, 1) := by decide +kernel
theorem dX_train_36 : decode cX_train 36 = .ok (.if_icmp .le 5, 3) := by decide +kernel
theorem dX_train_39 : decode cX_train 39 = .ok (.iconst (-1), 1) := by decide +kernel
theorem dX_train_40 : decode cX_train 40 = .ok (.ireturn, 1) := by decide +kernel
theorem dX_train_41 : decode cX_train 41 = .ok (.aload_n 0, 1) := by decide +kernel
theorem dX_train_42 : decode cX_train 42 = .ok (.getfield 41, 3) := by decide +kernel
theorem dX_train_45 : decode cX_train 45 = .ok (.getfield 115, 3) := by decide +kernel
theorem dX_train_48 : decode cX_train 48 = .ok (.istore 6, 2) := by decide +kernel
theorem dX_train_50 : decode cX_train 50 = .ok (.aload_n 0, 1) := by decide +kernel
theorem dX_train_51 : decode cX_train 51 = .ok (.getfield 19, 3) := by decide +kernel
theorem dX_train_54 : decode cX_train 54 = .ok (.aload_n 0, 1) := by decide +kernel
theorem dX_train_55 : decode cX_train 55 = .ok (.getfield 41, 3) := by decide +kernel
theorem dX_train_58 : decode cX_train 58 = .ok (.getfield 48, 3) := by decide +kernel
theorem dX_train_61 : decode cX_train 61 = .ok (.iload_n 1, 1) := by decide +kernel
theorem dX_train_62 : decode cX_train 62 = .ok (.iload_n 2, 1) := by decide +kernel
theorem dX_train_63 : decode cX_train 63 = .ok (.invokestatic 58, 3) := by decide +kernel
theorem dX_train_66 : decode cX_train 66 = .ok (.iload_n 3, 1) := by decide +kernel
theorem dX_train_67 : decode cX_train 67 = .ok (.invokestatic 63, 3) := by decide +kernel
theorem dX_train_70 : decode cX_train 70 = .ok (.iload 4, 2) := by decide +kernel
theorem dX_train_72 : decode cX_train 72 = .ok (.invokestatic 93, 3) := by decide +kernel
theorem dX_train_75 : decode cX_train 75 = .ok (.iload 5, 2) := by decide +kernel
theorem dX_train_77 : decode cX_train 77 = .ok (.invokevirtual 118, 3) := by decide +kernel
theorem dX_train_80 : decode cX_train 80 = .ok (.aload_n 0, 1) := by decide +kernel
theorem dX_train_81 : decode cX_train 81 = .ok (.getfield 19, 3) := by decide +kernel
theorem dX_train_84 : decode cX_train 84 = .ok (.getfield 122, 3) := by decide +kernel
theorem dX_train_87 : decode cX_train 87 = .ok (.iload 5, 2) := by decide +kernel
theorem dX_train_89 : decode cX_train 89 = .ok (.if_icmp .lt 22, 3) := by decide +kernel
theorem dX_train_92 : decode cX_train 92 = .ok (.aload_n 0, 1) := by decide +kernel
theorem dX_train_93 : decode cX_train 93 = .ok (.getfield 19, 3) := by decide +kernel
theorem dX_train_96 : decode cX_train 96 = .ok (.aload_n 0, 1) := by decide +kernel
theorem dX_train_97 : decode cX_train 97 = .ok (.getfield 41, 3) := by decide +kernel
theorem dX_train_100 : decode cX_train 100 = .ok (.getfield 48, 3) := by decide +kernel
theorem dX_train_103 : decode cX_train 103 = .ok (.iload 6, 2) := by decide +kernel
theorem dX_train_105 : decode cX_train 105 = .ok (.invokevirtual 125, 3) := by decide +kernel
theorem dX_train_108 : decode cX_train 108 = .ok (.ifCond .eq 5, 3) := by decide +kernel
theorem dX_train_111 : decode cX_train 111 = .ok (.iconst (-1), 1) := by decide +kernel
theorem dX_train_112 : decode cX_train 112 = .ok (.ireturn, 1) := by decide +kernel
theorem dX_train_113 : decode cX_train 113 = .ok (.iload 6, 2) := by decide +kernel
theorem dX_train_115 : decode cX_train 115 = .ok (.bipush 6, 2) := by decide +kernel
theorem dX_train_117 : decode cX_train 117 = .ok (.if_icmp .lt 6, 3) := by decide +kernel
theorem dX_train_120 : decode cX_train 120 = .ok (.bipush (-2), 2) := by decide +kernel
theorem dX_train_122 : decode cX_train 122 = .ok (.ireturn, 1) := by decide +kernel
theorem dX_train_123 : decode cX_train 123 = .ok (.aload_n 0, 1) := by decide +kernel
theorem dX_train_124 : decode cX_train 124 = .ok (.getfield 41, 3) := by decide +kernel
theorem dX_train_127 : decode cX_train 127 = .ok (.getfield 129, 3) := by decide +kernel
theorem dX_train_130 : decode cX_train 130 = .ok (.iload 6, 2) := by decide +kernel
theorem dX_train_132 : decode cX_train 132 = .ok (.aaload, 1) := by decide +kernel
theorem dX_train_133 : decode cX_train 133 = .ok (.aload_n 0, 1) := by decide +kernel
theorem dX_train_134 : decode cX_train 134 = .ok (.getfield 19, 3) := by decide +kernel
theorem dX_train_137 : decode cX_train 137 = .ok (.invokevirtual 133, 3) := by decide +kernel
theorem dX_train_140 : decode cX_train 140 = .ok (.aload_n 0, 1) := by decide +kernel
theorem dX_train_141 : decode cX_train 141 = .ok (.getfield 19, 3) := by decide +kernel
theorem dX_train_144 : decode cX_train 144 = .ok (.aload_n 0, 1) := by decide +kernel
theorem dX_train_145 : decode cX_train 145 = .ok (.getfield 41, 3) := by decide +kernel
theorem dX_train_148 : decode cX_train 148 = .ok (.getfield 48, 3) := by decide +kernel
theorem dX_train_151 : decode cX_train 151 = .ok (.iload 6, 2) := by decide +kernel
theorem dX_train_153 : decode cX_train 153 = .ok (.invokevirtual 139, 3) := by decide +kernel
theorem dX_train_156 : decode cX_train 156 = .ok (.aload_n 0, 1) := by decide +kernel
theorem dX_train_157 : decode cX_train 157 = .ok (.getfield 41, 3) := by decide +kernel
theorem dX_train_160 : decode cX_train 160 = .ok (.dup, 1) := by decide +kernel
theorem dX_train_161 : decode cX_train 161 = .ok (.getfield 115, 3) := by decide +kernel
theorem dX_train_164 : decode cX_train 164 = .ok (.iconst 1, 1) := by decide +kernel
theorem dX_train_165 : decode cX_train 165 = .ok (.iadd, 1) := by decide +kernel
theorem dX_train_166 : decode cX_train 166 = .ok (.putfield 115, 3) := by decide +kernel
theorem dX_train_169 : decode cX_train 169 = .ok (.iload 6, 2) := by decide +kernel
theorem dX_train_171 : decode cX_train 171 = .ok (.ireturn, 1) := by decide +kernel
theorem dX_reverse_0 : decode cX_reverse 0 = .ok (.aload_n 0, 1) := by decide +kernel
theorem dX_reverse_1 : decode cX_reverse 1 = .ok (.getfield 41, 3) := by decide +kernel
theorem dX_reverse_4 : decode cX_reverse 4 = .ok (.iload_n 1, 1) := by decide +kernel
theorem dX_reverse_5 : decode cX_reverse 5 = .ok (.invokevirtual 143, 3) := by decide +kernel
theorem dX_reverse_8 : decode cX_reverse 8 = .ok (.ifCond .ne 5, 3) := by decide +kernel
theorem dX_reverse_11 : decode cX_reverse 11 = .ok (.iconst 0, 1) := by decide +kernel
theorem dX_reverse_12 : decode cX_reverse 12 = .ok (.ireturn, 1) := by decide +kernel
theorem dX_reverse_13 : decode cX_reverse 13 = .ok (.aload_n 0, 1) := by decide +kernel
theorem dX_reverse_14 : decode cX_reverse 14 = .ok (.getfield 41, 3) := by decide +kernel
theorem dX_reverse_17 : decode cX_reverse 17 = .ok (.getfield 129, 3) := by decide +kernel
theorem dX_reverse_20 : decode cX_reverse 20 = .ok (.iload_n 1, 1) := by decide +kernel
theorem dX_reverse_21 : decode cX_reverse 21 = .ok (.aaload, 1) := by decide +kernel
theorem dX_reverse_22 : decode cX_reverse 22 = .ok (.astore_n 2, 1) := by decide +kernel
theorem dX_reverse_23 : decode cX_reverse 23 = .ok (.aload_n 2, 1) := by decide +kernel
theorem dX_reverse_24 : decode cX_reverse 24 = .ok (.getfield 155, 3) := by decide +kernel
theorem dX_reverse_27 : decode cX_reverse 27 = .ok (.ifCond .ne 17, 3) := by decide +kernel
theorem dX_reverse_30 : decode cX_reverse 30 = .ok (.aload_n 2, 1) := by decide +kernel
theorem dX_reverse_31 : decode cX_reverse 31 = .ok (.getfield 158, 3) := by decide +kernel
theorem dX_reverse_34 : decode cX_reverse 34 = .ok (.ifCond .gt 10, 3) := by decide +kernel
theorem dX_reverse_37 : decode cX_reverse 37 = .ok (.aload_n 2, 1) := by decide +kernel
theorem dX_reverse_38 : decode cX_reverse 38 = .ok (.invokevirtual 161, 3) := by decide +kernel
theorem dX_reverse_41 : decode cX_reverse 41 = .ok (.ifCond .le 5, 3) := by decide +kernel
theorem dX_reverse_44 : decode cX_reverse 44 = .ok (.iconst 0, 1) := by decide +kernel
theorem dX_reverse_45 : decode cX_reverse 45 = .ok (.ireturn, 1) := by decide +kernel
theorem dX_reverse_46 : decode cX_reverse 46 = .ok (.iconst 0, 1) := by decide +kernel
theorem dX_reverse_47 : decode cX_reverse 47 = .ok (.istore_n 3, 1) := by decide +kernel
theorem dX_reverse_48 : decode cX_reverse 48 = .ok (.iload_n 3, 1) := by decide +kernel
theorem dX_reverse_49 : decode cX_reverse 49 = .ok (.aload_n 2, 1) := by decide +kernel
theorem dX_reverse_50 : decode cX_reverse 50 = .ok (.getfield 165, 3) := by decide +kernel
theorem dX_reverse_53 : decode cX_reverse 53 = .ok (.if_icmp .ge 34, 3) := by decide +kernel
theorem dX_reverse_56 : decode cX_reverse 56 = .ok (.aload_n 0, 1) := by decide +kernel
theorem dX_reverse_57 : decode cX_reverse 57 = .ok (.getfield 41, 3) := by decide +kernel
theorem dX_reverse_60 : decode cX_reverse 60 = .ok (.getfield 48, 3) := by decide +kernel
theorem dX_reverse_63 : decode cX_reverse 63 = .ok (.getfield 80, 3) := by decide +kernel
theorem dX_reverse_66 : decode cX_reverse 66 = .ok (.aload_n 2, 1) := by decide +kernel
theorem dX_reverse_67 : decode cX_reverse 67 = .ok (.getfield 166, 3) := by decide +kernel
theorem dX_reverse_70 : decode cX_reverse 70 = .ok (.iload_n 3, 1) := by decide +kernel
theorem dX_reverse_71 : decode cX_reverse 71 = .ok (.iaload, 1) := by decide +kernel
theorem dX_reverse_72 : decode cX_reverse 72 = .ok (.invokestatic 169, 3) := by decide +kernel
theorem dX_reverse_75 : decode cX_reverse 75 = .ok (.iaload, 1) := by decide +kernel
theorem dX_reverse_76 : decode cX_reverse 76 = .ok (.ifCond .eq 5, 3) := by decide +kernel
theorem dX_reverse_79 : decode cX_reverse 79 = .ok (.iconst 0, 1) := by decide +kernel
theorem dX_reverse_80 : decode cX_reverse 80 = .ok (.ireturn, 1) := by decide +kernel
theorem dX_reverse_81 : decode cX_reverse 81 = .ok (.iinc 3 1, 3) := by decide +kernel
theorem dX_reverse_84 : decode cX_reverse 84 = .ok (.goto (-36), 3) := by decide +kernel
theorem dX_reverse_87 : decode cX_reverse 87 = .ok (.aload_n 2, 1) := by decide +kernel
theorem dX_reverse_88 : decode cX_reverse 88 = .ok (.invokevirtual 172, 3) := by decide +kernel
theorem dX_reverse_91 : decode cX_reverse 91 = .ok (.iconst 1, 1) := by decide +kernel
theorem dX_reverse_92 : decode cX_reverse 92 = .ok (.ireturn, 1) := by decide +kernel
theorem dX_goOnLoading_0 : decode cX_goOnLoading 0 = .ok (.aload_n 1, 1) := by decide +kernel
theorem dX_goOnLoading_1 : decode cX_goOnLoading 1 = .ok (.dup, 1) := by decide +kernel
theorem dX_goOnLoading_2 : decode cX_goOnLoading 2 = .ok (.getfield 158, 3) := by decide +kernel
theorem dX_goOnLoading_5 : decode cX_goOnLoading 5 = .ok (.iconst 1, 1) := by decide +kernel
theorem dX_goOnLoading_6 : decode cX_goOnLoading 6 = .ok (.isub, 1) := by decide +kernel
theorem dX_goOnLoading_7 : decode cX_goOnLoading 7 = .ok (.putfield 158, 3) := by decide +kernel
theorem dX_goOnLoading_10 : decode cX_goOnLoading 10 = .ok (.aload_n 1, 1) := by decide +kernel
theorem dX_goOnLoading_11 : decode cX_goOnLoading 11 = .ok (.getfield 158, 3) := by decide +kernel
theorem dX_goOnLoading_14 : decode cX_goOnLoading 14 = .ok (.ifCond .le 4, 3) := by decide +kernel
theorem dX_goOnLoading_17 : decode cX_goOnLoading 17 = .ok (.return_, 1) := by decide +kernel
theorem dX_goOnLoading_18 : decode cX_goOnLoading 18 = .ok (.aload_n 0, 1) := by decide +kernel
theorem dX_goOnLoading_19 : decode cX_goOnLoading 19 = .ok (.getfield 41, 3) := by decide +kernel
theorem dX_goOnLoading_22 : decode cX_goOnLoading 22 = .ok (.dup, 1) := by decide +kernel
theorem dX_goOnLoading_23 : decode cX_goOnLoading 23 = .ok (.getfield 213, 3) := by decide +kernel
theorem dX_goOnLoading_26 : decode cX_goOnLoading 26 = .ok (.aload_n 1, 1) := by decide +kernel
theorem dX_goOnLoading_27 : decode cX_goOnLoading 27 = .ok (.getfield 203, 3) := by decide +kernel
theorem dX_goOnLoading_30 : decode cX_goOnLoading 30 = .ok (.iadd, 1) := by decide +kernel
theorem dX_goOnLoading_31 : decode cX_goOnLoading 31 = .ok (.putfield 213, 3) := by decide +kernel
theorem dX_goOnLoading_34 : decode cX_goOnLoading 34 = .ok (.aload_n 1, 1) := by decide +kernel
theorem dX_goOnLoading_35 : decode cX_goOnLoading 35 = .ok (.aload_n 0, 1) := by decide +kernel
theorem dX_goOnLoading_36 : decode cX_goOnLoading 36 = .ok (.getfield 41, 3) := by decide +kernel
theorem dX_goOnLoading_39 : decode cX_goOnLoading 39 = .ok (.getfield 106, 3) := by decide +kernel
theorem dX_goOnLoading_42 : decode cX_goOnLoading 42 = .ok (.aload_n 1, 1) := by decide +kernel
theorem dX_goOnLoading_43 : decode cX_goOnLoading 43 = .ok (.invokevirtual 206, 3) := by decide +kernel
theorem dX_goOnLoading_46 : decode cX_goOnLoading 46 = .ok (.aaload, 1) := by decide +kernel
theorem dX_goOnLoading_47 : decode cX_goOnLoading 47 = .ok (.bipush 20, 2) := by decide +kernel
theorem dX_goOnLoading_49 : decode cX_goOnLoading 49 = .ok (.aload_n 1, 1) := by decide +kernel
theorem dX_goOnLoading_50 : decode cX_goOnLoading 50 = .ok (.getfield 246, 3) := by decide +kernel
theorem dX_goOnLoading_53 : decode cX_goOnLoading 53 = .ok (.imul, 1) := by decide +kernel
theorem dX_goOnLoading_54 : decode cX_goOnLoading 54 = .ok (.invokevirtual 249, 3) := by decide +kernel
theorem dX_goOnLoading_57 : decode cX_goOnLoading 57 = .ok (.putfield 203, 3) := by decide +kernel
theorem dX_goOnLoading_60 : decode cX_goOnLoading 60 = .ok (.aload_n 1, 1) := by decide +kernel
theorem dX_goOnLoading_61 : decode cX_goOnLoading 61 = .ok (.iconst 1, 1) := by decide +kernel
theorem dX_goOnLoading_62 : decode cX_goOnLoading 62 = .ok (.putfield 252, 3) := by decide +kernel
theorem dX_goOnLoading_65 : decode cX_goOnLoading 65 = .ok (.aload_n 1, 1) := by decide +kernel
theorem dX_goOnLoading_66 : decode cX_goOnLoading 66 = .ok (.invokevirtual 256, 3) := by decide +kernel
theorem dX_goOnLoading_69 : decode cX_goOnLoading 69 = .ok (.return_, 1) := by decide +kernel
theorem dX_advance_0 : decode cX_advance 0 = .ok (.aload_n 0, 1) := by decide +kernel
theorem dX_advance_1 : decode cX_advance 1 = .ok (.getfield 41, 3) := by decide +kernel
theorem dX_advance_4 : decode cX_advance 4 = .ok (.getfield 129, 3) := by decide +kernel
theorem dX_advance_7 : decode cX_advance 7 = .ok (.iload_n 1, 1) := by decide +kernel
theorem dX_advance_8 : decode cX_advance 8 = .ok (.aaload, 1) := by decide +kernel
theorem dX_advance_9 : decode cX_advance 9 = .ok (.astore_n 2, 1) := by decide +kernel
theorem dX_advance_10 : decode cX_advance 10 = .ok (.aload_n 2, 1) := by decide +kernel
theorem dX_advance_11 : decode cX_advance 11 = .ok (.getfield 149, 3) := by decide +kernel
theorem dX_advance_14 : decode cX_advance 14 = .ok (.ifCond .ne 5, 3) := by decide +kernel
theorem dX_advance_17 : decode cX_advance 17 = .ok (.iconst 0, 1) := by decide +kernel
theorem dX_advance_18 : decode cX_advance 18 = .ok (.ireturn, 1) := by decide +kernel
theorem dX_advance_19 : decode cX_advance 19 = .ok (.aload_n 2, 1) := by decide +kernel
theorem dX_advance_20 : decode cX_advance 20 = .ok (.getfield 158, 3) := by decide +kernel
theorem dX_advance_23 : decode cX_advance 23 = .ok (.ifCond .le 10, 3) := by decide +kernel
theorem dX_advance_26 : decode cX_advance 26 = .ok (.aload_n 0, 1) := by decide +kernel
theorem dX_advance_27 : decode cX_advance 27 = .ok (.aload_n 2, 1) := by decide +kernel
theorem dX_advance_28 : decode cX_advance 28 = .ok (.invokevirtual 230, 3) := by decide +kernel
theorem dX_advance_31 : decode cX_advance 31 = .ok (.iconst 0, 1) := by decide +kernel
theorem dX_advance_32 : decode cX_advance 32 = .ok (.ireturn, 1) := by decide +kernel
theorem dX_advance_33 : decode cX_advance 33 = .ok (.aload_n 0, 1) := by decide +kernel
theorem dX_advance_34 : decode cX_advance 34 = .ok (.aload_n 2, 1) := by decide +kernel
theorem dX_advance_35 : decode cX_advance 35 = .ok (.invokevirtual 234, 3) := by decide +kernel
theorem dX_advance_38 : decode cX_advance 38 = .ok (.ifCond .ne 43, 3) := by decide +kernel
theorem dX_advance_41 : decode cX_advance 41 = .ok (.aload_n 2, 1) := by decide +kernel
theorem dX_advance_42 : decode cX_advance 42 = .ok (.invokevirtual 161, 3) := by decide +kernel
theorem dX_advance_45 : decode cX_advance 45 = .ok (.bipush 6, 2) := by decide +kernel
theorem dX_advance_47 : decode cX_advance 47 = .ok (.if_icmp .ge 34, 3) := by decide +kernel
theorem dX_advance_50 : decode cX_advance 50 = .ok (.aload_n 0, 1) := by decide +kernel
theorem dX_advance_51 : decode cX_advance 51 = .ok (.iload_n 1, 1) := by decide +kernel
theorem dX_advance_52 : decode cX_advance 52 = .ok (.invokevirtual 220, 3) := by decide +kernel
theorem dX_advance_55 : decode cX_advance 55 = .ok (.ifCond .ne 26, 3) := by decide +kernel
theorem dX_advance_58 : decode cX_advance 58 = .ok (.aload_n 0, 1) := by decide +kernel
theorem dX_advance_59 : decode cX_advance 59 = .ok (.getfield 19, 3) := by decide +kernel
theorem dX_advance_62 : decode cX_advance 62 = .ok (.aload_n 0, 1) := by decide +kernel
theorem dX_advance_63 : decode cX_advance 63 = .ok (.getfield 41, 3) := by decide +kernel
theorem dX_advance_66 : decode cX_advance 66 = .ok (.getfield 48, 3) := by decide +kernel
theorem dX_advance_69 : decode cX_advance 69 = .ok (.iload_n 1, 1) := by decide +kernel
theorem dX_advance_70 : decode cX_advance 70 = .ok (.invokevirtual 139, 3) := by decide +kernel
theorem dX_advance_73 : decode cX_advance 73 = .ok (.aload_n 2, 1) := by decide +kernel
theorem dX_advance_74 : decode cX_advance 74 = .ok (.aload_n 0, 1) := by decide +kernel
theorem dX_advance_75 : decode cX_advance 75 = .ok (.getfield 19, 3) := by decide +kernel
theorem dX_advance_78 : decode cX_advance 78 = .ok (.invokevirtual 237, 3) := by decide +kernel
theorem dX_advance_81 : decode cX_advance 81 = .ok (.aload_n 2, 1) := by decide +kernel
theorem dX_advance_82 : decode cX_advance 82 = .ok (.aload_n 2, 1) := by decide +kernel
theorem dX_advance_83 : decode cX_advance 83 = .ok (.invokevirtual 240, 3) := by decide +kernel
theorem dX_advance_86 : decode cX_advance 86 = .ok (.putfield 155, 3) := by decide +kernel
theorem dX_advance_89 : decode cX_advance 89 = .ok (.iconst 0, 1) := by decide +kernel
theorem dX_advance_90 : decode cX_advance 90 = .ok (.istore_n 3, 1) := by decide +kernel
theorem dX_advance_91 : decode cX_advance 91 = .ok (.iload_n 3, 1) := by decide +kernel
theorem dX_advance_92 : decode cX_advance 92 = .ok (.aload_n 2, 1) := by decide +kernel
theorem dX_advance_93 : decode cX_advance 93 = .ok (.getfield 155, 3) := by decide +kernel
theorem dX_advance_96 : decode cX_advance 96 = .ok (.if_icmp .ge 34, 3) := by decide +kernel
theorem dX_advance_99 : decode cX_advance 99 = .ok (.aload_n 0, 1) := by decide +kernel
theorem dX_advance_100 : decode cX_advance 100 = .ok (.getfield 41, 3) := by decide +kernel
theorem dX_advance_103 : decode cX_advance 103 = .ok (.getfield 48, 3) := by decide +kernel
theorem dX_advance_106 : decode cX_advance 106 = .ok (.getfield 190, 3) := by decide +kernel
theorem dX_advance_109 : decode cX_advance 109 = .ok (.aload_n 2, 1) := by decide +kernel
theorem dX_advance_110 : decode cX_advance 110 = .ok (.getfield 166, 3) := by decide +kernel
theorem dX_advance_113 : decode cX_advance 113 = .ok (.iconst 0, 1) := by decide +kernel
theorem dX_advance_114 : decode cX_advance 114 = .ok (.iaload, 1) := by decide +kernel
theorem dX_advance_115 : decode cX_advance 115 = .ok (.invokestatic 169, 3) := by decide +kernel
theorem dX_advance_118 : decode cX_advance 118 = .ok (.iconst (-1), 1) := by decide +kernel
theorem dX_advance_119 : decode cX_advance 119 = .ok (.iastore, 1) := by decide +kernel
theorem dX_advance_120 : decode cX_advance 120 = .ok (.aload_n 2, 1) := by decide +kernel
theorem dX_advance_121 : decode cX_advance 121 = .ok (.invokevirtual 243, 3) := by decide +kernel
theorem dX_advance_124 : decode cX_advance 124 = .ok (.iinc 3 1, 3) := by decide +kernel
theorem dX_advance_127 : decode cX_advance 127 = .ok (.goto (-36), 3) := by decide +kernel
theorem dX_advance_130 : decode cX_advance 130 = .ok (.aload_n 2, 1) := by decide +kernel
theorem dX_advance_131 : decode cX_advance 131 = .ok (.getfield 155, 3) := by decide +kernel
theorem dX_advance_134 : decode cX_advance 134 = .ok (.istore_n 3, 1) := by decide +kernel
theorem dX_advance_135 : decode cX_advance 135 = .ok (.aload_n 0, 1) := by decide +kernel
theorem dX_advance_136 : decode cX_advance 136 = .ok (.aload_n 2, 1) := by decide +kernel
theorem dX_advance_137 : decode cX_advance 137 = .ok (.invokevirtual 234, 3) := by decide +kernel
theorem dX_advance_140 : decode cX_advance 140 = .ok (.ifCond .eq 20, 3) := by decide +kernel
theorem dX_advance_143 : decode cX_advance 143 = .ok (.aload_n 2, 1) := by decide +kernel
theorem dX_advance_144 : decode cX_advance 144 = .ok (.invokevirtual 161, 3) := by decide +kernel
theorem dX_advance_147 : decode cX_advance 147 = .ok (.ifCond .ne 13, 3) := by decide +kernel
theorem dX_advance_150 : decode cX_advance 150 = .ok (.aload_n 2, 1) := by decide +kernel
theorem dX_advance_151 : decode cX_advance 151 = .ok (.iconst 0, 1) := by decide +kernel
theorem dX_advance_152 : decode cX_advance 152 = .ok (.putfield 155, 3) := by decide +kernel
theorem dX_advance_155 : decode cX_advance 155 = .ok (.aload_n 2, 1) := by decide +kernel
theorem dX_advance_156 : decode cX_advance 156 = .ok (.iconst 2, 1) := by decide +kernel
theorem dX_advance_157 : decode cX_advance 157 = .ok (.putfield 158, 3) := by decide +kernel
theorem dX_advance_160 : decode cX_advance 160 = .ok (.iload_n 3, 1) := by decide +kernel
theorem dX_advance_161 : decode cX_advance 161 = .ok (.ireturn, 1) := by decide +kernel
theorem lfX_115 : Cond.fieldLinkNest R_X 115 "RailYard$Yard" "trainCount" "I" hostN ∈ nestW := nw 223 (by decide +kernel) rfl
theorem lmX_118 : Cond.methodLink R_X 118 yR_layBody ∈ bigW := bw 343 (by decide +kernel) rfl
theorem lmX_133 : Cond.methodLink R_X 133 yN_stand ∈ bigW := bw 389 (by decide +kernel) rfl
theorem lmX_139 : Cond.methodLink R_X 139 yR_hold ∈ bigW := bw 393 (by decide +kernel) rfl
theorem lmX_172 : Cond.methodLink R_X 172 yN_turnAbout ∈ bigW := bw 419 (by decide +kernel) rfl
theorem lfX_246 : Cond.fieldLinkNest R_X 246 "RailYard$Train" "length" "I" hostN ∈ nestW := nw 179 (by decide +kernel) rfl
theorem lmX_249 : Cond.methodLink R_X 249 yT_take ∈ bigW := bw 451 (by decide +kernel) rfl
theorem lmX_256 : Cond.methodLink R_X 256 yN_takeNextOrder ∈ bigW := bw 455 (by decide +kernel) rfl
theorem lmX_243 : Cond.methodLink R_X 243 yN_moveOn ∈ bigW := bw 531 (by decide +kernel) rfl
theorem lmX_240 : Cond.methodLink R_X 240 yN_nextSpeed ∈ bigW := bw 525 (by decide +kernel) rfl
theorem lmX_220 : Cond.methodLink R_X 220 yX_makeRequest ∈ bigW := bw 467 (by decide +kernel) rfl
theorem lmX_237 : Cond.methodLink R_X 237 yN_reserve ∈ bigW := bw 521 (by decide +kernel) rfl
theorem lmX_230 : Cond.methodLink R_X 230 yX_goOnLoading ∈ bigW := bw 443 (by decide +kernel) rfl
theorem miR_layBody : MI yR_layBody cR_layBody 6 none 3 := ⟨bw 346 (by decide +kernel) rfl, bw 41 (by decide +kernel) rfl, ⟨by decide +kernel, by decide +kernel⟩, by decide +kernel, by decide⟩
theorem mvR_layBody : MV yR_layBody := ⟨bw 344 (by decide +kernel) rfl, bw 345 (by decide +kernel) rfl⟩
theorem miN_stand : MI yN_stand cN_stand 3 none 1 := ⟨bw 392 (by decide +kernel) rfl, bw 47 (by decide +kernel) rfl, ⟨by decide +kernel, by decide +kernel⟩, by decide +kernel, by decide⟩
theorem mvN_stand : MV yN_stand := ⟨bw 390 (by decide +kernel) rfl, bw 391 (by decide +kernel) rfl⟩
theorem miR_hold : MI yR_hold cR_hold 4 none 2 := ⟨bw 396 (by decide +kernel) rfl, bw 41 (by decide +kernel) rfl, ⟨by decide +kernel, by decide +kernel⟩, by decide +kernel, by decide⟩
theorem mvR_hold : MV yR_hold := ⟨bw 394 (by decide +kernel) rfl, bw 395 (by decide +kernel) rfl⟩
theorem miN_turnAbout : MI yN_turnAbout cN_turnAbout 3 none 0 := ⟨bw 422 (by decide +kernel) rfl, bw 47 (by decide +kernel) rfl, ⟨by decide +kernel, by decide +kernel⟩, by decide +kernel, by decide⟩
theorem mvN_turnAbout : MV yN_turnAbout := ⟨bw 420 (by decide +kernel) rfl, bw 421 (by decide +kernel) rfl⟩
theorem miT_take : MI yT_take cT_take 3 (some .int) 1 := ⟨bw 454 (by decide +kernel) rfl, bw 46 (by decide +kernel) rfl, ⟨by decide +kernel, by decide +kernel⟩, by decide +kernel, by decide⟩
theorem mvT_take : MV yT_take := ⟨bw 452 (by decide +kernel) rfl, bw 453 (by decide +kernel) rfl⟩
theorem miN_takeNextOrder : MI yN_takeNextOrder cN_takeNextOrder 1 none 0 := ⟨bw 458 (by decide +kernel) rfl, bw 47 (by decide +kernel) rfl, ⟨by decide +kernel, by decide +kernel⟩, by decide +kernel, by decide⟩
theorem mvN_takeNextOrder : MV yN_takeNextOrder := ⟨bw 456 (by decide +kernel) rfl, bw 457 (by decide +kernel) rfl⟩
theorem miN_moveOn : MI yN_moveOn cN_moveOn 1 none 0 := ⟨bw 534 (by decide +kernel) rfl, bw 47 (by decide +kernel) rfl, ⟨by decide +kernel, by decide +kernel⟩, by decide +kernel, by decide⟩
theorem mvN_moveOn : MV yN_moveOn := ⟨bw 532 (by decide +kernel) rfl, bw 533 (by decide +kernel) rfl⟩
theorem miN_nextSpeed : MI yN_nextSpeed cN_nextSpeed 2 (some .int) 0 := ⟨bw 528 (by decide +kernel) rfl, bw 47 (by decide +kernel) rfl, ⟨by decide +kernel, by decide +kernel⟩, by decide +kernel, by decide⟩
theorem mvN_nextSpeed : MV yN_nextSpeed := ⟨bw 526 (by decide +kernel) rfl, bw 527 (by decide +kernel) rfl⟩
theorem miX_makeRequest : MI yX_makeRequest cX_makeRequest 7 (some .int) 1 := ⟨bw 470 (by decide +kernel) rfl, bw 39 (by decide +kernel) rfl, ⟨by decide +kernel, by decide +kernel⟩, by decide +kernel, by decide⟩
theorem mvX_makeRequest : MV yX_makeRequest := ⟨bw 469 (by decide +kernel) rfl, bw 4 (by decide +kernel) rfl⟩
theorem miN_reserve : MI yN_reserve cN_reserve 3 none 1 := ⟨bw 524 (by decide +kernel) rfl, bw 47 (by decide +kernel) rfl, ⟨by decide +kernel, by decide +kernel⟩, by decide +kernel, by decide⟩
theorem mvN_reserve : MV yN_reserve := ⟨bw 522 (by decide +kernel) rfl, bw 523 (by decide +kernel) rfl⟩
theorem miX_goOnLoading : MI yX_goOnLoading cX_goOnLoading 2 none 1 := ⟨bw 446 (by decide +kernel) rfl, bw 39 (by decide +kernel) rfl, ⟨by decide +kernel, by decide +kernel⟩, by decide +kernel, by decide⟩
theorem mvX_goOnLoading : MV yX_goOnLoading := ⟨bw 445 (by decide +kernel) rfl, bw 2 (by decide +kernel) rfl⟩
def sdI (w u : RW) (k r : Nat) : Prop := (∀ j, j ≠ k → j ≠ r → u j = w j) ∧ (u k 1 = w 73 2 ∧ u k 2 = w 73 2 ∧ u k 3 = 0 ∧ u k 4 = 0 ∧ u k 5 = 0 ∧ u k 7 = 0 ∧ u k 8 = 0 ∧ u k 9 = 0) ∧ (∀ i, 0 ≤ i → i < w 73 2 → u r i = w 74 (w 73 2 - 1 - i)) ∧ ∀ i, ¬ (0 ≤ i ∧ i < w 73 2) → u r i = w r i
def xtQ (w u : RW) (x n r : Int) : Prop := ∃ c v, (0 ≤ c ∧ c ≤ n) ∧ lbI w v x c ∧ (c = n ∨ cbf w x c.toNat = -1) ∧ ((c < n ∧ r = -1 ∧ v = u) ∨ (c = n ∧ ∃ f u2, agF f (w 1 4) (agS v n (w 1 4)) ∧ (∀ j, j ≠ 75 → u2 j = v j) ∧ ((¬ f = 0 ∧ r = -1 ∧ u2 = u) ∨ (f = 0 ∧ 6 ≤ w 1 4 ∧ r = -2 ∧ u2 = u) ∨ (f = 0 ∧ w 1 4 < 6 ∧ r = w 1 4 ∧ ∃ u3 u4, sdI u2 u3 (14 + (w 1 4).toNat) (20 + (w 1 4).toNat) ∧ hoI u3 u4 (w 1 4) n ∧ upw u4 1 4 (w 1 4 + 1) = u))))
def xtO (w : RW) (x y p e n : Int) : Prop := hTr w x y p ∧ hsE p e ∧ 1 ≤ n ∧ n ≤ 5
theorem ctX_train {G : vG} {l : Launch} {w : RW} {x y p e n : Int} (hc : cOK w) : CTi G l yX_train cX_train 7 .int 4 [.inr 0, .inl x, .inl y, .inl p, .inl e, .inl n] w (fun r u => (¬ xtO w x y p e n ∧ r = -1 ∧ w = u) ∨ (xtO w x y p e n ∧ xtQ w u (x + 8 * y + 64 * p + 512 * e) n r)) := by
  refine CTi.int (by decide) (Nat.le_of_ble_eq_true rfl) ?_
  intro X Q F hX hR
  subst hX
  show V G X 7 Q 0 [some (.inr 0), some (.inl x), some (.inl y), some (.inl p), some (.inl e), some (.inl n), none] [] w
  obtain ⟨k1, k2, k3, k4, k5, k6⟩ := hc
  refine V_aload_n (i := 0) F dX_train_0 rfl rfl ?_
  refine V_getr (ci := 6) (C := R_X) (T := T_X) (N := 5) F dX_train_1 (by first | rfl | assumption) rfl (j := 0) (by decide) rfl lfX_41 ?_
  refine V_getrN (ci := 5) (C := R_Y) (T := T_Y) (N := 8) F dX_train_4 (by first | rfl | assumption) rfl (j := 0) (by decide) rfl lfX_48 ?_
  refine V_iload_n (i := 1) F dX_train_7 rfl rfl ?_
  refine V_iload_n (i := 2) F dX_train_8 rfl rfl ?_
  refine V_iload_n (i := 3) F dX_train_9 rfl rfl ?_
  refine V_callVi F dX_train_10 lmX_86 miG_hasTrack mvG_hasTrack (ctG_hasTrack (by omega) (fun t t1 t2 => (k2 t t1 t2).1)) (by decide) (by first | rfl | assumption) rfl rfl (Nat.le_of_ble_eq_true rfl) (fun r u hr => ?_)
  obtain ⟨rfl, rfl⟩ := hr
  show V _ _ _ _ _ _ (.inl (bz (hTr w x y p)) :: _) _
  refine V_if_eq F 25 dX_train_13 (by decide) (fun h13 => ?_) (fun h13 => ?_)
  · first | (replace h13 := bz_ne0.mp h13) | (replace h13 := bz_eq0.mp h13) | skip
    refine V_iconst F dX_train_25 (by decide) ?_
    exact hR _ _ _ _ dX_train_26 (by
                  first
                  | exact Or.inl ⟨fun z => h13 z.1, rfl, rfl⟩
                  | exact Or.inl ⟨fun z => h22 z.2.1, rfl, rfl⟩
                  | exact Or.inl ⟨fun z => by have := z.2.2; omega, rfl, rfl⟩
                  | exact Or.inr ⟨⟨h13, h22, by omega, by omega⟩, c, v, hcr, hl, hce, Or.inr ⟨hcn, f, u2, by rw [← hcn]; exact hag, hu2, Or.inr (Or.inr ⟨h108, by omega, rfl, u3, u4, h3s, by rw [← hcn]; exact h4, rfl⟩)⟩⟩
                  | exact Or.inr ⟨⟨h13, h22, by omega, by omega⟩, c, v, hcr, hl, hce, Or.inr ⟨by omega, f, u2, by rw [show n = c by omega]; exact hag, hu2, Or.inr (Or.inl ⟨h108, by omega, rfl, rfl⟩)⟩⟩
                  | exact Or.inr ⟨⟨h13, h22, by omega, by omega⟩, c, v, hcr, hl, hce, Or.inr ⟨by omega, f, u2, by rw [show n = c by omega]; exact hag, hu2, Or.inl ⟨h108, rfl, rfl⟩⟩⟩
                  | exact Or.inr ⟨⟨h13, h22, by omega, by omega⟩, c, v, hcr, hl, hce, Or.inl ⟨by omega, rfl, rfl⟩⟩)
  · first | (replace h13 := bz_ne0.mp h13) | (replace h13 := bz_eq0.mp h13) | skip
    have hh := h13.1
    unfold isT at hh
    have hp := h13.2.1
    refine V_iload_n (i := 3) F dX_train_16 rfl rfl ?_
    refine V_iload F dX_train_17 rfl ?_
    refine V_callSi F dX_train_19 lmX_90 miS_hasEdge msS_hasEdge (ctS_hasEdge (by omega)) (by decide) rfl (Nat.le_of_ble_eq_true rfl) (fun r u hr => ?_)
    obtain ⟨rfl, rfl⟩ := hr
    refine V_if_ne F 27 dX_train_22 (by decide) (fun h22 => ?_) (fun h22 => ?_)
    · first | (replace h22 := bz_ne0.mp h22) | (replace h22 := bz_eq0.mp h22) | skip
      have hE := hsE_rng hp h22
      refine V_iload F dX_train_27 rfl ?_
      refine V_iconst F dX_train_29 (by decide) ?_
      refine V_icmp_lt F 39 dX_train_30 (by decide) (fun h30 => ?_) (fun h30 => ?_)
      · first | (replace h30 := bz_ne0.mp h30) | (replace h30 := bz_eq0.mp h30) | skip
        refine V_iconst F dX_train_39 (by decide) ?_
        exact hR _ _ _ _ dX_train_40 (by
                      first
                      | exact Or.inl ⟨fun z => h13 z.1, rfl, rfl⟩
                      | exact Or.inl ⟨fun z => h22 z.2.1, rfl, rfl⟩
                      | exact Or.inl ⟨fun z => by have := z.2.2; omega, rfl, rfl⟩
                      | exact Or.inr ⟨⟨h13, h22, by omega, by omega⟩, c, v, hcr, hl, hce, Or.inr ⟨hcn, f, u2, by rw [← hcn]; exact hag, hu2, Or.inr (Or.inr ⟨h108, by omega, rfl, u3, u4, h3s, by rw [← hcn]; exact h4, rfl⟩)⟩⟩
                      | exact Or.inr ⟨⟨h13, h22, by omega, by omega⟩, c, v, hcr, hl, hce, Or.inr ⟨by omega, f, u2, by rw [show n = c by omega]; exact hag, hu2, Or.inr (Or.inl ⟨h108, by omega, rfl, rfl⟩)⟩⟩
                      | exact Or.inr ⟨⟨h13, h22, by omega, by omega⟩, c, v, hcr, hl, hce, Or.inr ⟨by omega, f, u2, by rw [show n = c by omega]; exact hag, hu2, Or.inl ⟨h108, rfl, rfl⟩⟩⟩
                      | exact Or.inr ⟨⟨h13, h22, by omega, by omega⟩, c, v, hcr, hl, hce, Or.inl ⟨by omega, rfl, rfl⟩⟩)
      · first | (replace h30 := bz_ne0.mp h30) | (replace h30 := bz_eq0.mp h30) | skip
        refine V_iload F dX_train_33 rfl ?_
        refine V_iconst F dX_train_35 (by decide) ?_
        refine V_icmp_le F 41 dX_train_36 (by decide) (fun h36 => ?_) (fun h36 => ?_)
        · first | (replace h36 := bz_ne0.mp h36) | (replace h36 := bz_eq0.mp h36) | skip
          refine V_aload_n (i := 0) F dX_train_41 rfl rfl ?_
          refine V_getr (ci := 6) (C := R_X) (T := T_X) (N := 5) F dX_train_42 (by first | rfl | assumption) rfl (j := 0) (by decide) rfl lfX_41 ?_
          refine V_getiN (ci := 5) (C := R_Y) (T := T_Y) (N := 8) F dX_train_45 (by first | rfl | assumption) rfl (j := 4) 4 rfl (by decide) rfl lfX_115 ?_
          refine V_istore F dX_train_48 (by decide) (by simp only [List.set_cons_zero, List.set_cons_succ]; exact rfl) ?_
          have hx0 : okR (x + 8 * y + 64 * p + 512 * e) := by
            have m1 : (x + 8 * y + 64 * p + 512 * e) % 512 / 64 = p := by omega
            have m2 : (x + 8 * y + 64 * p + 512 * e) / 512 = e := by omega
            exact ⟨by omega, by omega, by omega, by omega, by rw [m1, m2]; exact h22⟩
          refine V_aload_n (i := 0) F dX_train_50 rfl rfl ?_
          refine V_getr (ci := 6) (C := R_X) (T := T_X) (N := 5) F dX_train_51 (by first | rfl | assumption) rfl (j := 3) (by decide) rfl lfX_19 ?_
          refine V_aload_n (i := 0) F dX_train_54 rfl rfl ?_
          refine V_getr (ci := 6) (C := R_X) (T := T_X) (N := 5) F dX_train_55 (by first | rfl | assumption) rfl (j := 0) (by decide) rfl lfX_41 ?_
          refine V_getrN (ci := 5) (C := R_Y) (T := T_Y) (N := 8) F dX_train_58 (by first | rfl | assumption) rfl (j := 0) (by decide) rfl lfX_48 ?_
          refine V_iload_n (i := 1) F dX_train_61 rfl rfl ?_
          refine V_iload_n (i := 2) F dX_train_62 rfl rfl ?_
          refine V_callSi F dX_train_63 lmX_58 miS_tile msS_tile (ctS_tile (by omega)) (by decide) rfl (Nat.le_of_ble_eq_true rfl) (fun r u hr => ?_)
          obtain ⟨rfl, rfl⟩ := hr
          refine V_iload_n (i := 3) F dX_train_66 rfl rfl ?_
          refine V_callSi F dX_train_67 lmX_63 miS_place msS_place (ctS_place (by omega)) (by decide) rfl (Nat.le_of_ble_eq_true rfl) (fun r u hr => ?_)
          obtain ⟨rfl, rfl⟩ := hr
          refine V_iload F dX_train_70 rfl ?_
          refine V_callSi F dX_train_72 lmX_93 miS_run msS_run (ctS_run (by omega)) (by decide) rfl (Nat.le_of_ble_eq_true rfl) (fun r u hr => ?_)
          obtain ⟨rfl, rfl⟩ := hr
          refine V_iload F dX_train_75 rfl ?_
          refine V_callVv F dX_train_77 lmX_118 miR_layBody mvR_layBody (ctR_layBody hx0 (by omega) (by omega) (fun z z1 z2 => (k2 z z1 (by omega)).1)) (by decide) (by first | rfl | assumption) rfl rfl (Nat.le_of_ble_eq_true rfl) (fun v hv => ?_)
          obtain ⟨c, hcr, hl, hce⟩ := hv
          have ev2 := hl.2.1
          refine V_aload_n (i := 0) F dX_train_80 rfl rfl ?_
          refine V_getr (ci := 6) (C := R_X) (T := T_X) (N := 5) F dX_train_81 (by first | rfl | assumption) rfl (j := 3) (by decide) rfl lfX_19 ?_
          refine V_getiN (ci := 2) (C := R_R) (T := T_R) (N := 3) F dX_train_84 (by first | rfl | assumption) rfl (j := 2) 2 rfl (by decide) rfl lfX_122 ?_
          rw [ev2]
          refine V_iload F dX_train_87 rfl ?_
          refine V_icmp_lt F 111 dX_train_89 (by decide) (fun h89 => ?_) (fun h89 => ?_)
          · first | (replace h89 := bz_ne0.mp h89) | (replace h89 := bz_eq0.mp h89) | skip
            refine V_iconst F dX_train_111 (by decide) ?_
            exact hR _ _ _ _ dX_train_112 (by
                          first
                          | exact Or.inl ⟨fun z => h13 z.1, rfl, rfl⟩
                          | exact Or.inl ⟨fun z => h22 z.2.1, rfl, rfl⟩
                          | exact Or.inl ⟨fun z => by have := z.2.2; omega, rfl, rfl⟩
                          | exact Or.inr ⟨⟨h13, h22, by omega, by omega⟩, c, v, hcr, hl, hce, Or.inr ⟨hcn, f, u2, by rw [← hcn]; exact hag, hu2, Or.inr (Or.inr ⟨h108, by omega, rfl, u3, u4, h3s, by rw [← hcn]; exact h4, rfl⟩)⟩⟩
                          | exact Or.inr ⟨⟨h13, h22, by omega, by omega⟩, c, v, hcr, hl, hce, Or.inr ⟨by omega, f, u2, by rw [show n = c by omega]; exact hag, hu2, Or.inr (Or.inl ⟨h108, by omega, rfl, rfl⟩)⟩⟩
                          | exact Or.inr ⟨⟨h13, h22, by omega, by omega⟩, c, v, hcr, hl, hce, Or.inr ⟨by omega, f, u2, by rw [show n = c by omega]; exact hag, hu2, Or.inl ⟨h108, rfl, rfl⟩⟩⟩
                          | exact Or.inr ⟨⟨h13, h22, by omega, by omega⟩, c, v, hcr, hl, hce, Or.inl ⟨by omega, rfl, rfl⟩⟩)
          · first | (replace h89 := bz_ne0.mp h89) | (replace h89 := bz_eq0.mp h89) | skip
            refine V_aload_n (i := 0) F dX_train_92 rfl rfl ?_
            refine V_getr (ci := 6) (C := R_X) (T := T_X) (N := 5) F dX_train_93 (by first | rfl | assumption) rfl (j := 3) (by decide) rfl lfX_19 ?_
            refine V_aload_n (i := 0) F dX_train_96 rfl rfl ?_
            refine V_getr (ci := 6) (C := R_X) (T := T_X) (N := 5) F dX_train_97 (by first | rfl | assumption) rfl (j := 0) (by decide) rfl lfX_41 ?_
            refine V_getrN (ci := 5) (C := R_Y) (T := T_Y) (N := 8) F dX_train_100 (by first | rfl | assumption) rfl (j := 0) (by decide) rfl lfX_48 ?_
            refine V_iload F dX_train_103 rfl ?_
            refine V_callVi F dX_train_105 lmX_125 miR_against mvR_against (ctR_against (w := v) (by omega) (by rw [ev2]; omega) (fun i i1 i2 => by rw [ev2] at i2; have := hl.2.2 i i1 i2; rw [this.1]; exact this.2) (by rw [hl.1 5 (by decide) (by decide)]; exact fun q q1 q2 => (k3 q q1 q2).2.2)) (by decide) (by first | rfl | assumption) rfl rfl (Nat.le_of_ble_eq_true rfl) (fun f u2 hf => ?_)
            obtain ⟨hag, hu2⟩ := hf
            rw [ev2] at hag
            refine V_if_eq F 113 dX_train_108 (by decide) (fun h108 => ?_) (fun h108 => ?_)
            · first | (replace h108 := bz_ne0.mp h108) | (replace h108 := bz_eq0.mp h108) | skip
              refine V_iload F dX_train_113 rfl ?_
              refine V_bipush F dX_train_115 (by decide) ?_
              refine V_icmp_lt F 123 dX_train_117 (by decide) (fun h117 => ?_) (fun h117 => ?_)
              · first | (replace h117 := bz_ne0.mp h117) | (replace h117 := bz_eq0.mp h117) | skip
                have b1 := tr14_at (i := w 1 4) (by omega)
                have b2 := tr14_sh (i := w 1 4) (by omega)
                have b3 := rn20_sh (i := w 1 4) (by omega)
                have b4 := od26_sh (i := w 1 4) (by omega)
                have e73 := hu2 73 (by decide)
                have e74 := hu2 74 (by decide)
                have hcn : c = n := by omega
                refine V_aload_n (i := 0) F dX_train_123 rfl rfl ?_
                refine V_getr (ci := 6) (C := R_X) (T := T_X) (N := 5) F dX_train_124 (by first | rfl | assumption) rfl (j := 0) (by decide) rfl lfX_41 ?_
                refine V_getrN (ci := 5) (C := R_Y) (T := T_Y) (N := 8) F dX_train_127 (by first | rfl | assumption) rfl (j := 2) (by decide) rfl lfX_129 ?_
                refine V_iload F dX_train_130 rfl ?_
                first
                  | refine V_aald F dX_train_132 (by first | rfl | assumption) rfl (by omega) (by first | rfl | assumption) ?_
                  | refine V_aaldA F dX_train_132 (by first | rfl | assumption) rfl (by omega) (by first | rfl | assumption) ?_
                refine V_aload_n (i := 0) F dX_train_133 rfl rfl ?_
                refine V_getr (ci := 6) (C := R_X) (T := T_X) (N := 5) F dX_train_134 (by first | rfl | assumption) rfl (j := 3) (by decide) rfl lfX_19 ?_
                refine V_callVv F dX_train_137 lmX_133 miN_stand mvN_stand (ctN_stand (w := u2) b2 b3 b4 (by omega) (by rw [e73, ev2]; omega)) (by decide) (by first | rfl | assumption) rfl rfl (Nat.le_of_ble_eq_true rfl) (fun u3 h3 => ?_)
                have h3s : sdI u2 u3 (14 + (w 1 4).toNat) (20 + (w 1 4).toNat) := h3
                have f73 := h3.1 73 (by omega) (by omega)
                have f74 := h3.1 74 (by omega) (by omega)
                refine V_aload_n (i := 0) F dX_train_140 rfl rfl ?_
                refine V_getr (ci := 6) (C := R_X) (T := T_X) (N := 5) F dX_train_141 (by first | rfl | assumption) rfl (j := 3) (by decide) rfl lfX_19 ?_
                refine V_aload_n (i := 0) F dX_train_144 rfl rfl ?_
                refine V_getr (ci := 6) (C := R_X) (T := T_X) (N := 5) F dX_train_145 (by first | rfl | assumption) rfl (j := 0) (by decide) rfl lfX_41 ?_
                refine V_getrN (ci := 5) (C := R_Y) (T := T_Y) (N := 8) F dX_train_148 (by first | rfl | assumption) rfl (j := 0) (by decide) rfl lfX_48 ?_
                refine V_iload F dX_train_151 rfl ?_
                refine V_callVv F dX_train_153 lmX_139 miR_hold mvR_hold (ctR_hold (w := u3) (by rw [f73, e73, ev2]; omega) (by rw [f73, f74, e73, e74, ev2]; intro i i1 i2; have := hl.2.2 i i1 i2; rw [this.1]; exact this.2)) (by decide) (by first | rfl | assumption) rfl rfl (Nat.le_of_ble_eq_true rfl) (fun u4 h4 => ?_)
                rw [f73, e73, ev2] at h4
                refine V_aload_n (i := 0) F dX_train_156 rfl rfl ?_
                refine V_getr (ci := 6) (C := R_X) (T := T_X) (N := 5) F dX_train_157 (by first | rfl | assumption) rfl (j := 0) (by decide) rfl lfX_41 ?_
                refine V_dup F dX_train_160 ?_
                refine V_getiN (ci := 5) (C := R_Y) (T := T_Y) (N := 8) F dX_train_161 (by first | rfl | assumption) rfl (j := 4) 4 rfl (by decide) rfl lfX_115 ?_
                rw [h4.1 1 (by decide), h3.1 1 (by omega) (by omega), hu2 1 (by decide), hl.1 1 (by decide) (by decide)]
                refine V_iconst F dX_train_164 (by decide) ?_
                refine V_iadd F dX_train_165 (by omega) ?_
                refine V_putiN (ci := 5) (C := R_Y) (T := T_Y) (N := 8) F dX_train_166 (by first | rfl | assumption) rfl (j := 4) 4 rfl (by decide) rfl rfl rfl lfX_115 ?_
                refine V_iload F dX_train_169 rfl ?_
                exact hR _ _ _ _ dX_train_171 (by
                              first
                              | exact Or.inl ⟨fun z => h13 z.1, rfl, rfl⟩
                              | exact Or.inl ⟨fun z => h22 z.2.1, rfl, rfl⟩
                              | exact Or.inl ⟨fun z => by have := z.2.2; omega, rfl, rfl⟩
                              | exact Or.inr ⟨⟨h13, h22, by omega, by omega⟩, c, v, hcr, hl, hce, Or.inr ⟨hcn, f, u2, by rw [← hcn]; exact hag, hu2, Or.inr (Or.inr ⟨h108, by omega, rfl, u3, u4, h3s, by rw [← hcn]; exact h4, rfl⟩)⟩⟩
                              | exact Or.inr ⟨⟨h13, h22, by omega, by omega⟩, c, v, hcr, hl, hce, Or.inr ⟨by omega, f, u2, by rw [show n = c by omega]; exact hag, hu2, Or.inr (Or.inl ⟨h108, by omega, rfl, rfl⟩)⟩⟩
                              | exact Or.inr ⟨⟨h13, h22, by omega, by omega⟩, c, v, hcr, hl, hce, Or.inr ⟨by omega, f, u2, by rw [show n = c by omega]; exact hag, hu2, Or.inl ⟨h108, rfl, rfl⟩⟩⟩
                              | exact Or.inr ⟨⟨h13, h22, by omega, by omega⟩, c, v, hcr, hl, hce, Or.inl ⟨by omega, rfl, rfl⟩⟩)
              · first | (replace h117 := bz_ne0.mp h117) | (replace h117 := bz_eq0.mp h117) | skip
                refine V_bipush F dX_train_120 (by decide) ?_
                exact hR _ _ _ _ dX_train_122 (by
                              first
                              | exact Or.inl ⟨fun z => h13 z.1, rfl, rfl⟩
                              | exact Or.inl ⟨fun z => h22 z.2.1, rfl, rfl⟩
                              | exact Or.inl ⟨fun z => by have := z.2.2; omega, rfl, rfl⟩
                              | exact Or.inr ⟨⟨h13, h22, by omega, by omega⟩, c, v, hcr, hl, hce, Or.inr ⟨hcn, f, u2, by rw [← hcn]; exact hag, hu2, Or.inr (Or.inr ⟨h108, by omega, rfl, u3, u4, h3s, by rw [← hcn]; exact h4, rfl⟩)⟩⟩
                              | exact Or.inr ⟨⟨h13, h22, by omega, by omega⟩, c, v, hcr, hl, hce, Or.inr ⟨by omega, f, u2, by rw [show n = c by omega]; exact hag, hu2, Or.inr (Or.inl ⟨h108, by omega, rfl, rfl⟩)⟩⟩
                              | exact Or.inr ⟨⟨h13, h22, by omega, by omega⟩, c, v, hcr, hl, hce, Or.inr ⟨by omega, f, u2, by rw [show n = c by omega]; exact hag, hu2, Or.inl ⟨h108, rfl, rfl⟩⟩⟩
                              | exact Or.inr ⟨⟨h13, h22, by omega, by omega⟩, c, v, hcr, hl, hce, Or.inl ⟨by omega, rfl, rfl⟩⟩)
            · first | (replace h108 := bz_ne0.mp h108) | (replace h108 := bz_eq0.mp h108) | skip
              refine V_iconst F dX_train_111 (by decide) ?_
              exact hR _ _ _ _ dX_train_112 (by
                            first
                            | exact Or.inl ⟨fun z => h13 z.1, rfl, rfl⟩
                            | exact Or.inl ⟨fun z => h22 z.2.1, rfl, rfl⟩
                            | exact Or.inl ⟨fun z => by have := z.2.2; omega, rfl, rfl⟩
                            | exact Or.inr ⟨⟨h13, h22, by omega, by omega⟩, c, v, hcr, hl, hce, Or.inr ⟨hcn, f, u2, by rw [← hcn]; exact hag, hu2, Or.inr (Or.inr ⟨h108, by omega, rfl, u3, u4, h3s, by rw [← hcn]; exact h4, rfl⟩)⟩⟩
                            | exact Or.inr ⟨⟨h13, h22, by omega, by omega⟩, c, v, hcr, hl, hce, Or.inr ⟨by omega, f, u2, by rw [show n = c by omega]; exact hag, hu2, Or.inr (Or.inl ⟨h108, by omega, rfl, rfl⟩)⟩⟩
                            | exact Or.inr ⟨⟨h13, h22, by omega, by omega⟩, c, v, hcr, hl, hce, Or.inr ⟨by omega, f, u2, by rw [show n = c by omega]; exact hag, hu2, Or.inl ⟨h108, rfl, rfl⟩⟩⟩
                            | exact Or.inr ⟨⟨h13, h22, by omega, by omega⟩, c, v, hcr, hl, hce, Or.inl ⟨by omega, rfl, rfl⟩⟩)
        · first | (replace h36 := bz_ne0.mp h36) | (replace h36 := bz_eq0.mp h36) | skip
          refine V_iconst F dX_train_39 (by decide) ?_
          exact hR _ _ _ _ dX_train_40 (by
                        first
                        | exact Or.inl ⟨fun z => h13 z.1, rfl, rfl⟩
                        | exact Or.inl ⟨fun z => h22 z.2.1, rfl, rfl⟩
                        | exact Or.inl ⟨fun z => by have := z.2.2; omega, rfl, rfl⟩
                        | exact Or.inr ⟨⟨h13, h22, by omega, by omega⟩, c, v, hcr, hl, hce, Or.inr ⟨hcn, f, u2, by rw [← hcn]; exact hag, hu2, Or.inr (Or.inr ⟨h108, by omega, rfl, u3, u4, h3s, by rw [← hcn]; exact h4, rfl⟩)⟩⟩
                        | exact Or.inr ⟨⟨h13, h22, by omega, by omega⟩, c, v, hcr, hl, hce, Or.inr ⟨by omega, f, u2, by rw [show n = c by omega]; exact hag, hu2, Or.inr (Or.inl ⟨h108, by omega, rfl, rfl⟩)⟩⟩
                        | exact Or.inr ⟨⟨h13, h22, by omega, by omega⟩, c, v, hcr, hl, hce, Or.inr ⟨by omega, f, u2, by rw [show n = c by omega]; exact hag, hu2, Or.inl ⟨h108, rfl, rfl⟩⟩⟩
                        | exact Or.inr ⟨⟨h13, h22, by omega, by omega⟩, c, v, hcr, hl, hce, Or.inl ⟨by omega, rfl, rfl⟩⟩)
    · first | (replace h22 := bz_ne0.mp h22) | (replace h22 := bz_eq0.mp h22) | skip
      refine V_iconst F dX_train_25 (by decide) ?_
      exact hR _ _ _ _ dX_train_26 (by
                    first
                    | exact Or.inl ⟨fun z => h13 z.1, rfl, rfl⟩
                    | exact Or.inl ⟨fun z => h22 z.2.1, rfl, rfl⟩
                    | exact Or.inl ⟨fun z => by have := z.2.2; omega, rfl, rfl⟩
                    | exact Or.inr ⟨⟨h13, h22, by omega, by omega⟩, c, v, hcr, hl, hce, Or.inr ⟨hcn, f, u2, by rw [← hcn]; exact hag, hu2, Or.inr (Or.inr ⟨h108, by omega, rfl, u3, u4, h3s, by rw [← hcn]; exact h4, rfl⟩)⟩⟩
                    | exact Or.inr ⟨⟨h13, h22, by omega, by omega⟩, c, v, hcr, hl, hce, Or.inr ⟨by omega, f, u2, by rw [show n = c by omega]; exact hag, hu2, Or.inr (Or.inl ⟨h108, by omega, rfl, rfl⟩)⟩⟩
                    | exact Or.inr ⟨⟨h13, h22, by omega, by omega⟩, c, v, hcr, hl, hce, Or.inr ⟨by omega, f, u2, by rw [show n = c by omega]; exact hag, hu2, Or.inl ⟨h108, rfl, rfl⟩⟩⟩
                    | exact Or.inr ⟨⟨h13, h22, by omega, by omega⟩, c, v, hcr, hl, hce, Or.inl ⟨by omega, rfl, rfl⟩⟩)
def rvX (w : RW) (t : Int) : Prop := (0 ≤ t ∧ t < w 1 4) ∧ w (14 + t.toNat) 3 = 0 ∧ w (14 + t.toNat) 4 ≤ 0 ∧ w (14 + t.toNat) 1 - w (14 + t.toNat) 2 ≤ 0 ∧ ∀ k, 0 ≤ k → k < w (14 + t.toNat) 1 → w 4 (w (20 + t.toNat) k % 512) = 0
def taP (w u : RW) (k r : Nat) : Prop := (∀ j, j ≠ k → j ≠ r → u j = w j) ∧ (u k 9 = 0 ∧ ∀ f, f ≠ 9 → u k f = w k f) ∧ (∀ i, 0 ≤ i → i < w k 1 → u r i = flp (w r (w k 1 - 1 - i))) ∧ ∀ i, ¬ (0 ≤ i ∧ i < w k 1) → u r i = w r i
theorem lpX_reverse {G : vG} {X : vX} {Q : State → Prop} {w : RW} {t : Int} (ht : 0 ≤ t ∧ t < w 1 4) (hc : cOK w) (hv : w (14 + t.toNat) 3 = 0 ∧ w (14 + t.toNat) 4 ≤ 0 ∧ w (14 + t.toNat) 1 - w (14 + t.toNat) 2 ≤ 0) (F : FX G X cX_reverse yX_reverse.cls 4 3) (hR : RetZ G X cX_reverse 4 Q (fun r u => (rvX w t ∧ r = 1 ∧ taP w u (14 + t.toNat) (20 + t.toNat)) ∨ (¬ rvX w t ∧ r = 0 ∧ w = u))) : ∀ (m : Nat) (i : Int), w (14 + t.toNat) 1 - i < m → (0 ≤ i) → (i ≤ w (14 + t.toNat) 1) → (∀ k, 0 ≤ k → k < i → w 4 (w (20 + t.toNat) k % 512) = 0) → V G X 4 Q 48 [some (.inr 0), some (.inl t), some (.inr (14 + t.toNat)), some (.inl i)] [] w := by
  obtain ⟨k1, k2, k3, k4, k5, k6⟩ := hc
  obtain ⟨t1, t2, t3, t4, t5⟩ := k6 t ht.1 ht.2
  have b0 := tr14_at (i := t) (by omega)
  have b2 := tr14_sh (i := t) (by omega)
  have b3 := rn20_sh (i := t) (by omega)
  have b4 := od26_sh (i := t) (by omega)
  intro m
  induction m with
  | zero => intro i hm0 h1 h2 hI; omega
  | succ m ih =>
    intro i hm0 h1 h2 hI
    refine V_iload_n (i := 3) F dX_reverse_48 rfl rfl ?_
    refine V_aload_n (i := 2) F dX_reverse_49 rfl rfl ?_
    refine V_getiN (ci := 3) (C := R_N) (T := T_N) (N := 10) F dX_reverse_50 (by first | rfl | assumption) rfl (j := 1) 1 rfl (by decide) rfl lfX_165 ?_
    refine V_icmp_ge F 87 dX_reverse_53 (by decide) (fun h53 => ?_) (fun h53 => ?_)
    · refine V_aload_n (i := 2) F dX_reverse_87 rfl rfl ?_
      refine V_callVv F dX_reverse_88 lmX_172 miN_turnAbout mvN_turnAbout (ctN_turnAbout b2 b3 b4 (by omega) (by omega) t4) (by decide) (by first | rfl | assumption) rfl rfl (Nat.le_of_ble_eq_true rfl) (fun u hr => ?_)
      skip
      refine V_iconst F dX_reverse_91 (by decide) ?_
      exact hR _ _ _ _ dX_reverse_92 (by first | exact Or.inl rfl | exact Or.inr rfl | exact bz_01 _ | assumption) (by
                    first
                    | exact Or.inr ⟨fun z => h76 (z.2.2.2.2 i h1 (by omega)), rfl, rfl⟩
                    | exact Or.inl ⟨⟨ht, hv.1, hv.2.1, hv.2.2, fun k a b => hI k a (by omega)⟩, rfl, hr⟩)
    · have hk := t4 i h1 (by omega)
      obtain ⟨o1, o2, o3, o4, o5⟩ := hk
      refine V_aload_n (i := 0) F dX_reverse_56 rfl rfl ?_
      refine V_getr (ci := 6) (C := R_X) (T := T_X) (N := 5) F dX_reverse_57 (by first | rfl | assumption) rfl (j := 0) (by decide) rfl lfX_41 ?_
      refine V_getrN (ci := 5) (C := R_Y) (T := T_Y) (N := 8) F dX_reverse_60 (by first | rfl | assumption) rfl (j := 0) (by decide) rfl lfX_48 ?_
      refine V_getrN (ci := 0) (C := R_G) (T := T_G) (N := 5) F dX_reverse_63 (by first | rfl | assumption) rfl (j := 3) (by decide) rfl lfX_80 ?_
      refine V_aload_n (i := 2) F dX_reverse_66 rfl rfl ?_
      refine V_getrN (ci := 3) (C := R_N) (T := T_N) (N := 10) F dX_reverse_67 (by first | rfl | assumption) rfl (j := 0) (by decide) rfl lfX_166 ?_
      refine V_iload_n (i := 3) F dX_reverse_70 rfl rfl ?_
      first
        | refine V_sald F dX_reverse_71 (by decide) (by omega) (stt_in _ _) ?_
        | refine V_iald F dX_reverse_71 (by first | rfl | assumption) rfl (by omega) ?_
      refine V_callSi F dX_reverse_72 lmX_169 miS_placeOf msS_placeOf (ctS_placeOf (by omega)) (by decide) rfl (Nat.le_of_ble_eq_true rfl) (fun r u hr => ?_)
      obtain ⟨rfl, rfl⟩ := hr
      first
        | refine V_sald F dX_reverse_75 (by decide) (by omega) (stt_in _ _) ?_
        | refine V_iald F dX_reverse_75 (by first | rfl | assumption) rfl (by omega) ?_
      refine V_if_eq F 81 dX_reverse_76 (by decide) (fun h76 => ?_) (fun h76 => ?_)
      · refine V_iinc F dX_reverse_81 (by decide) rfl (by omega) (by simp only [List.set_cons_zero, List.set_cons_succ]; exact rfl) ?_
        refine V_goto F 48 dX_reverse_84 (by decide) ?_
        refine ih (i + 1) (by omega) (by omega) (by omega) (fun j j1 j2 => ?_)
        by_cases e : j = i
        · rw [e]; exact h76
        · exact hI j j1 (by omega)
      · refine V_iconst F dX_reverse_79 (by decide) ?_
        exact hR _ _ _ _ dX_reverse_80 (by first | exact Or.inl rfl | exact Or.inr rfl | exact bz_01 _ | assumption) (by
                      first
                      | exact Or.inr ⟨fun z => h76 (z.2.2.2.2 i h1 (by omega)), rfl, rfl⟩
                      | exact Or.inl ⟨⟨ht, hv.1, hv.2.1, hv.2.2, fun k a b => hI k a (by omega)⟩, rfl, hr⟩)
theorem ctX_reverse {G : vG} {l : Launch} {w : RW} {t : Int} (hc : cOK w) : CTi G l yX_reverse cX_reverse 4 .boolean 3 [.inr 0, .inl t] w (fun r u => (rvX w t ∧ r = 1 ∧ taP w u (14 + t.toNat) (20 + t.toNat)) ∨ (¬ rvX w t ∧ r = 0 ∧ w = u)) := by
  refine CTi.bool (by decide) (Nat.le_of_ble_eq_true rfl) ?_
  intro X Q F hX hR
  subst hX
  show V G X 4 Q 0 [some (.inr 0), some (.inl t), none, none] [] w
  have hc0 := hc
  refine V_aload_n (i := 0) F dX_reverse_0 rfl rfl ?_
  refine V_getr (ci := 6) (C := R_X) (T := T_X) (N := 5) F dX_reverse_1 (by first | rfl | assumption) rfl (j := 0) (by decide) rfl lfX_41 ?_
  refine V_iload_n (i := 1) F dX_reverse_4 rfl rfl ?_
  refine V_callVi F dX_reverse_5 lmX_143 miY_hasTrain mvY_hasTrain (ctY_hasTrain) (by decide) (by first | rfl | assumption) rfl rfl (Nat.le_of_ble_eq_true rfl) (fun r u hr => ?_)
  obtain ⟨rfl, rfl⟩ := hr
  refine V_if_ne F 13 dX_reverse_8 (by decide) (fun h8 => ?_) (fun h8 => ?_)
  · first | (replace h8 := bz_ne0.mp h8) | (replace h8 := bz_eq0.mp h8) | skip
    have ht := h8
    obtain ⟨k1, k2, k3, k4, k5, k6⟩ := hc
    obtain ⟨t1, t2, t3, t4, t5⟩ := k6 t ht.1 ht.2
    have b0 := tr14_at (i := t) (by omega)
    have b2 := tr14_sh (i := t) (by omega)
    have b3 := rn20_sh (i := t) (by omega)
    have b4 := od26_sh (i := t) (by omega)
    refine V_aload_n (i := 0) F dX_reverse_13 rfl rfl ?_
    refine V_getr (ci := 6) (C := R_X) (T := T_X) (N := 5) F dX_reverse_14 (by first | rfl | assumption) rfl (j := 0) (by decide) rfl lfX_41 ?_
    refine V_getrN (ci := 5) (C := R_Y) (T := T_Y) (N := 8) F dX_reverse_17 (by first | rfl | assumption) rfl (j := 2) (by decide) rfl lfX_129 ?_
    refine V_iload_n (i := 1) F dX_reverse_20 rfl rfl ?_
    first
      | refine V_aald F dX_reverse_21 (by first | rfl | assumption) rfl (by omega) (by first | rfl | assumption) ?_
      | refine V_aaldA F dX_reverse_21 (by first | rfl | assumption) rfl (by omega) (by first | rfl | assumption) ?_
    refine V_astore_n (i := 2) F dX_reverse_22 rfl (by decide) (by simp only [List.set_cons_zero, List.set_cons_succ]; exact rfl) ?_
    refine V_aload_n (i := 2) F dX_reverse_23 rfl rfl ?_
    refine V_getiN (ci := 3) (C := R_N) (T := T_N) (N := 10) F dX_reverse_24 (by first | rfl | assumption) rfl (j := 3) 3 rfl (by decide) rfl lfX_155 ?_
    refine V_if_ne F 44 dX_reverse_27 (by decide) (fun h27 => ?_) (fun h27 => ?_)
    · first | (replace h27 := bz_ne0.mp h27) | (replace h27 := bz_eq0.mp h27) | skip
      refine V_iconst F dX_reverse_44 (by decide) ?_
      exact hR _ _ _ _ dX_reverse_45 (by first | exact Or.inl rfl | exact Or.inr rfl | exact bz_01 _ | assumption) (by
                    first
                    | exact Or.inr ⟨fun z => h8 z.1, rfl, rfl⟩
                    | exact Or.inr ⟨fun z => by have a := z.2.1; have b := z.2.2.1; have c := z.2.2.2.1; omega, rfl, rfl⟩)
    · first | (replace h27 := bz_ne0.mp h27) | (replace h27 := bz_eq0.mp h27) | skip
      refine V_aload_n (i := 2) F dX_reverse_30 rfl rfl ?_
      refine V_getiN (ci := 3) (C := R_N) (T := T_N) (N := 10) F dX_reverse_31 (by first | rfl | assumption) rfl (j := 4) 4 rfl (by decide) rfl lfX_158 ?_
      refine V_if_gt F 44 dX_reverse_34 (by decide) (fun h34 => ?_) (fun h34 => ?_)
      · first | (replace h34 := bz_ne0.mp h34) | (replace h34 := bz_eq0.mp h34) | skip
        refine V_iconst F dX_reverse_44 (by decide) ?_
        exact hR _ _ _ _ dX_reverse_45 (by first | exact Or.inl rfl | exact Or.inr rfl | exact bz_01 _ | assumption) (by
                      first
                      | exact Or.inr ⟨fun z => h8 z.1, rfl, rfl⟩
                      | exact Or.inr ⟨fun z => by have a := z.2.1; have b := z.2.2.1; have c := z.2.2.2.1; omega, rfl, rfl⟩)
      · first | (replace h34 := bz_ne0.mp h34) | (replace h34 := bz_eq0.mp h34) | skip
        refine V_aload_n (i := 2) F dX_reverse_37 rfl rfl ?_
        refine V_callVi F dX_reverse_38 lmX_161 miN_ahead mvN_ahead (ctN_ahead b2 b3 b4 (by omega)) (by decide) (by first | rfl | assumption) rfl rfl (Nat.le_of_ble_eq_true rfl) (fun r u hr => ?_)
        obtain ⟨rfl, rfl⟩ := hr
        refine V_if_le F 46 dX_reverse_41 (by decide) (fun h41 => ?_) (fun h41 => ?_)
        · first | (replace h41 := bz_ne0.mp h41) | (replace h41 := bz_eq0.mp h41) | skip
          refine V_iconst F dX_reverse_46 (by decide) ?_
          refine V_istore_n (i := 3) F dX_reverse_47 rfl (by decide) (by simp only [List.set_cons_zero, List.set_cons_succ]; exact rfl) ?_
          exact lpX_reverse h8 hc0 ⟨by omega, by omega, by omega⟩ F hR 97 0 (by omega) (by omega) (by omega) (fun k a b => by omega)
        · first | (replace h41 := bz_ne0.mp h41) | (replace h41 := bz_eq0.mp h41) | skip
          refine V_iconst F dX_reverse_44 (by decide) ?_
          exact hR _ _ _ _ dX_reverse_45 (by first | exact Or.inl rfl | exact Or.inr rfl | exact bz_01 _ | assumption) (by
                        first
                        | exact Or.inr ⟨fun z => h8 z.1, rfl, rfl⟩
                        | exact Or.inr ⟨fun z => by have a := z.2.1; have b := z.2.2.1; have c := z.2.2.2.1; omega, rfl, rfl⟩)
  · first | (replace h8 := bz_ne0.mp h8) | (replace h8 := bz_eq0.mp h8) | skip
    refine V_iconst F dX_reverse_11 (by decide) ?_
    exact hR _ _ _ _ dX_reverse_12 (by first | exact Or.inl rfl | exact Or.inr rfl | exact bz_01 _ | assumption) (by
                  first
                  | exact Or.inr ⟨fun z => h8 z.1, rfl, rfl⟩
                  | exact Or.inr ⟨fun z => by have a := z.2.1; have b := z.2.2.1; have c := z.2.2.2.1; omega, rfl, rfl⟩)
def ldXC (w : RW) (t : Int) : Int := if 20 * w (14 + t.toNat) 2 < w (7 + (gTr w t).toNat) 2 then 20 * w (14 + t.toNat) 2 else w (7 + (gTr w t).toNat) 2
def ldX (w : RW) (t : Int) : RW := if 0 < w (14 + t.toNat) 4 - 1 then upw w (14 + t.toNat) 4 (w (14 + t.toNat) 4 - 1) else upw (upw (upw (upw (upw (upw w (14 + t.toNat) 4 (w (14 + t.toNat) 4 - 1)) 1 6 (w 1 6 + w (14 + t.toNat) 5)) (7 + (gTr w t).toNat) 2 (w (7 + (gTr w t).toNat) 2 - ldXC w t)) (14 + t.toNat) 5 (ldXC w t)) (14 + t.toNat) 9 1) (14 + t.toNat) 8 (if w (14 + t.toNat) 8 + 1 < w (14 + t.toNat) 7 then w (14 + t.toNat) 8 + 1 else 0)
theorem ctX_goOnLoading {G : vG} {l : Launch} {w : RW} {t : Int} (ht : 0 ≤ t ∧ t < w 1 4) (hc : cOK w) (ho : 0 < w (14 + t.toNat) 7) (hl : 0 < w (14 + t.toNat) 4) (hb : 0 ≤ w 1 6 ∧ w 1 6 ≤ 1000000000) : CTv G l yX_goOnLoading cX_goOnLoading 2 2 [.inr 0, .inr (14 + t.toNat)] w (fun u => ldX w t = u) := by
  refine CTv.intro (by decide) (Nat.le_of_ble_eq_true rfl) ?_
  intro X Q F hX hR
  subst hX
  show V G X 2 Q 0 [some (.inr 0), some (.inr (14 + t.toNat))] [] w
  obtain ⟨k1, k2, k3, k4, k5, k6⟩ := hc
  obtain ⟨t1, t2, t3, t4, t5⟩ := k6 t ht.1 ht.2
  have b0 := tr14_at (i := t) (by omega)
  have b2 := tr14_sh (i := t) (by omega)
  have b3 := rn20_sh (i := t) (by omega)
  have b4 := od26_sh (i := t) (by omega)
  have hg : 0 ≤ gTr w t ∧ gTr w t < w 1 3 := t5 _ (by omega) (by omega)
  have b5 := st7_at (i := gTr w t) (by omega)
  have b6 := st7_sh (i := gTr w t) (by omega)
  have hs := (k5 _ hg.1 hg.2).2
  refine V_aload_n (i := 1) F dX_goOnLoading_0 rfl rfl ?_
  refine V_dup F dX_goOnLoading_1 ?_
  refine V_getiN (ci := 3) (C := R_N) (T := T_N) (N := 10) F dX_goOnLoading_2 (by first | rfl | assumption) rfl (j := 4) 4 rfl (by decide) rfl lfX_158 ?_
  refine V_iconst F dX_goOnLoading_5 (by decide) ?_
  refine V_isub F dX_goOnLoading_6 (by omega) ?_
  refine V_putiN (ci := 3) (C := R_N) (T := T_N) (N := 10) F dX_goOnLoading_7 (by first | rfl | assumption) rfl (j := 4) 4 rfl (by decide) rfl rfl rfl lfX_158 ?_
  refine V_aload_n (i := 1) F dX_goOnLoading_10 rfl rfl ?_
  refine V_getiN (ci := 3) (C := R_N) (T := T_N) (N := 10) F dX_goOnLoading_11 (by first | rfl | assumption) rfl (j := 4) 4 rfl (by decide) rfl lfX_158 ?_
  (repeat (first | rw [upw_ne (by omega)] | rw [upw_eq (by omega) (by omega)]))
  refine V_if_le F 18 dX_goOnLoading_14 (by decide) (fun h14 => ?_) (fun h14 => ?_)
  · refine V_aload_n (i := 0) F dX_goOnLoading_18 rfl rfl ?_
    refine V_getr (ci := 6) (C := R_X) (T := T_X) (N := 5) F dX_goOnLoading_19 (by first | rfl | assumption) rfl (j := 0) (by decide) rfl lfX_41 ?_
    refine V_dup F dX_goOnLoading_22 ?_
    refine V_getiN (ci := 5) (C := R_Y) (T := T_Y) (N := 8) F dX_goOnLoading_23 (by first | rfl | assumption) rfl (j := 6) 6 rfl (by decide) rfl lfX_213 ?_
    (repeat (first | rw [upw_ne (by omega)] | rw [upw_eq (by omega) (by omega)]))
    refine V_aload_n (i := 1) F dX_goOnLoading_26 rfl rfl ?_
    refine V_getiN (ci := 3) (C := R_N) (T := T_N) (N := 10) F dX_goOnLoading_27 (by first | rfl | assumption) rfl (j := 5) 5 rfl (by decide) rfl lfX_203 ?_
    (repeat (first | rw [upw_ne (by omega)] | rw [upw_eq (by omega) (by omega)]))
    refine V_iadd F dX_goOnLoading_30 (by omega) ?_
    refine V_putiN (ci := 5) (C := R_Y) (T := T_Y) (N := 8) F dX_goOnLoading_31 (by first | rfl | assumption) rfl (j := 6) 6 rfl (by decide) rfl rfl rfl lfX_213 ?_
    refine V_aload_n (i := 1) F dX_goOnLoading_34 rfl rfl ?_
    refine V_aload_n (i := 0) F dX_goOnLoading_35 rfl rfl ?_
    refine V_getr (ci := 6) (C := R_X) (T := T_X) (N := 5) F dX_goOnLoading_36 (by first | rfl | assumption) rfl (j := 0) (by decide) rfl lfX_41 ?_
    refine V_getrN (ci := 5) (C := R_Y) (T := T_Y) (N := 8) F dX_goOnLoading_39 (by first | rfl | assumption) rfl (j := 1) (by decide) rfl lfX_106 ?_
    refine V_aload_n (i := 1) F dX_goOnLoading_42 rfl rfl ?_
    refine V_callVi F dX_goOnLoading_43 lmX_206 miN_goesFor mvN_goesFor (ctN_goesFor b2 b3 b4 (by (repeat (first | rw [upw_ne (by omega)] | rw [upw_eq (by omega) (by omega)])); omega)) (by decide) (by first | rfl | assumption) rfl rfl (Nat.le_of_ble_eq_true rfl) (fun r u hr => ?_)
    obtain ⟨rfl, rfl⟩ := hr
    rw [if_pos (by (repeat (first | rw [upw_ne (by omega)] | rw [upw_eq (by omega) (by omega)])); omega)]
    (repeat (first | rw [upw_ne (by omega)] | rw [upw_eq (by omega) (by omega)]))
    show V _ _ _ _ _ _ (.inl (gTr w t) :: _) _
    first
      | refine V_aald F dX_goOnLoading_46 (by first | rfl | assumption) rfl (by omega) (by first | rfl | assumption) ?_
      | refine V_aaldA F dX_goOnLoading_46 (by first | rfl | assumption) rfl (by omega) (by first | rfl | assumption) ?_
    refine V_bipush F dX_goOnLoading_47 (by decide) ?_
    refine V_aload_n (i := 1) F dX_goOnLoading_49 rfl rfl ?_
    refine V_getiN (ci := 3) (C := R_N) (T := T_N) (N := 10) F dX_goOnLoading_50 (by first | rfl | assumption) rfl (j := 2) 2 rfl (by decide) rfl lfX_246 ?_
    (repeat (first | rw [upw_ne (by omega)] | rw [upw_eq (by omega) (by omega)]))
    refine V_imul F dX_goOnLoading_53 (by omega) ?_
    refine V_callVi F dX_goOnLoading_54 lmX_249 miT_take mvT_take (ctT_take b6 (by (repeat (first | rw [upw_ne (by omega)] | rw [upw_eq (by omega) (by omega)])); omega)) (by decide) (by first | rfl | assumption) rfl rfl (Nat.le_of_ble_eq_true rfl) (fun z u hz => ?_)
    obtain ⟨rfl, rfl⟩ := hz
    rw [show upw (upw w (14 + t.toNat) 4 (w (14 + t.toNat) 4 - 1)) 1 6 (w 1 6 + w (14 + t.toNat) 5) (7 + (gTr w t).toNat) 2 = w (7 + (gTr w t).toNat) 2 by (repeat (first | rw [upw_ne (by omega)] | rw [upw_eq (by omega) (by omega)]))]
    rw [show (if 20 * w (14 + t.toNat) 2 < w (7 + (gTr w t).toNat) 2 then 20 * w (14 + t.toNat) 2 else w (7 + (gTr w t).toNat) 2) = ldXC w t from rfl]
    refine V_putiN (ci := 3) (C := R_N) (T := T_N) (N := 10) F dX_goOnLoading_57 (by first | rfl | assumption) rfl (j := 5) 5 rfl (by decide) rfl rfl rfl lfX_203 ?_
    refine V_aload_n (i := 1) F dX_goOnLoading_60 rfl rfl ?_
    refine V_iconst F dX_goOnLoading_61 (by decide) ?_
    refine V_putzN (ci := 3) (C := R_N) (T := T_N) (N := 10) F dX_goOnLoading_62 (by first | rfl | assumption) rfl (j := 9) 9 rfl (by decide) rfl rfl rfl (by first | exact Or.inl rfl | exact Or.inr rfl | exact bz_01 _ | assumption) lfX_252 ?_
    refine V_aload_n (i := 1) F dX_goOnLoading_65 rfl rfl ?_
    refine V_callVv F dX_goOnLoading_66 lmX_256 miN_takeNextOrder mvN_takeNextOrder (ctN_takeNextOrder b2 b3 b4 (by (repeat (first | rw [upw_ne (by omega)] | rw [upw_eq (by omega) (by omega)])); omega)) (by decide) (by first | rfl | assumption) rfl rfl (Nat.le_of_ble_eq_true rfl) (fun u hr => ?_)
    subst hr
    exact hR _ _ _ dX_goOnLoading_69 (by
                  unfold ldX
                  first
                  | (rw [if_pos (by omega)]; done)
                  | (rw [if_neg (by omega)]
                     rw [show (upw (upw (upw (upw (upw w (14 + t.toNat) 4 (w (14 + t.toNat) 4 - 1)) 1 6 (w 1 6 + w (14 + t.toNat) 5)) (7 + (gTr w t).toNat) 2 (w (7 + (gTr w t).toNat) 2 - ldXC w t)) (14 + t.toNat) 5 (ldXC w t)) (14 + t.toNat) 9 1) (14 + t.toNat) 8 = w (14 + t.toNat) 8 by (repeat (first | rw [upw_ne (by omega)] | rw [upw_eq (by omega) (by omega)])), show (upw (upw (upw (upw (upw w (14 + t.toNat) 4 (w (14 + t.toNat) 4 - 1)) 1 6 (w 1 6 + w (14 + t.toNat) 5)) (7 + (gTr w t).toNat) 2 (w (7 + (gTr w t).toNat) 2 - ldXC w t)) (14 + t.toNat) 5 (ldXC w t)) (14 + t.toNat) 9 1) (14 + t.toNat) 7 = w (14 + t.toNat) 7 by (repeat (first | rw [upw_ne (by omega)] | rw [upw_eq (by omega) (by omega)]))]))
  · exact hR _ _ _ dX_goOnLoading_17 (by
                  unfold ldX
                  first
                  | (rw [if_pos (by omega)]; done)
                  | (rw [if_neg (by omega)]
                     rw [show (upw (upw (upw (upw (upw w (14 + t.toNat) 4 (w (14 + t.toNat) 4 - 1)) 1 6 (w 1 6 + w (14 + t.toNat) 5)) (7 + (gTr w t).toNat) 2 (w (7 + (gTr w t).toNat) 2 - ldXC w t)) (14 + t.toNat) 5 (ldXC w t)) (14 + t.toNat) 9 1) (14 + t.toNat) 8 = w (14 + t.toNat) 8 by (repeat (first | rw [upw_ne (by omega)] | rw [upw_eq (by omega) (by omega)])), show (upw (upw (upw (upw (upw w (14 + t.toNat) 4 (w (14 + t.toNat) 4 - 1)) 1 6 (w 1 6 + w (14 + t.toNat) 5)) (7 + (gTr w t).toNat) 2 (w (7 + (gTr w t).toNat) 2 - ldXC w t)) (14 + t.toNat) 5 (ldXC w t)) (14 + t.toNat) 9 1) (14 + t.toNat) 7 = w (14 + t.toNat) 7 by (repeat (first | rw [upw_ne (by omega)] | rw [upw_eq (by omega) (by omega)]))]))
theorem cOK_t {w u : RW} {t : Int} (ht : 0 ≤ t ∧ t < w 1 4) (hc : cOK w) (h : ∀ j, j < 63 → j ≠ 5 → j ≠ 14 + t.toNat → j ≠ 20 + t.toNat → u j = w j) (h5 : ∀ p, 0 ≤ p → p < 384 → -1 ≤ u 5 p ∧ u 5 p < 6) (hk : tok u (14 + t.toNat) (20 + t.toNat) (26 + t.toNat) (w 1 3)) : cOK u := by
  obtain ⟨k1, k2, k3, k4, k5, k6⟩ := hc
  have e1 := h 1 (by decide) (by decide) (by omega) (by omega)
  have e2 := h 2 (by decide) (by decide) (by omega) (by omega)
  have e3 := h 3 (by decide) (by decide) (by omega) (by omega)
  have e4 := h 4 (by decide) (by decide) (by omega) (by omega)
  unfold cOK
  rw [e1, e2, e3, e4]
  refine ⟨k1, k2, fun p p1 p2 => ⟨(k3 p p1 p2).1, (k3 p p1 p2).2.1, h5 p p1 p2⟩, k4, fun s s1 s2 => ?_, fun y y1 y2 => ?_⟩
  · have es := h (7 + s.toNat) (by omega) (by omega) (by omega) (by omega)
    unfold gok
    rw [e2, e3, es]
    exact k5 s s1 s2
  · by_cases e : y = t
    · rw [e]; exact hk
    · have a1 := h (14 + y.toNat) (by omega) (by omega) (by omega) (by omega)
      have a2 := h (20 + y.toNat) (by omega) (by omega) (by omega) (by omega)
      have a3 := h (26 + y.toNat) (by omega) (by omega) (by omega) (by omega)
      unfold tok
      rw [a1, a2, a3]
      exact k6 y y1 y2
def xmM (w : RW) (t : Int) : RW := upw (cpw (upw (upw w 5 (w (20 + t.toNat) 0 % 512) (-1)) (14 + t.toNat) 1 (w (14 + t.toNat) 1 - 1)) (20 + t.toNat) (20 + t.toNat) 1 0 (w (14 + t.toNat) 1 - 1)) (14 + t.toNat) 9 0
theorem cpw_f {w : RW} {ks kd j : Nat} {a b n : Int} (h : j ≠ kd) : cpw w ks kd a b n j = w j := by
  funext i
  unfold cpw
  exact if_neg (fun z => h z.1)
theorem xmM_f {w : RW} {t : Int} {j : Nat} (h5 : j ≠ 5) (h : j ≠ 14 + t.toNat) (h2 : j ≠ 20 + t.toNat) : xmM w t j = w j := by
  unfold xmM
  rw [upw_f h, cpw_f h2, upw_f h, upw_f h5]
theorem xmM_5 {w : RW} {t i : Int} : xmM w t 5 i = if i = w (20 + t.toNat) 0 % 512 then -1 else w 5 i := by
  unfold xmM
  rw [upw_f (by omega), cpw_f (by omega), upw_f (by omega)]
  unfold upw
  by_cases e : i = w (20 + t.toNat) 0 % 512
  · rw [if_pos ⟨rfl, e⟩, if_pos e]
  · rw [if_neg (fun z => e z.2), if_neg e]
theorem xmM_k {w : RW} {t f : Int} : xmM w t (14 + t.toNat) f = if f = 9 then 0 else if f = 1 then w (14 + t.toNat) 1 - 1 else w (14 + t.toNat) f := by
  unfold xmM
  by_cases e : f = 9
  · rw [e, upw_s, if_pos rfl]
  · rw [upw_i e, if_neg e, cpw_f (by omega)]
    by_cases e2 : f = 1
    · rw [e2, upw_s, if_pos rfl]
    · rw [upw_i e2, if_neg e2, upw_f (by omega)]
theorem xmM_r {w : RW} {t i : Int} (hi : 0 ≤ i) : xmM w t (20 + t.toNat) i = if i < w (14 + t.toNat) 1 - 1 then w (20 + t.toNat) (i + 1) else w (20 + t.toNat) i := by
  unfold xmM
  rw [upw_f (by omega)]
  unfold cpw
  by_cases e : i < w (14 + t.toNat) 1 - 1
  · rw [if_pos ⟨rfl, by omega, by omega⟩, if_pos e, upw_f (by omega), upw_f (by omega)]
    congr 1
    omega
  · rw [if_neg (by omega), if_neg e, upw_f (by omega), upw_f (by omega)]
theorem cOK_mv {w : RW} {t : Int} (ht : 0 ≤ t ∧ t < w 1 4) (hc : cOK w) (h : w (14 + t.toNat) 2 < w (14 + t.toNat) 1) : cOK (xmM w t) := by
  obtain ⟨k1, k2, k3, k4, k5, k6⟩ := hc
  obtain ⟨t1, t2, t3, t4, t5⟩ := k6 t ht.1 ht.2
  refine cOK_t ht ⟨k1, k2, k3, k4, k5, k6⟩ (fun j _ j1 j2 j3 => xmM_f j1 j2 j3) (fun p p1 p2 => ?_) ?_
  · rw [xmM_5]
    have := k3 p p1 p2
    split <;> omega
  · unfold tok
    rw [xmM_f (j := 26 + t.toNat) (by omega) (by omega) (by omega)]
    simp only [xmM_k]
    simp only [show ¬ (1 : Int) = 9 by decide, show ¬ (2 : Int) = 9 by decide, show ¬ (2 : Int) = 1 by decide, show ¬ (3 : Int) = 9 by decide, show ¬ (3 : Int) = 1 by decide, show ¬ (4 : Int) = 9 by decide, show ¬ (4 : Int) = 1 by decide, show ¬ (5 : Int) = 9 by decide, show ¬ (5 : Int) = 1 by decide, show ¬ (7 : Int) = 9 by decide, show ¬ (7 : Int) = 1 by decide, show ¬ (8 : Int) = 9 by decide, show ¬ (8 : Int) = 1 by decide, if_true, if_false]
    refine ⟨by omega, t2, ⟨by omega, by omega, by omega, by omega, Or.inl trivial⟩, fun i i1 i2 => ?_, t5⟩
    rw [xmM_r i1]
    rw [if_pos i2]
    exact t4 _ (by omega) (by omega)
def xmK (w : RW) (t : Int) : Nat → RW
  | 0 => w
  | n + 1 => xmM (xmK w t n) t
theorem xmK_f {w : RW} {t : Int} {j : Nat} (h5 : j ≠ 5) (h : j ≠ 14 + t.toNat) (h2 : j ≠ 20 + t.toNat) : ∀ n, xmK w t n j = w j
  | 0 => rfl
  | n + 1 => by
    show xmM (xmK w t n) t j = _
    rw [xmM_f h5 h h2, xmK_f h5 h h2 n]
theorem xmK_k {w : RW} {t f : Int} (h9 : f ≠ 9) (h1 : f ≠ 1) : ∀ n, xmK w t n (14 + t.toNat) f = w (14 + t.toNat) f
  | 0 => rfl
  | n + 1 => by
    show xmM (xmK w t n) t (14 + t.toNat) f = _
    rw [xmM_k, if_neg h9, if_neg h1, xmK_k h9 h1 n]
theorem xmK_1 (w : RW) (t : Int) : ∀ n : Nat, xmK w t n (14 + t.toNat) 1 = w (14 + t.toNat) 1 - n
  | 0 => by show w (14 + t.toNat) 1 = _; omega
  | n + 1 => by
    show xmM (xmK w t n) t (14 + t.toNat) 1 = _
    rw [xmM_k, if_neg (by decide), if_pos rfl, xmK_1 w t n]; omega
theorem cOK_mvK {w : RW} {t : Int} (ht : 0 ≤ t ∧ t < w 1 4) (hc : cOK w) : ∀ n : Nat, (n : Int) ≤ w (14 + t.toNat) 1 - w (14 + t.toNat) 2 → cOK (xmK w t n)
  | 0, _ => hc
  | n + 1, h => by
    refine cOK_mv (by rw [xmK_f (by omega) (by omega) (by omega)]; exact ht) (cOK_mvK ht hc n (by omega)) ?_
    rw [xmK_1, xmK_k (by decide) (by decide)]
    omega
def xS (v : RW) (t : Int) : Int := nsp (if 3 < v (14 + t.toNat) 3 + 1 then 3 else v (14 + t.toNat) 3 + 1) (v (14 + t.toNat) 1 - v (14 + t.toNat) 2)
def xV (v : RW) (t : Int) : RW := xmK (upw v (14 + t.toNat) 3 (xS v t)) t (xS v t).toNat
noncomputable def xZ (v : RW) (t : Int) : RW := wif (duC (xV v t) t ∧ xV v t (14 + t.toNat) 1 - xV v t (14 + t.toNat) 2 = 0) (upw (upw (xV v t) (14 + t.toNat) 3 0) (14 + t.toNat) 4 2) (xV v t)
theorem cOK_3 {w : RW} {t z : Int} (ht : 0 ≤ t ∧ t < w 1 4) (hc : cOK w) (hz : 0 ≤ z ∧ z ≤ 3) : cOK (upw w (14 + t.toNat) 3 z) := by
  obtain ⟨k1, k2, k3, k4, k5, k6⟩ := hc
  obtain ⟨t1, t2, t3, t4, t5⟩ := k6 t ht.1 ht.2
  refine cOK_t ht ⟨k1, k2, k3, k4, k5, k6⟩ (fun j _ j1 j2 j3 => upw_f j2) (fun p p1 p2 => ?_) ?_
  · rw [upw_f (by omega)]; exact (k3 p p1 p2).2.2
  · unfold tok
    rw [upw_f (k' := 26 + t.toNat) (by omega), upw_f (k' := 20 + t.toNat) (by omega), upw_s, upw_i (i' := 1) (by decide), upw_i (i' := 2) (by decide), upw_i (i' := 4) (by decide), upw_i (i' := 5) (by decide), upw_i (i' := 7) (by decide), upw_i (i' := 8) (by decide), upw_i (i' := 9) (by decide)]
    exact ⟨t1, ⟨hz.1, hz.2, t2.2.2⟩, t3, t4, t5⟩
theorem lpX_advM {G : vG} {X : vX} {Q : State → Prop} {w : RW} {v : RW} {t z : Int} {Post : Int → RW → Prop} (ht : 0 ≤ t ∧ t < v 1 4) (hc : cOK v) (ho : 0 < v (14 + t.toNat) 7) (hz : 0 ≤ z ∧ z ≤ v (14 + t.toNat) 1 - v (14 + t.toNat) 2) (hzs : v (14 + t.toNat) 3 = z) (F : FX G X cX_advance yX_advance.cls 4 5) (hR : RetI G X cX_advance 4 Q Post) (hp : Post z (wif (duC (xmK v t z.toNat) t ∧ xmK v t z.toNat (14 + t.toNat) 1 - xmK v t z.toNat (14 + t.toNat) 2 = 0) (upw (upw (xmK v t z.toNat) (14 + t.toNat) 3 0) (14 + t.toNat) 4 2) (xmK v t z.toNat))) : ∀ (m : Nat) (i : Int), z - i < m → (0 ≤ i) → (i ≤ z) → V G X 4 Q 91 [some (.inr 0), some (.inl t), some (.inr (14 + t.toNat)), some (.inl i)] [] (xmK v t i.toNat) := by
  have k4 := hc.2.2.2.1
  have b0 := tr14_at (i := t) (by omega)
  have b2 := tr14_sh (i := t) (by omega)
  have b3 := rn20_sh (i := t) (by omega)
  have b4 := od26_sh (i := t) (by omega)
  intro m
  induction m with
  | zero => intro i hm0 h1 h2; omega
  | succ m ih =>
    intro i hm0 h1 h2
    have hck : cOK (xmK v t i.toNat) := cOK_mvK ht hc i.toNat (by omega)
    have e1 := xmK_1 v t i.toNat
    have e2 : xmK v t i.toNat (14 + t.toNat) 2 = v (14 + t.toNat) 2 := xmK_k (by decide) (by decide) _
    have e3 : xmK v t i.toNat (14 + t.toNat) 3 = v (14 + t.toNat) 3 := xmK_k (by decide) (by decide) _
    have e7 : xmK v t i.toNat (14 + t.toNat) 7 = v (14 + t.toNat) 7 := xmK_k (by decide) (by decide) _
    have ec : xmK v t i.toNat 1 = v 1 := xmK_f (by omega) (by omega) (by omega) _
    rw [show ((i.toNat : Nat) : Int) = i by omega] at e1
    have htk : 0 ≤ t ∧ t < xmK v t i.toNat 1 4 := by rw [ec]; exact ht
    obtain ⟨t1, t2, t3, t4, t5⟩ := hck.2.2.2.2.2 t htk.1 htk.2
    refine V_iload_n (i := 3) F dX_advance_91 rfl rfl ?_
    refine V_aload_n (i := 2) F dX_advance_92 rfl rfl ?_
    refine V_getiN (ci := 3) (C := R_N) (T := T_N) (N := 10) F dX_advance_93 (by first | rfl | assumption) rfl (j := 3) 3 rfl (by decide) rfl lfX_155 ?_
    refine V_icmp_ge F 130 dX_advance_96 (by decide) (fun h96 => ?_) (fun h96 => ?_)
    · first | (replace h96 := bz_ne0.mp h96) | (replace h96 := bz_eq0.mp h96) | skip
      refine V_aload_n (i := 2) F dX_advance_130 rfl rfl ?_
      refine V_getiN (ci := 3) (C := R_N) (T := T_N) (N := 10) F dX_advance_131 (by first | rfl | assumption) rfl (j := 3) 3 rfl (by decide) rfl lfX_155 ?_
      rw [e3, hzs]
      refine V_istore_n (i := 3) F dX_advance_134 rfl (by decide) (by simp only [List.set_cons_zero, List.set_cons_succ]; exact rfl) ?_
      refine V_aload_n (i := 0) F dX_advance_135 rfl rfl ?_
      refine V_aload_n (i := 2) F dX_advance_136 rfl rfl ?_
      refine V_callVi F dX_advance_137 lmX_234 miX_isDue mvX_isDue (ctX_isDue htk hck (by rw [e7]; exact ho)) (by decide) (by first | rfl | assumption) rfl rfl (Nat.le_of_ble_eq_true rfl) (fun r u hr => ?_)
      obtain ⟨rfl, rfl⟩ := hr
      refine V_if_eq F 160 dX_advance_140 (by decide) (fun h140 => ?_) (fun h140 => ?_)
      · first | (replace h140 := bz_ne0.mp h140) | (replace h140 := bz_eq0.mp h140) | skip
        refine V_iload_n (i := 3) F dX_advance_160 rfl rfl ?_
        exact hR _ _ _ _ dX_advance_161 (by
                      have hi : i = z := by omega
                      subst hi
                      first
                      | (rw [wif_t ⟨h140, h147⟩] at hp; exact hp)
                      | (rw [wif_f (fun z => h147 z.2)] at hp; exact hp)
                      | (rw [wif_f (fun z => h140 z.1)] at hp; exact hp))
      · first | (replace h140 := bz_ne0.mp h140) | (replace h140 := bz_eq0.mp h140) | skip
        refine V_aload_n (i := 2) F dX_advance_143 rfl rfl ?_
        refine V_callVi F dX_advance_144 lmX_161 miN_ahead mvN_ahead (ctN_ahead b2 b3 b4 (by omega)) (by decide) (by first | rfl | assumption) rfl rfl (Nat.le_of_ble_eq_true rfl) (fun r u hr => ?_)
        obtain ⟨rfl, rfl⟩ := hr
        refine V_if_ne F 160 dX_advance_147 (by decide) (fun h147 => ?_) (fun h147 => ?_)
        · first | (replace h147 := bz_ne0.mp h147) | (replace h147 := bz_eq0.mp h147) | skip
          refine V_iload_n (i := 3) F dX_advance_160 rfl rfl ?_
          exact hR _ _ _ _ dX_advance_161 (by
                        have hi : i = z := by omega
                        subst hi
                        first
                        | (rw [wif_t ⟨h140, h147⟩] at hp; exact hp)
                        | (rw [wif_f (fun z => h147 z.2)] at hp; exact hp)
                        | (rw [wif_f (fun z => h140 z.1)] at hp; exact hp))
        · first | (replace h147 := bz_ne0.mp h147) | (replace h147 := bz_eq0.mp h147) | skip
          refine V_aload_n (i := 2) F dX_advance_150 rfl rfl ?_
          refine V_iconst F dX_advance_151 (by decide) ?_
          refine V_putiN (ci := 3) (C := R_N) (T := T_N) (N := 10) F dX_advance_152 (by first | rfl | assumption) rfl (j := 3) 3 rfl (by decide) rfl rfl rfl lfX_155 ?_
          refine V_aload_n (i := 2) F dX_advance_155 rfl rfl ?_
          refine V_iconst F dX_advance_156 (by decide) ?_
          refine V_putiN (ci := 3) (C := R_N) (T := T_N) (N := 10) F dX_advance_157 (by first | rfl | assumption) rfl (j := 4) 4 rfl (by decide) rfl rfl rfl lfX_158 ?_
          refine V_iload_n (i := 3) F dX_advance_160 rfl rfl ?_
          exact hR _ _ _ _ dX_advance_161 (by
                        have hi : i = z := by omega
                        subst hi
                        first
                        | (rw [wif_t ⟨h140, h147⟩] at hp; exact hp)
                        | (rw [wif_f (fun z => h147 z.2)] at hp; exact hp)
                        | (rw [wif_f (fun z => h140 z.1)] at hp; exact hp))
    · first | (replace h96 := bz_ne0.mp h96) | (replace h96 := bz_eq0.mp h96) | skip
      have hk := t4 0 (by omega) (by omega)
      obtain ⟨o1, o2, o3, o4, o5⟩ := hk
      refine V_aload_n (i := 0) F dX_advance_99 rfl rfl ?_
      refine V_getr (ci := 6) (C := R_X) (T := T_X) (N := 5) F dX_advance_100 (by first | rfl | assumption) rfl (j := 0) (by decide) rfl lfX_41 ?_
      refine V_getrN (ci := 5) (C := R_Y) (T := T_Y) (N := 8) F dX_advance_103 (by first | rfl | assumption) rfl (j := 0) (by decide) rfl lfX_48 ?_
      refine V_getrN (ci := 0) (C := R_G) (T := T_G) (N := 5) F dX_advance_106 (by first | rfl | assumption) rfl (j := 4) (by decide) rfl lfX_190 ?_
      refine V_aload_n (i := 2) F dX_advance_109 rfl rfl ?_
      refine V_getrN (ci := 3) (C := R_N) (T := T_N) (N := 10) F dX_advance_110 (by first | rfl | assumption) rfl (j := 0) (by decide) rfl lfX_166 ?_
      refine V_iconst F dX_advance_113 (by decide) ?_
      first
        | refine V_sald F dX_advance_114 (by decide) (by omega) (stt_in _ _) ?_
        | refine V_iald F dX_advance_114 (by first | rfl | assumption) rfl (by omega) ?_
      refine V_callSi F dX_advance_115 lmX_169 miS_placeOf msS_placeOf (ctS_placeOf (by omega)) (by decide) rfl (Nat.le_of_ble_eq_true rfl) (fun r u hr => ?_)
      obtain ⟨rfl, rfl⟩ := hr
      refine V_iconst F dX_advance_118 (by decide) ?_
      refine V_iast F dX_advance_119 (by first | rfl | assumption) rfl (by omega) ?_
      refine V_aload_n (i := 2) F dX_advance_120 rfl rfl ?_
      refine V_callVv F dX_advance_121 lmX_243 miN_moveOn mvN_moveOn (ctN_moveOn b2 b3 b4 (by omega) (by rw [upw_f (by omega)]; omega)) (by decide) (by first | rfl | assumption) rfl rfl (Nat.le_of_ble_eq_true rfl) (fun u hr => ?_)
      subst hr
      refine V_iinc F dX_advance_124 (by decide) rfl (by omega) (by simp only [List.set_cons_zero, List.set_cons_succ]; exact rfl) ?_
      refine V_goto F 91 dX_advance_127 (by decide) ?_
      have hn : (i + 1).toNat = i.toNat + 1 := by omega
      have := ih (i + 1) (by omega) (by omega) (by omega)
      rw [hn] at this
      rw [upw_f (show (14 + t.toNat) ≠ 5 by omega)]
      exact this
theorem lpX_adv81 {G : vG} {X : vX} {Q : State → Prop} {w v : RW} {t : Int} {Post : Int → RW → Prop} (ht : 0 ≤ t ∧ t < v 1 4) (hc : cOK v) (ho : 0 < v (14 + t.toNat) 7) (F : FX G X cX_advance yX_advance.cls 4 5) (hR : RetI G X cX_advance 4 Q Post) (hp : Post (xS v t) (xZ v t)) : V G X 4 Q 81 [some (.inr 0), some (.inl t), some (.inr (14 + t.toNat)), none] [] v := by
  have k4 := hc.2.2.2.1
  obtain ⟨t1, t2, t3, t4, t5⟩ := hc.2.2.2.2.2 t ht.1 ht.2
  have b2 := tr14_sh (i := t) (by omega)
  have b3 := rn20_sh (i := t) (by omega)
  have b4 := od26_sh (i := t) (by omega)
  refine V_aload_n (i := 2) F dX_advance_81 rfl rfl ?_
  refine V_aload_n (i := 2) F dX_advance_82 rfl rfl ?_
  refine V_callVi F dX_advance_83 lmX_240 miN_nextSpeed mvN_nextSpeed (ctN_nextSpeed b2 b3 b4 (by omega) (by omega)) (by decide) (by first | rfl | assumption) rfl rfl (Nat.le_of_ble_eq_true rfl) (fun r u hr => ?_)
  obtain ⟨rfl, rfl⟩ := hr
  show V _ _ _ _ _ _ (.inl (xS v t) :: _) _
  refine V_putiN (ci := 3) (C := R_N) (T := T_N) (N := 10) F dX_advance_86 (by first | rfl | assumption) rfl (j := 3) 3 rfl (by decide) rfl rfl rfl lfX_155 ?_
  refine V_iconst F dX_advance_89 (by decide) ?_
  refine V_istore_n (i := 3) F dX_advance_90 rfl (by decide) (by simp only [List.set_cons_zero, List.set_cons_succ]; exact rfl) ?_
  have hsr : 0 ≤ xS v t ∧ xS v t ≤ 3 ∧ xS v t ≤ v (14 + t.toNat) 1 - v (14 + t.toNat) 2 := nsp_rng (by omega)
  exact lpX_advM (w := w) (v := upw v (14 + t.toNat) 3 (xS v t)) (z := xS v t) (by rw [upw_f (by omega)]; exact ht) (cOK_3 ht hc (by omega)) (by rw [upw_i (by decide)]; exact ho) (by rw [upw_i (i' := 1) (by decide), upw_i (i' := 2) (by decide)]; omega) (upw_s _ _ _ _) F hR hp 4 0 (by omega) (by omega) (by omega)
def rgX (w v : RW) (t : Int) : Prop := (¬ (¬ duC w t ∧ w (14 + t.toNat) 1 - w (14 + t.toNat) 2 < 6) ∧ v = w) ∨ ((¬ duC w t ∧ w (14 + t.toNat) 1 - w (14 + t.toNat) 2 < 6) ∧ ∃ u f, mqP w u t f ∧ ((¬ f = 0 ∧ v = u) ∨ (f = 0 ∧ ∃ u2, hoI u u2 t (u 73 2) ∧ rvI u2 v (14 + t.toNat) (20 + t.toNat) (u 73 2))))
/-- behind what one tick does to one train -/
def advC (w u : RW) (t r : Int) : Prop := (w (14 + t.toNat) 7 = 0 ∧ r = 0 ∧ w = u) ∨ (0 < w (14 + t.toNat) 7 ∧ 0 < w (14 + t.toNat) 4 ∧ r = 0 ∧ ldX w t = u) ∨ (0 < w (14 + t.toNat) 7 ∧ w (14 + t.toNat) 4 ≤ 0 ∧ ∃ v, rgX w v t ∧ r = xS v t ∧ u = xZ v t)
theorem mqP_frame {w u : RW} {t r : Int} (hs : 0 ≤ gTr w t ∧ gTr w t < 6) (h : mqP w u t r) : (∀ j, j < 63 ∨ 76 ≤ j → u j = w j) ∧ (0 ≤ u 73 2 ∧ u 73 2 ≤ 257) ∧ ∀ j, 0 ≤ j → j < u 73 2 → okR (u 74 j) := by
  obtain ⟨v, u1, h1, h2, h3, h4⟩ := h
  have hf := lnP_frame h1
  rw [h4 73 (by decide), h4 74 (by decide)]
  exact ⟨fun j hj => by rw [h4 j (by omega), h2.1 j (by omega) (by omega), hf j (by omega) (by omega) (by omega) (by omega)], h2.2.1, fun j j1 j2 => (h2.2.2.1 j j1 j2).1⟩
theorem ctX_advance {G : vG} {l : Launch} {w : RW} {t : Int} (ht : 0 ≤ t ∧ t < w 1 4) (hc : cOK w) (hw : wOK w) (hb : 0 ≤ w 1 6 ∧ w 1 6 ≤ 1000000000) (hcap : 0 < w (14 + t.toNat) 7 → ∀ u, mqP w u t 0 → w (14 + t.toNat) 1 + u 73 2 ≤ 96) : CTi G l yX_advance cX_advance 4 .int 5 [.inr 0, .inl t] w (fun r u => advC w u t r) := by
  refine CTi.int (by decide) (Nat.le_of_ble_eq_true rfl) ?_
  intro X Q F hX hR
  subst hX
  show V G X 4 Q 0 [some (.inr 0), some (.inl t), none, none] [] w
  have hc0 := hc
  obtain ⟨k1, k2, k3, k4, k5, k6⟩ := hc
  obtain ⟨t1, t2, t3, t4, t5⟩ := k6 t ht.1 ht.2
  have b0 := tr14_at (i := t) (by omega)
  have b2 := tr14_sh (i := t) (by omega)
  have b3 := rn20_sh (i := t) (by omega)
  have b4 := od26_sh (i := t) (by omega)
  refine V_aload_n (i := 0) F dX_advance_0 rfl rfl ?_
  refine V_getr (ci := 6) (C := R_X) (T := T_X) (N := 5) F dX_advance_1 (by first | rfl | assumption) rfl (j := 0) (by decide) rfl lfX_41 ?_
  refine V_getrN (ci := 5) (C := R_Y) (T := T_Y) (N := 8) F dX_advance_4 (by first | rfl | assumption) rfl (j := 2) (by decide) rfl lfX_129 ?_
  refine V_iload_n (i := 1) F dX_advance_7 rfl rfl ?_
  first
    | refine V_aald F dX_advance_8 (by first | rfl | assumption) rfl (by omega) (by first | rfl | assumption) ?_
    | refine V_aaldA F dX_advance_8 (by first | rfl | assumption) rfl (by omega) (by first | rfl | assumption) ?_
  refine V_astore_n (i := 2) F dX_advance_9 rfl (by decide) (by simp only [List.set_cons_zero, List.set_cons_succ]; exact rfl) ?_
  refine V_aload_n (i := 2) F dX_advance_10 rfl rfl ?_
  refine V_getiN (ci := 3) (C := R_N) (T := T_N) (N := 10) F dX_advance_11 (by first | rfl | assumption) rfl (j := 7) 7 rfl (by decide) rfl lfX_149 ?_
  refine V_if_ne F 19 dX_advance_14 (by decide) (fun h14 => ?_) (fun h14 => ?_)
  · first | (replace h14 := bz_ne0.mp h14) | (replace h14 := bz_eq0.mp h14) | skip
    refine V_aload_n (i := 2) F dX_advance_19 rfl rfl ?_
    refine V_getiN (ci := 3) (C := R_N) (T := T_N) (N := 10) F dX_advance_20 (by first | rfl | assumption) rfl (j := 4) 4 rfl (by decide) rfl lfX_158 ?_
    refine V_if_le F 33 dX_advance_23 (by decide) (fun h23 => ?_) (fun h23 => ?_)
    · first | (replace h23 := bz_ne0.mp h23) | (replace h23 := bz_eq0.mp h23) | skip
      refine V_aload_n (i := 0) F dX_advance_33 rfl rfl ?_
      refine V_aload_n (i := 2) F dX_advance_34 rfl rfl ?_
      refine V_callVi F dX_advance_35 lmX_234 miX_isDue mvX_isDue (ctX_isDue ht hc0 (by omega)) (by decide) (by first | rfl | assumption) rfl rfl (Nat.le_of_ble_eq_true rfl) (fun r u hr => ?_)
      obtain ⟨rfl, rfl⟩ := hr
      refine V_if_ne F 81 dX_advance_38 (by decide) (fun h38 => ?_) (fun h38 => ?_)
      · first | (replace h38 := bz_ne0.mp h38) | (replace h38 := bz_eq0.mp h38) | skip
        first
        | (have hg3 : rvI u2 u3 (14 + t.toNat) (20 + t.toNat) (u1 73 2) := h3
           have fr : ∀ j, j < 63 → j ≠ 5 → j ≠ 14 + t.toNat → j ≠ 20 + t.toNat → u3 j = w j := fun j j0 j1 j2 j3 => by rw [h3.1 j j2 j3, h2.1 j j1, hfr.1 j (Or.inl j0)]
           have ek7 : ∀ f, f ≠ 1 → u3 (14 + t.toNat) f = w (14 + t.toNat) f := fun f hf => by rw [h3.2.1.2 f hf, ek]
           have ek1 : u3 (14 + t.toNat) 1 = w (14 + t.toNat) 1 + u1 73 2 := by rw [h3.2.1.1, ek]
           have er : u2 (20 + t.toNat) = w (20 + t.toNat) := by rw [h2.1 _ (by omega), hfr.1 _ (by omega)]
           have e74 : u2 74 = u1 74 := h2.1 74 (by decide)
           have hc3 : cOK u3 := by
             refine cOK_t ht hc0 fr (fun p p1 p2 => ?_) ?_
             · rw [h3.1 5 (by omega) (by omega)]
               by_cases e : ∃ i, 0 ≤ i ∧ i < u1 73 2 ∧ u1 74 i % 512 = p
               · obtain ⟨i, i1, i2, i3⟩ := e
                 rw [← i3, h2.2.1 i i1 i2]; omega
               · rw [h2.2.2 p (fun i i1 i2 i3 => e ⟨i, i1, i2, i3⟩), hfr.1 5 (by decide)]; exact (k3 p p1 p2).2.2
             · unfold tok
               rw [fr (26 + t.toNat) (by omega) (by omega) (by omega) (by omega), ek1, ek7 2 (by decide), ek7 3 (by decide), ek7 4 (by decide), ek7 5 (by decide), ek7 7 (by decide), ek7 8 (by decide), ek7 9 (by decide)]
               refine ⟨by omega, t2, t3, fun i i1 i2 => ?_, t5⟩
               by_cases e : i < w (14 + t.toNat) 1
               · rw [h3.2.2.2 i (by rw [ek]; exact e), er]; exact t4 i i1 e
               · have := h3.2.2.1 (i - w (14 + t.toNat) 1) (by omega) (by omega)
                 rw [ek, show w (14 + t.toNat) 1 + (i - w (14 + t.toNat) 1) = i by omega, e74] at this
                 rw [this]
                 exact hfr.2.2 _ (by omega) (by omega)
           exact lpX_adv81 (w := w) (v := u3) (by rw [fr 1 (by decide) (by decide) (by omega) (by omega)]; exact ht) hc3 (by rw [ek7 7 (by decide)]; omega) F hR (Or.inr (Or.inr ⟨by omega, h23, u3, Or.inr ⟨⟨h38, by omega⟩, u1, f, hf, Or.inr ⟨h55, u2, h2, h3⟩⟩, rfl, rfl⟩)))
        | (have hg3 : ¬ f = 0 := h55
           have hcu : cOK u1 := by
             refine cOK_t ht hc0 (fun j j0 _ _ _ => hfr.1 j (Or.inl j0)) (fun p p1 p2 => by rw [hfr.1 5 (by decide)]; exact (k3 p p1 p2).2.2) ?_
             unfold tok
             rw [hfr.1 (14 + t.toNat) (by omega), hfr.1 (20 + t.toNat) (by omega), hfr.1 (26 + t.toNat) (by omega)]
             exact k6 t ht.1 ht.2
           exact lpX_adv81 (w := w) (v := u1) (by rw [hfr.1 1 (by decide)]; exact ht) hcu (by rw [hfr.1 (14 + t.toNat) (by omega)]; omega) F hR (Or.inr (Or.inr ⟨by omega, h23, u1, Or.inr ⟨⟨h38, by omega⟩, u1, f, hf, Or.inl ⟨h55, rfl⟩⟩, rfl, rfl⟩)))
        | exact lpX_adv81 (w := w) (v := w) ht hc0 (by omega) F hR (Or.inr (Or.inr ⟨by omega, h23, w, Or.inl ⟨fun z => z.1 h38, rfl⟩, rfl, rfl⟩))
        | exact lpX_adv81 (w := w) (v := w) ht hc0 (by omega) F hR (Or.inr (Or.inr ⟨by omega, h23, w, Or.inl ⟨fun z => by omega, rfl⟩, rfl, rfl⟩))
      · first | (replace h38 := bz_ne0.mp h38) | (replace h38 := bz_eq0.mp h38) | skip
        refine V_aload_n (i := 2) F dX_advance_41 rfl rfl ?_
        refine V_callVi F dX_advance_42 lmX_161 miN_ahead mvN_ahead (ctN_ahead b2 b3 b4 (by omega)) (by decide) (by first | rfl | assumption) rfl rfl (Nat.le_of_ble_eq_true rfl) (fun r u hr => ?_)
        obtain ⟨rfl, rfl⟩ := hr
        refine V_bipush F dX_advance_45 (by decide) ?_
        refine V_icmp_ge F 81 dX_advance_47 (by decide) (fun h47 => ?_) (fun h47 => ?_)
        · first | (replace h47 := bz_ne0.mp h47) | (replace h47 := bz_eq0.mp h47) | skip
          first
          | (have hg3 : rvI u2 u3 (14 + t.toNat) (20 + t.toNat) (u1 73 2) := h3
             have fr : ∀ j, j < 63 → j ≠ 5 → j ≠ 14 + t.toNat → j ≠ 20 + t.toNat → u3 j = w j := fun j j0 j1 j2 j3 => by rw [h3.1 j j2 j3, h2.1 j j1, hfr.1 j (Or.inl j0)]
             have ek7 : ∀ f, f ≠ 1 → u3 (14 + t.toNat) f = w (14 + t.toNat) f := fun f hf => by rw [h3.2.1.2 f hf, ek]
             have ek1 : u3 (14 + t.toNat) 1 = w (14 + t.toNat) 1 + u1 73 2 := by rw [h3.2.1.1, ek]
             have er : u2 (20 + t.toNat) = w (20 + t.toNat) := by rw [h2.1 _ (by omega), hfr.1 _ (by omega)]
             have e74 : u2 74 = u1 74 := h2.1 74 (by decide)
             have hc3 : cOK u3 := by
               refine cOK_t ht hc0 fr (fun p p1 p2 => ?_) ?_
               · rw [h3.1 5 (by omega) (by omega)]
                 by_cases e : ∃ i, 0 ≤ i ∧ i < u1 73 2 ∧ u1 74 i % 512 = p
                 · obtain ⟨i, i1, i2, i3⟩ := e
                   rw [← i3, h2.2.1 i i1 i2]; omega
                 · rw [h2.2.2 p (fun i i1 i2 i3 => e ⟨i, i1, i2, i3⟩), hfr.1 5 (by decide)]; exact (k3 p p1 p2).2.2
               · unfold tok
                 rw [fr (26 + t.toNat) (by omega) (by omega) (by omega) (by omega), ek1, ek7 2 (by decide), ek7 3 (by decide), ek7 4 (by decide), ek7 5 (by decide), ek7 7 (by decide), ek7 8 (by decide), ek7 9 (by decide)]
                 refine ⟨by omega, t2, t3, fun i i1 i2 => ?_, t5⟩
                 by_cases e : i < w (14 + t.toNat) 1
                 · rw [h3.2.2.2 i (by rw [ek]; exact e), er]; exact t4 i i1 e
                 · have := h3.2.2.1 (i - w (14 + t.toNat) 1) (by omega) (by omega)
                   rw [ek, show w (14 + t.toNat) 1 + (i - w (14 + t.toNat) 1) = i by omega, e74] at this
                   rw [this]
                   exact hfr.2.2 _ (by omega) (by omega)
             exact lpX_adv81 (w := w) (v := u3) (by rw [fr 1 (by decide) (by decide) (by omega) (by omega)]; exact ht) hc3 (by rw [ek7 7 (by decide)]; omega) F hR (Or.inr (Or.inr ⟨by omega, h23, u3, Or.inr ⟨⟨h38, by omega⟩, u1, f, hf, Or.inr ⟨h55, u2, h2, h3⟩⟩, rfl, rfl⟩)))
          | (have hg3 : ¬ f = 0 := h55
             have hcu : cOK u1 := by
               refine cOK_t ht hc0 (fun j j0 _ _ _ => hfr.1 j (Or.inl j0)) (fun p p1 p2 => by rw [hfr.1 5 (by decide)]; exact (k3 p p1 p2).2.2) ?_
               unfold tok
               rw [hfr.1 (14 + t.toNat) (by omega), hfr.1 (20 + t.toNat) (by omega), hfr.1 (26 + t.toNat) (by omega)]
               exact k6 t ht.1 ht.2
             exact lpX_adv81 (w := w) (v := u1) (by rw [hfr.1 1 (by decide)]; exact ht) hcu (by rw [hfr.1 (14 + t.toNat) (by omega)]; omega) F hR (Or.inr (Or.inr ⟨by omega, h23, u1, Or.inr ⟨⟨h38, by omega⟩, u1, f, hf, Or.inl ⟨h55, rfl⟩⟩, rfl, rfl⟩)))
          | exact lpX_adv81 (w := w) (v := w) ht hc0 (by omega) F hR (Or.inr (Or.inr ⟨by omega, h23, w, Or.inl ⟨fun z => z.1 h38, rfl⟩, rfl, rfl⟩))
          | exact lpX_adv81 (w := w) (v := w) ht hc0 (by omega) F hR (Or.inr (Or.inr ⟨by omega, h23, w, Or.inl ⟨fun z => by omega, rfl⟩, rfl, rfl⟩))
        · first | (replace h47 := bz_ne0.mp h47) | (replace h47 := bz_eq0.mp h47) | skip
          refine V_aload_n (i := 0) F dX_advance_50 rfl rfl ?_
          refine V_iload_n (i := 1) F dX_advance_51 rfl rfl ?_
          refine V_callVi F dX_advance_52 lmX_220 miX_makeRequest mvX_makeRequest (ctX_makeRequest ht hc0 (by omega) hw) (by decide) (by first | rfl | assumption) rfl rfl (Nat.le_of_ble_eq_true rfl) (fun f u1 hf => ?_)
          have hg : 0 ≤ gTr w t ∧ gTr w t < w 1 3 := t5 _ (by omega) (by omega)
          have hfr := mqP_frame (by omega) hf
          refine V_if_ne F 81 dX_advance_55 (by decide) (fun h55 => ?_) (fun h55 => ?_)
          · first | (replace h55 := bz_ne0.mp h55) | (replace h55 := bz_eq0.mp h55) | skip
            first
            | (have hg3 : rvI u2 u3 (14 + t.toNat) (20 + t.toNat) (u1 73 2) := h3
               have fr : ∀ j, j < 63 → j ≠ 5 → j ≠ 14 + t.toNat → j ≠ 20 + t.toNat → u3 j = w j := fun j j0 j1 j2 j3 => by rw [h3.1 j j2 j3, h2.1 j j1, hfr.1 j (Or.inl j0)]
               have ek7 : ∀ f, f ≠ 1 → u3 (14 + t.toNat) f = w (14 + t.toNat) f := fun f hf => by rw [h3.2.1.2 f hf, ek]
               have ek1 : u3 (14 + t.toNat) 1 = w (14 + t.toNat) 1 + u1 73 2 := by rw [h3.2.1.1, ek]
               have er : u2 (20 + t.toNat) = w (20 + t.toNat) := by rw [h2.1 _ (by omega), hfr.1 _ (by omega)]
               have e74 : u2 74 = u1 74 := h2.1 74 (by decide)
               have hc3 : cOK u3 := by
                 refine cOK_t ht hc0 fr (fun p p1 p2 => ?_) ?_
                 · rw [h3.1 5 (by omega) (by omega)]
                   by_cases e : ∃ i, 0 ≤ i ∧ i < u1 73 2 ∧ u1 74 i % 512 = p
                   · obtain ⟨i, i1, i2, i3⟩ := e
                     rw [← i3, h2.2.1 i i1 i2]; omega
                   · rw [h2.2.2 p (fun i i1 i2 i3 => e ⟨i, i1, i2, i3⟩), hfr.1 5 (by decide)]; exact (k3 p p1 p2).2.2
                 · unfold tok
                   rw [fr (26 + t.toNat) (by omega) (by omega) (by omega) (by omega), ek1, ek7 2 (by decide), ek7 3 (by decide), ek7 4 (by decide), ek7 5 (by decide), ek7 7 (by decide), ek7 8 (by decide), ek7 9 (by decide)]
                   refine ⟨by omega, t2, t3, fun i i1 i2 => ?_, t5⟩
                   by_cases e : i < w (14 + t.toNat) 1
                   · rw [h3.2.2.2 i (by rw [ek]; exact e), er]; exact t4 i i1 e
                   · have := h3.2.2.1 (i - w (14 + t.toNat) 1) (by omega) (by omega)
                     rw [ek, show w (14 + t.toNat) 1 + (i - w (14 + t.toNat) 1) = i by omega, e74] at this
                     rw [this]
                     exact hfr.2.2 _ (by omega) (by omega)
               exact lpX_adv81 (w := w) (v := u3) (by rw [fr 1 (by decide) (by decide) (by omega) (by omega)]; exact ht) hc3 (by rw [ek7 7 (by decide)]; omega) F hR (Or.inr (Or.inr ⟨by omega, h23, u3, Or.inr ⟨⟨h38, by omega⟩, u1, f, hf, Or.inr ⟨h55, u2, h2, h3⟩⟩, rfl, rfl⟩)))
            | (have hg3 : ¬ f = 0 := h55
               have hcu : cOK u1 := by
                 refine cOK_t ht hc0 (fun j j0 _ _ _ => hfr.1 j (Or.inl j0)) (fun p p1 p2 => by rw [hfr.1 5 (by decide)]; exact (k3 p p1 p2).2.2) ?_
                 unfold tok
                 rw [hfr.1 (14 + t.toNat) (by omega), hfr.1 (20 + t.toNat) (by omega), hfr.1 (26 + t.toNat) (by omega)]
                 exact k6 t ht.1 ht.2
               exact lpX_adv81 (w := w) (v := u1) (by rw [hfr.1 1 (by decide)]; exact ht) hcu (by rw [hfr.1 (14 + t.toNat) (by omega)]; omega) F hR (Or.inr (Or.inr ⟨by omega, h23, u1, Or.inr ⟨⟨h38, by omega⟩, u1, f, hf, Or.inl ⟨h55, rfl⟩⟩, rfl, rfl⟩)))
            | exact lpX_adv81 (w := w) (v := w) ht hc0 (by omega) F hR (Or.inr (Or.inr ⟨by omega, h23, w, Or.inl ⟨fun z => z.1 h38, rfl⟩, rfl, rfl⟩))
            | exact lpX_adv81 (w := w) (v := w) ht hc0 (by omega) F hR (Or.inr (Or.inr ⟨by omega, h23, w, Or.inl ⟨fun z => by omega, rfl⟩, rfl, rfl⟩))
          · first | (replace h55 := bz_ne0.mp h55) | (replace h55 := bz_eq0.mp h55) | skip
            refine V_aload_n (i := 0) F dX_advance_58 rfl rfl ?_
            refine V_getr (ci := 6) (C := R_X) (T := T_X) (N := 5) F dX_advance_59 (by first | rfl | assumption) rfl (j := 3) (by decide) rfl lfX_19 ?_
            refine V_aload_n (i := 0) F dX_advance_62 rfl rfl ?_
            refine V_getr (ci := 6) (C := R_X) (T := T_X) (N := 5) F dX_advance_63 (by first | rfl | assumption) rfl (j := 0) (by decide) rfl lfX_41 ?_
            refine V_getrN (ci := 5) (C := R_Y) (T := T_Y) (N := 8) F dX_advance_66 (by first | rfl | assumption) rfl (j := 0) (by decide) rfl lfX_48 ?_
            refine V_iload_n (i := 1) F dX_advance_69 rfl rfl ?_
            refine V_callVv F dX_advance_70 lmX_139 miR_hold mvR_hold (ctR_hold (w := u1) hfr.2.1 hfr.2.2) (by decide) (by first | rfl | assumption) rfl rfl (Nat.le_of_ble_eq_true rfl) (fun u2 h2 => ?_)
            have e73 := h2.1 73 (by decide)
            have ek : u2 (14 + t.toNat) = w (14 + t.toNat) := by rw [h2.1 _ (by omega), hfr.1 _ (by omega)]
            have hca : w (14 + t.toNat) 1 + u1 73 2 ≤ 96 := hcap (by omega) u1 (by rw [h55] at hf; exact hf)
            have hfr1 := hfr.2.1
            refine V_aload_n (i := 2) F dX_advance_73 rfl rfl ?_
            refine V_aload_n (i := 0) F dX_advance_74 rfl rfl ?_
            refine V_getr (ci := 6) (C := R_X) (T := T_X) (N := 5) F dX_advance_75 (by first | rfl | assumption) rfl (j := 3) (by decide) rfl lfX_19 ?_
            refine V_callVv F dX_advance_78 lmX_237 miN_reserve mvN_reserve (ctN_reserve (w := u2) b2 b3 b4 (by omega) (by rw [e73, ek]; omega)) (by decide) (by first | rfl | assumption) rfl rfl (Nat.le_of_ble_eq_true rfl) (fun u3 h3 => ?_)
            rw [e73] at h3
            first
            | (have hg3 : rvI u2 u3 (14 + t.toNat) (20 + t.toNat) (u1 73 2) := h3
               have fr : ∀ j, j < 63 → j ≠ 5 → j ≠ 14 + t.toNat → j ≠ 20 + t.toNat → u3 j = w j := fun j j0 j1 j2 j3 => by rw [h3.1 j j2 j3, h2.1 j j1, hfr.1 j (Or.inl j0)]
               have ek7 : ∀ f, f ≠ 1 → u3 (14 + t.toNat) f = w (14 + t.toNat) f := fun f hf => by rw [h3.2.1.2 f hf, ek]
               have ek1 : u3 (14 + t.toNat) 1 = w (14 + t.toNat) 1 + u1 73 2 := by rw [h3.2.1.1, ek]
               have er : u2 (20 + t.toNat) = w (20 + t.toNat) := by rw [h2.1 _ (by omega), hfr.1 _ (by omega)]
               have e74 : u2 74 = u1 74 := h2.1 74 (by decide)
               have hc3 : cOK u3 := by
                 refine cOK_t ht hc0 fr (fun p p1 p2 => ?_) ?_
                 · rw [h3.1 5 (by omega) (by omega)]
                   by_cases e : ∃ i, 0 ≤ i ∧ i < u1 73 2 ∧ u1 74 i % 512 = p
                   · obtain ⟨i, i1, i2, i3⟩ := e
                     rw [← i3, h2.2.1 i i1 i2]; omega
                   · rw [h2.2.2 p (fun i i1 i2 i3 => e ⟨i, i1, i2, i3⟩), hfr.1 5 (by decide)]; exact (k3 p p1 p2).2.2
                 · unfold tok
                   rw [fr (26 + t.toNat) (by omega) (by omega) (by omega) (by omega), ek1, ek7 2 (by decide), ek7 3 (by decide), ek7 4 (by decide), ek7 5 (by decide), ek7 7 (by decide), ek7 8 (by decide), ek7 9 (by decide)]
                   refine ⟨by omega, t2, t3, fun i i1 i2 => ?_, t5⟩
                   by_cases e : i < w (14 + t.toNat) 1
                   · rw [h3.2.2.2 i (by rw [ek]; exact e), er]; exact t4 i i1 e
                   · have := h3.2.2.1 (i - w (14 + t.toNat) 1) (by omega) (by omega)
                     rw [ek, show w (14 + t.toNat) 1 + (i - w (14 + t.toNat) 1) = i by omega, e74] at this
                     rw [this]
                     exact hfr.2.2 _ (by omega) (by omega)
               exact lpX_adv81 (w := w) (v := u3) (by rw [fr 1 (by decide) (by decide) (by omega) (by omega)]; exact ht) hc3 (by rw [ek7 7 (by decide)]; omega) F hR (Or.inr (Or.inr ⟨by omega, h23, u3, Or.inr ⟨⟨h38, by omega⟩, u1, f, hf, Or.inr ⟨h55, u2, h2, h3⟩⟩, rfl, rfl⟩)))
            | (have hg3 : ¬ f = 0 := h55
               have hcu : cOK u1 := by
                 refine cOK_t ht hc0 (fun j j0 _ _ _ => hfr.1 j (Or.inl j0)) (fun p p1 p2 => by rw [hfr.1 5 (by decide)]; exact (k3 p p1 p2).2.2) ?_
                 unfold tok
                 rw [hfr.1 (14 + t.toNat) (by omega), hfr.1 (20 + t.toNat) (by omega), hfr.1 (26 + t.toNat) (by omega)]
                 exact k6 t ht.1 ht.2
               exact lpX_adv81 (w := w) (v := u1) (by rw [hfr.1 1 (by decide)]; exact ht) hcu (by rw [hfr.1 (14 + t.toNat) (by omega)]; omega) F hR (Or.inr (Or.inr ⟨by omega, h23, u1, Or.inr ⟨⟨h38, by omega⟩, u1, f, hf, Or.inl ⟨h55, rfl⟩⟩, rfl, rfl⟩)))
            | exact lpX_adv81 (w := w) (v := w) ht hc0 (by omega) F hR (Or.inr (Or.inr ⟨by omega, h23, w, Or.inl ⟨fun z => z.1 h38, rfl⟩, rfl, rfl⟩))
            | exact lpX_adv81 (w := w) (v := w) ht hc0 (by omega) F hR (Or.inr (Or.inr ⟨by omega, h23, w, Or.inl ⟨fun z => by omega, rfl⟩, rfl, rfl⟩))
    · first | (replace h23 := bz_ne0.mp h23) | (replace h23 := bz_eq0.mp h23) | skip
      refine V_aload_n (i := 0) F dX_advance_26 rfl rfl ?_
      refine V_aload_n (i := 2) F dX_advance_27 rfl rfl ?_
      refine V_callVv F dX_advance_28 lmX_230 miX_goOnLoading mvX_goOnLoading (ctX_goOnLoading ht hc0 (by omega) (by omega) hb) (by decide) (by first | rfl | assumption) rfl rfl (Nat.le_of_ble_eq_true rfl) (fun u hr => ?_)
      subst hr
      refine V_iconst F dX_advance_31 (by decide) ?_
      exact hR _ _ _ _ dX_advance_32 (by
                    first
                    | exact Or.inl ⟨h14, rfl, rfl⟩
                    | exact Or.inr (Or.inl ⟨by omega, by omega, rfl, rfl⟩))
  · first | (replace h14 := bz_ne0.mp h14) | (replace h14 := bz_eq0.mp h14) | skip
    refine V_iconst F dX_advance_17 (by decide) ?_
    exact hR _ _ _ _ dX_advance_18 (by
                  first
                  | exact Or.inl ⟨h14, rfl, rfl⟩
                  | exact Or.inr (Or.inl ⟨by omega, by omega, rfl, rfl⟩))

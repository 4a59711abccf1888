theorem dM_firstEdge_0 : decode cM_firstEdge 0 = .ok (.iload_n 0, 1) := by decide +kernel
theorem dM_firstEdge_1 : decode cM_firstEdge 1 = .ok (.ifCond .ne 7, 3) := by decide +kernel
theorem dM_firstEdge_4 : decode cM_firstEdge 4 = .ok (.iconst 3, 1) := by decide +kernel
theorem dM_firstEdge_5 : decode cM_firstEdge 5 = .ok (.goto 22, 3) := by decide +kernel
theorem dM_firstEdge_8 : decode cM_firstEdge 8 = .ok (.iload_n 0, 1) := by decide +kernel
theorem dM_firstEdge_9 : decode cM_firstEdge 9 = .ok (.iconst 3, 1) := by decide +kernel
theorem dM_firstEdge_10 : decode cM_firstEdge 10 = .ok (.if_icmp .ne 7, 3) := by decide +kernel
theorem dM_firstEdge_13 : decode cM_firstEdge 13 = .ok (.iconst 2, 1) := by decide +kernel
theorem dM_firstEdge_14 : decode cM_firstEdge 14 = .ok (.goto 13, 3) := by decide +kernel
theorem dM_firstEdge_17 : decode cM_firstEdge 17 = .ok (.iload_n 0, 1) := by decide +kernel
theorem dM_firstEdge_18 : decode cM_firstEdge 18 = .ok (.iconst 5, 1) := by decide +kernel
theorem dM_firstEdge_19 : decode cM_firstEdge 19 = .ok (.if_icmp .ne 7, 3) := by decide +kernel
theorem dM_firstEdge_22 : decode cM_firstEdge 22 = .ok (.iconst 1, 1) := by decide +kernel
theorem dM_firstEdge_23 : decode cM_firstEdge 23 = .ok (.goto 4, 3) := by decide +kernel
theorem dM_firstEdge_26 : decode cM_firstEdge 26 = .ok (.iconst 0, 1) := by decide +kernel
theorem dM_firstEdge_27 : decode cM_firstEdge 27 = .ok (.ireturn, 1) := by decide +kernel
theorem dM_secondEdge_0 : decode cM_secondEdge 0 = .ok (.iload_n 0, 1) := by decide +kernel
theorem dM_secondEdge_1 : decode cM_secondEdge 1 = .ok (.ifCond .eq 8, 3) := by decide +kernel
theorem dM_secondEdge_4 : decode cM_secondEdge 4 = .ok (.iload_n 0, 1) := by decide +kernel
theorem dM_secondEdge_5 : decode cM_secondEdge 5 = .ok (.iconst 2, 1) := by decide +kernel
theorem dM_secondEdge_6 : decode cM_secondEdge 6 = .ok (.if_icmp .ne 7, 3) := by decide +kernel
theorem dM_secondEdge_9 : decode cM_secondEdge 9 = .ok (.iconst 1, 1) := by decide +kernel
theorem dM_secondEdge_10 : decode cM_secondEdge 10 = .ok (.goto 18, 3) := by decide +kernel
theorem dM_secondEdge_13 : decode cM_secondEdge 13 = .ok (.iload_n 0, 1) := by decide +kernel
theorem dM_secondEdge_14 : decode cM_secondEdge 14 = .ok (.iconst 1, 1) := by decide +kernel
theorem dM_secondEdge_15 : decode cM_secondEdge 15 = .ok (.if_icmp .eq 8, 3) := by decide +kernel
theorem dM_secondEdge_18 : decode cM_secondEdge 18 = .ok (.iload_n 0, 1) := by decide +kernel
theorem dM_secondEdge_19 : decode cM_secondEdge 19 = .ok (.iconst 5, 1) := by decide +kernel
theorem dM_secondEdge_20 : decode cM_secondEdge 20 = .ok (.if_icmp .ne 7, 3) := by decide +kernel
theorem dM_secondEdge_23 : decode cM_secondEdge 23 = .ok (.iconst 2, 1) := by decide +kernel
theorem dM_secondEdge_24 : decode cM_secondEdge 24 = .ok (.goto 4, 3) := by decide +kernel
theorem dM_secondEdge_27 : decode cM_secondEdge 27 = .ok (.iconst 3, 1) := by decide +kernel
theorem dM_secondEdge_28 : decode cM_secondEdge 28 = .ok (.ireturn, 1) := by decide +kernel
theorem dM_edgeOf_0 : decode cM_edgeOf 0 = .ok (.iload_n 0, 1) := by decide +kernel
theorem dM_edgeOf_1 : decode cM_edgeOf 1 = .ok (.iconst 2, 1) := by decide +kernel
theorem dM_edgeOf_2 : decode cM_edgeOf 2 = .ok (.idiv, 1) := by decide +kernel
theorem dM_edgeOf_3 : decode cM_edgeOf 3 = .ok (.bipush 6, 2) := by decide +kernel
theorem dM_edgeOf_5 : decode cM_edgeOf 5 = .ok (.irem, 1) := by decide +kernel
theorem dM_edgeOf_6 : decode cM_edgeOf 6 = .ok (.istore_n 1, 1) := by decide +kernel
theorem dM_edgeOf_7 : decode cM_edgeOf 7 = .ok (.iload_n 0, 1) := by decide +kernel
theorem dM_edgeOf_8 : decode cM_edgeOf 8 = .ok (.iconst 2, 1) := by decide +kernel
theorem dM_edgeOf_9 : decode cM_edgeOf 9 = .ok (.irem, 1) := by decide +kernel
theorem dM_edgeOf_10 : decode cM_edgeOf 10 = .ok (.ifCond .ne 10, 3) := by decide +kernel
theorem dM_edgeOf_13 : decode cM_edgeOf 13 = .ok (.iload_n 1, 1) := by decide +kernel
theorem dM_edgeOf_14 : decode cM_edgeOf 14 = .ok (.invokestatic 90, 3) := by decide +kernel
theorem dM_edgeOf_17 : decode cM_edgeOf 17 = .ok (.goto 7, 3) := by decide +kernel
theorem dM_edgeOf_20 : decode cM_edgeOf 20 = .ok (.iload_n 1, 1) := by decide +kernel
theorem dM_edgeOf_21 : decode cM_edgeOf 21 = .ok (.invokestatic 94, 3) := by decide +kernel
theorem dM_edgeOf_24 : decode cM_edgeOf 24 = .ok (.ireturn, 1) := by decide +kernel
theorem dM_isTile_0 : decode cM_isTile 0 = .ok (.iload_n 1, 1) := by decide +kernel
theorem dM_isTile_1 : decode cM_isTile 1 = .ok (.ifCond .lt 27, 3) := by decide +kernel
theorem dM_isTile_4 : decode cM_isTile 4 = .ok (.iload_n 1, 1) := by decide +kernel
theorem dM_isTile_5 : decode cM_isTile 5 = .ok (.aload_n 0, 1) := by decide +kernel
theorem dM_isTile_6 : decode cM_isTile 6 = .ok (.getfield 83, 3) := by decide +kernel
theorem dM_isTile_9 : decode cM_isTile 9 = .ok (.if_icmp .ge 19, 3) := by decide +kernel
theorem dM_isTile_12 : decode cM_isTile 12 = .ok (.iload_n 2, 1) := by decide +kernel
theorem dM_isTile_13 : decode cM_isTile 13 = .ok (.ifCond .lt 15, 3) := by decide +kernel
theorem dM_isTile_16 : decode cM_isTile 16 = .ok (.iload_n 2, 1) := by decide +kernel
theorem dM_isTile_17 : decode cM_isTile 17 = .ok (.aload_n 0, 1) := by decide +kernel
theorem dM_isTile_18 : decode cM_isTile 18 = .ok (.getfield 87, 3) := by decide +kernel
theorem dM_isTile_21 : decode cM_isTile 21 = .ok (.if_icmp .ge 7, 3) := by decide +kernel
theorem dM_isTile_24 : decode cM_isTile 24 = .ok (.iconst 1, 1) := by decide +kernel
theorem dM_isTile_25 : decode cM_isTile 25 = .ok (.goto 4, 3) := by decide +kernel
theorem dM_isTile_28 : decode cM_isTile 28 = .ok (.iconst 0, 1) := by decide +kernel
theorem dM_isTile_29 : decode cM_isTile 29 = .ok (.ireturn, 1) := by decide +kernel
theorem dM_isPiece_0 : decode cM_isPiece 0 = .ok (.aload_n 0, 1) := by decide +kernel
theorem dM_isPiece_1 : decode cM_isPiece 1 = .ok (.iload_n 1, 1) := by decide +kernel
theorem dM_isPiece_2 : decode cM_isPiece 2 = .ok (.iload_n 2, 1) := by decide +kernel
theorem dM_isPiece_3 : decode cM_isPiece 3 = .ok (.invokevirtual 97, 3) := by decide +kernel
theorem dM_isPiece_6 : decode cM_isPiece 6 = .ok (.ifCond .eq 35, 3) := by decide +kernel
theorem dM_isPiece_9 : decode cM_isPiece 9 = .ok (.iload_n 3, 1) := by decide +kernel
theorem dM_isPiece_10 : decode cM_isPiece 10 = .ok (.ifCond .lt 31, 3) := by decide +kernel
theorem dM_isPiece_13 : decode cM_isPiece 13 = .ok (.iload_n 3, 1) := by decide +kernel
theorem dM_isPiece_14 : decode cM_isPiece 14 = .ok (.iconst 5, 1) := by decide +kernel
theorem dM_isPiece_15 : decode cM_isPiece 15 = .ok (.if_icmp .gt 26, 3) := by decide +kernel
theorem dM_isPiece_18 : decode cM_isPiece 18 = .ok (.aload_n 0, 1) := by decide +kernel
theorem dM_isPiece_19 : decode cM_isPiece 19 = .ok (.getfield 7, 3) := by decide +kernel
theorem dM_isPiece_22 : decode cM_isPiece 22 = .ok (.bipush 6, 2) := by decide +kernel
theorem dM_isPiece_24 : decode cM_isPiece 24 = .ok (.bipush 8, 2) := by decide +kernel
theorem dM_isPiece_26 : decode cM_isPiece 26 = .ok (.iload_n 2, 1) := by decide +kernel
theorem dM_isPiece_27 : decode cM_isPiece 27 = .ok (.imul, 1) := by decide +kernel
theorem dM_isPiece_28 : decode cM_isPiece 28 = .ok (.iload_n 1, 1) := by decide +kernel
theorem dM_isPiece_29 : decode cM_isPiece 29 = .ok (.iadd, 1) := by decide +kernel
theorem dM_isPiece_30 : decode cM_isPiece 30 = .ok (.imul, 1) := by decide +kernel
theorem dM_isPiece_31 : decode cM_isPiece 31 = .ok (.iload_n 3, 1) := by decide +kernel
theorem dM_isPiece_32 : decode cM_isPiece 32 = .ok (.iadd, 1) := by decide +kernel
theorem dM_isPiece_33 : decode cM_isPiece 33 = .ok (.baload, 1) := by decide +kernel
theorem dM_isPiece_34 : decode cM_isPiece 34 = .ok (.ifCond .eq 7, 3) := by decide +kernel
theorem dM_isPiece_37 : decode cM_isPiece 37 = .ok (.iconst 1, 1) := by decide +kernel
theorem dM_isPiece_38 : decode cM_isPiece 38 = .ok (.goto 4, 3) := by decide +kernel
theorem dM_isPiece_41 : decode cM_isPiece 41 = .ok (.iconst 0, 1) := by decide +kernel
theorem dM_isPiece_42 : decode cM_isPiece 42 = .ok (.ireturn, 1) := by decide +kernel
theorem dM_toward_0 : decode cM_toward 0 = .ok (.aload_n 0, 1) := by decide +kernel
theorem dM_toward_1 : decode cM_toward 1 = .ok (.iload_n 1, 1) := by decide +kernel
theorem dM_toward_2 : decode cM_toward 2 = .ok (.iload_n 2, 1) := by decide +kernel
theorem dM_toward_3 : decode cM_toward 3 = .ok (.iload_n 3, 1) := by decide +kernel
theorem dM_toward_4 : decode cM_toward 4 = .ok (.invokevirtual 101, 3) := by decide +kernel
theorem dM_toward_7 : decode cM_toward 7 = .ok (.ifCond .eq 21, 3) := by decide +kernel
theorem dM_toward_10 : decode cM_toward 10 = .ok (.iload 4, 2) := by decide +kernel
theorem dM_toward_12 : decode cM_toward 12 = .ok (.iload_n 3, 1) := by decide +kernel
theorem dM_toward_13 : decode cM_toward 13 = .ok (.invokestatic 90, 3) := by decide +kernel
theorem dM_toward_16 : decode cM_toward 16 = .ok (.if_icmp .eq 14, 3) := by decide +kernel
theorem dM_toward_19 : decode cM_toward 19 = .ok (.iload 4, 2) := by decide +kernel
theorem dM_toward_21 : decode cM_toward 21 = .ok (.iload_n 3, 1) := by decide +kernel
theorem dM_toward_22 : decode cM_toward 22 = .ok (.invokestatic 94, 3) := by decide +kernel
theorem dM_toward_25 : decode cM_toward 25 = .ok (.if_icmp .eq 5, 3) := by decide +kernel
theorem dM_toward_28 : decode cM_toward 28 = .ok (.iconst (-1), 1) := by decide +kernel
theorem dM_toward_29 : decode cM_toward 29 = .ok (.ireturn, 1) := by decide +kernel
theorem dM_toward_30 : decode cM_toward 30 = .ok (.iconst 2, 1) := by decide +kernel
theorem dM_toward_31 : decode cM_toward 31 = .ok (.bipush 6, 2) := by decide +kernel
theorem dM_toward_33 : decode cM_toward 33 = .ok (.bipush 8, 2) := by decide +kernel
theorem dM_toward_35 : decode cM_toward 35 = .ok (.iload_n 2, 1) := by decide +kernel
theorem dM_toward_36 : decode cM_toward 36 = .ok (.imul, 1) := by decide +kernel
theorem dM_toward_37 : decode cM_toward 37 = .ok (.iload_n 1, 1) := by decide +kernel
theorem dM_toward_38 : decode cM_toward 38 = .ok (.iadd, 1) := by decide +kernel
theorem dM_toward_39 : decode cM_toward 39 = .ok (.imul, 1) := by decide +kernel
theorem dM_toward_40 : decode cM_toward 40 = .ok (.iload_n 3, 1) := by decide +kernel
theorem dM_toward_41 : decode cM_toward 41 = .ok (.iadd, 1) := by decide +kernel
theorem dM_toward_42 : decode cM_toward 42 = .ok (.imul, 1) := by decide +kernel
theorem dM_toward_43 : decode cM_toward 43 = .ok (.iload 4, 2) := by decide +kernel
theorem dM_toward_45 : decode cM_toward 45 = .ok (.iload_n 3, 1) := by decide +kernel
theorem dM_toward_46 : decode cM_toward 46 = .ok (.invokestatic 90, 3) := by decide +kernel
theorem dM_toward_49 : decode cM_toward 49 = .ok (.if_icmp .ne 7, 3) := by decide +kernel
theorem dM_toward_52 : decode cM_toward 52 = .ok (.iconst 0, 1) := by decide +kernel
theorem dM_toward_53 : decode cM_toward 53 = .ok (.goto 4, 3) := by decide +kernel
theorem dM_toward_56 : decode cM_toward 56 = .ok (.iconst 1, 1) := by decide +kernel
theorem dM_toward_57 : decode cM_toward 57 = .ok (.iadd, 1) := by decide +kernel
theorem dM_toward_58 : decode cM_toward 58 = .ok (.ireturn, 1) := by decide +kernel
theorem dM_open_0 : decode cM_open 0 = .ok (.aload_n 0, 1) := by decide +kernel
theorem dM_open_1 : decode cM_open 1 = .ok (.getfield 13, 3) := by decide +kernel
theorem dM_open_4 : decode cM_open 4 = .ok (.iload_n 1, 1) := by decide +kernel
theorem dM_open_5 : decode cM_open 5 = .ok (.iconst 2, 1) := by decide +kernel
theorem dM_open_6 : decode cM_open 6 = .ok (.idiv, 1) := by decide +kernel
theorem dM_open_7 : decode cM_open 7 = .ok (.iaload, 1) := by decide +kernel
theorem dM_open_8 : decode cM_open 8 = .ok (.istore_n 2, 1) := by decide +kernel
theorem dM_open_9 : decode cM_open 9 = .ok (.iload_n 1, 1) := by decide +kernel
theorem dM_open_10 : decode cM_open 10 = .ok (.iconst 2, 1) := by decide +kernel
theorem dM_open_11 : decode cM_open 11 = .ok (.irem, 1) := by decide +kernel
theorem dM_open_12 : decode cM_open 12 = .ok (.ifCond .ne 16, 3) := by decide +kernel
theorem dM_open_15 : decode cM_open 15 = .ok (.iload_n 2, 1) := by decide +kernel
theorem dM_open_16 : decode cM_open 16 = .ok (.iconst 2, 1) := by decide +kernel
theorem dM_open_17 : decode cM_open 17 = .ok (.if_icmp .eq 7, 3) := by decide +kernel
theorem dM_open_20 : decode cM_open 20 = .ok (.iconst 1, 1) := by decide +kernel
theorem dM_open_21 : decode cM_open 21 = .ok (.goto 17, 3) := by decide +kernel
theorem dM_open_24 : decode cM_open 24 = .ok (.iconst 0, 1) := by decide +kernel
theorem dM_open_25 : decode cM_open 25 = .ok (.goto 13, 3) := by decide +kernel
theorem dM_open_28 : decode cM_open 28 = .ok (.iload_n 2, 1) := by decide +kernel
theorem dM_open_29 : decode cM_open 29 = .ok (.iconst 1, 1) := by decide +kernel
theorem dM_open_30 : decode cM_open 30 = .ok (.if_icmp .eq 7, 3) := by decide +kernel
theorem dM_open_33 : decode cM_open 33 = .ok (.iconst 1, 1) := by decide +kernel
theorem dM_open_34 : decode cM_open 34 = .ok (.goto 4, 3) := by decide +kernel
theorem dM_open_37 : decode cM_open 37 = .ok (.iconst 0, 1) := by decide +kernel
theorem dM_open_38 : decode cM_open 38 = .ok (.ireturn, 1) := by decide +kernel
theorem dM_signalled_0 : decode cM_signalled 0 = .ok (.aload_n 0, 1) := by decide +kernel
theorem dM_signalled_1 : decode cM_signalled 1 = .ok (.getfield 13, 3) := by decide +kernel
theorem dM_signalled_4 : decode cM_signalled 4 = .ok (.iload_n 1, 1) := by decide +kernel
theorem dM_signalled_5 : decode cM_signalled 5 = .ok (.iconst 2, 1) := by decide +kernel
theorem dM_signalled_6 : decode cM_signalled 6 = .ok (.idiv, 1) := by decide +kernel
theorem dM_signalled_7 : decode cM_signalled 7 = .ok (.iaload, 1) := by decide +kernel
theorem dM_signalled_8 : decode cM_signalled 8 = .ok (.iload_n 1, 1) := by decide +kernel
theorem dM_signalled_9 : decode cM_signalled 9 = .ok (.iconst 2, 1) := by decide +kernel
theorem dM_signalled_10 : decode cM_signalled 10 = .ok (.irem, 1) := by decide +kernel
theorem dM_signalled_11 : decode cM_signalled 11 = .ok (.ishr, 1) := by decide +kernel
theorem dM_signalled_12 : decode cM_signalled 12 = .ok (.iconst 1, 1) := by decide +kernel
theorem dM_signalled_13 : decode cM_signalled 13 = .ok (.iand, 1) := by decide +kernel
theorem dM_signalled_14 : decode cM_signalled 14 = .ok (.iconst 1, 1) := by decide +kernel
theorem dM_signalled_15 : decode cM_signalled 15 = .ok (.if_icmp .ne 7, 3) := by decide +kernel
theorem dM_signalled_18 : decode cM_signalled 18 = .ok (.iconst 1, 1) := by decide +kernel
theorem dM_signalled_19 : decode cM_signalled 19 = .ok (.goto 4, 3) := by decide +kernel
theorem dM_signalled_22 : decode cM_signalled 22 = .ok (.iconst 0, 1) := by decide +kernel
theorem dM_signalled_23 : decode cM_signalled 23 = .ok (.ireturn, 1) := by decide +kernel
theorem dM_cost_0 : decode cM_cost 0 = .ok (.iload_n 1, 1) := by decide +kernel
theorem dM_cost_1 : decode cM_cost 1 = .ok (.iconst 2, 1) := by decide +kernel
theorem dM_cost_2 : decode cM_cost 2 = .ok (.idiv, 1) := by decide +kernel
theorem dM_cost_3 : decode cM_cost 3 = .ok (.bipush 6, 2) := by decide +kernel
theorem dM_cost_5 : decode cM_cost 5 = .ok (.irem, 1) := by decide +kernel
theorem dM_cost_6 : decode cM_cost 6 = .ok (.iconst 2, 1) := by decide +kernel
theorem dM_cost_7 : decode cM_cost 7 = .ok (.if_icmp .ge 8, 3) := by decide +kernel
theorem dM_cost_10 : decode cM_cost 10 = .ok (.bipush 10, 2) := by decide +kernel
theorem dM_cost_12 : decode cM_cost 12 = .ok (.goto 5, 3) := by decide +kernel
theorem dM_cost_15 : decode cM_cost 15 = .ok (.bipush 7, 2) := by decide +kernel
theorem dM_cost_17 : decode cM_cost 17 = .ok (.aload_n 0, 1) := by decide +kernel
theorem dM_cost_18 : decode cM_cost 18 = .ok (.iload_n 1, 1) := by decide +kernel
theorem dM_cost_19 : decode cM_cost 19 = .ok (.invokevirtual 105, 3) := by decide +kernel
theorem dM_cost_22 : decode cM_cost 22 = .ok (.ifCond .eq 7, 3) := by decide +kernel
theorem dM_cost_25 : decode cM_cost 25 = .ok (.iconst 5, 1) := by decide +kernel
theorem dM_cost_26 : decode cM_cost 26 = .ok (.goto 4, 3) := by decide +kernel
theorem dM_cost_29 : decode cM_cost 29 = .ok (.iconst 0, 1) := by decide +kernel
theorem dM_cost_30 : decode cM_cost 30 = .ok (.iadd, 1) := by decide +kernel
theorem dM_cost_31 : decode cM_cost 31 = .ok (.ireturn, 1) := by decide +kernel
theorem dM_across_0 : decode cM_across 0 = .ok (.iload_n 1, 1) := by decide +kernel
theorem dM_across_1 : decode cM_across 1 = .ok (.bipush 8, 2) := by decide +kernel
theorem dM_across_3 : decode cM_across 3 = .ok (.irem, 1) := by decide +kernel
theorem dM_across_4 : decode cM_across 4 = .ok (.iload_n 2, 1) := by decide +kernel
theorem dM_across_5 : decode cM_across 5 = .ok (.iconst 1, 1) := by decide +kernel
theorem dM_across_6 : decode cM_across 6 = .ok (.if_icmp .ne 7, 3) := by decide +kernel
theorem dM_across_9 : decode cM_across 9 = .ok (.iconst 1, 1) := by decide +kernel
theorem dM_across_10 : decode cM_across 10 = .ok (.goto 13, 3) := by decide +kernel
theorem dM_across_13 : decode cM_across 13 = .ok (.iload_n 2, 1) := by decide +kernel
theorem dM_across_14 : decode cM_across 14 = .ok (.iconst 3, 1) := by decide +kernel
theorem dM_across_15 : decode cM_across 15 = .ok (.if_icmp .ne 7, 3) := by decide +kernel
theorem dM_across_18 : decode cM_across 18 = .ok (.iconst (-1), 1) := by decide +kernel
theorem dM_across_19 : decode cM_across 19 = .ok (.goto 4, 3) := by decide +kernel
theorem dM_across_22 : decode cM_across 22 = .ok (.iconst 0, 1) := by decide +kernel
theorem dM_across_23 : decode cM_across 23 = .ok (.iadd, 1) := by decide +kernel
theorem dM_across_24 : decode cM_across 24 = .ok (.istore_n 3, 1) := by decide +kernel
theorem dM_across_25 : decode cM_across 25 = .ok (.iload_n 1, 1) := by decide +kernel
theorem dM_across_26 : decode cM_across 26 = .ok (.bipush 8, 2) := by decide +kernel
theorem dM_across_28 : decode cM_across 28 = .ok (.idiv, 1) := by decide +kernel
theorem dM_across_29 : decode cM_across 29 = .ok (.iload_n 2, 1) := by decide +kernel
theorem dM_across_30 : decode cM_across 30 = .ok (.iconst 2, 1) := by decide +kernel
theorem dM_across_31 : decode cM_across 31 = .ok (.if_icmp .ne 7, 3) := by decide +kernel
theorem dM_across_34 : decode cM_across 34 = .ok (.iconst 1, 1) := by decide +kernel
theorem dM_across_35 : decode cM_across 35 = .ok (.goto 12, 3) := by decide +kernel
theorem dM_across_38 : decode cM_across 38 = .ok (.iload_n 2, 1) := by decide +kernel
theorem dM_across_39 : decode cM_across 39 = .ok (.ifCond .ne 7, 3) := by decide +kernel
theorem dM_across_42 : decode cM_across 42 = .ok (.iconst (-1), 1) := by decide +kernel
theorem dM_across_43 : decode cM_across 43 = .ok (.goto 4, 3) := by decide +kernel
theorem dM_across_46 : decode cM_across 46 = .ok (.iconst 0, 1) := by decide +kernel
theorem dM_across_47 : decode cM_across 47 = .ok (.iadd, 1) := by decide +kernel
theorem dM_across_48 : decode cM_across 48 = .ok (.istore 4, 2) := by decide +kernel
theorem dM_across_50 : decode cM_across 50 = .ok (.aload_n 0, 1) := by decide +kernel
theorem dM_across_51 : decode cM_across 51 = .ok (.iload_n 3, 1) := by decide +kernel
theorem dM_across_52 : decode cM_across 52 = .ok (.iload 4, 2) := by decide +kernel
theorem dM_across_54 : decode cM_across 54 = .ok (.invokevirtual 97, 3) := by decide +kernel
theorem dM_across_57 : decode cM_across 57 = .ok (.ifCond .eq 13, 3) := by decide +kernel
theorem dM_across_60 : decode cM_across 60 = .ok (.bipush 8, 2) := by decide +kernel
theorem dM_across_62 : decode cM_across 62 = .ok (.iload 4, 2) := by decide +kernel
theorem dM_across_64 : decode cM_across 64 = .ok (.imul, 1) := by decide +kernel
theorem dM_across_65 : decode cM_across 65 = .ok (.iload_n 3, 1) := by decide +kernel
theorem dM_across_66 : decode cM_across 66 = .ok (.iadd, 1) := by decide +kernel
theorem dM_across_67 : decode cM_across 67 = .ok (.goto 4, 3) := by decide +kernel
theorem dM_across_70 : decode cM_across 70 = .ok (.iconst (-1), 1) := by decide +kernel
theorem dM_across_71 : decode cM_across 71 = .ok (.ireturn, 1) := by decide +kernel
theorem dM_behind_0 : decode cM_behind 0 = .ok (.iload_n 1, 1) := by decide +kernel
theorem dM_behind_1 : decode cM_behind 1 = .ok (.invokestatic 109, 3) := by decide +kernel
theorem dM_behind_4 : decode cM_behind 4 = .ok (.istore_n 3, 1) := by decide +kernel
theorem dM_behind_5 : decode cM_behind 5 = .ok (.aload_n 0, 1) := by decide +kernel
theorem dM_behind_6 : decode cM_behind 6 = .ok (.iload_n 1, 1) := by decide +kernel
theorem dM_behind_7 : decode cM_behind 7 = .ok (.bipush 12, 2) := by decide +kernel
theorem dM_behind_9 : decode cM_behind 9 = .ok (.idiv, 1) := by decide +kernel
theorem dM_behind_10 : decode cM_behind 10 = .ok (.iload_n 3, 1) := by decide +kernel
theorem dM_behind_11 : decode cM_behind 11 = .ok (.invokevirtual 112, 3) := by decide +kernel
theorem dM_behind_14 : decode cM_behind 14 = .ok (.istore 4, 2) := by decide +kernel
theorem dM_behind_16 : decode cM_behind 16 = .ok (.iload_n 3, 1) := by decide +kernel
theorem dM_behind_17 : decode cM_behind 17 = .ok (.iconst 2, 1) := by decide +kernel
theorem dM_behind_18 : decode cM_behind 18 = .ok (.iadd, 1) := by decide +kernel
theorem dM_behind_19 : decode cM_behind 19 = .ok (.iconst 4, 1) := by decide +kernel
theorem dM_behind_20 : decode cM_behind 20 = .ok (.irem, 1) := by decide +kernel
theorem dM_behind_21 : decode cM_behind 21 = .ok (.istore 5, 2) := by decide +kernel
theorem dM_behind_23 : decode cM_behind 23 = .ok (.iload 4, 2) := by decide +kernel
theorem dM_behind_25 : decode cM_behind 25 = .ok (.ifCond .lt 36, 3) := by decide +kernel
theorem dM_behind_28 : decode cM_behind 28 = .ok (.aload_n 0, 1) := by decide +kernel
theorem dM_behind_29 : decode cM_behind 29 = .ok (.getfield 7, 3) := by decide +kernel
theorem dM_behind_32 : decode cM_behind 32 = .ok (.bipush 6, 2) := by decide +kernel
theorem dM_behind_34 : decode cM_behind 34 = .ok (.iload 4, 2) := by decide +kernel
theorem dM_behind_36 : decode cM_behind 36 = .ok (.imul, 1) := by decide +kernel
theorem dM_behind_37 : decode cM_behind 37 = .ok (.iload_n 2, 1) := by decide +kernel
theorem dM_behind_38 : decode cM_behind 38 = .ok (.iadd, 1) := by decide +kernel
theorem dM_behind_39 : decode cM_behind 39 = .ok (.baload, 1) := by decide +kernel
theorem dM_behind_40 : decode cM_behind 40 = .ok (.ifCond .eq 21, 3) := by decide +kernel
theorem dM_behind_43 : decode cM_behind 43 = .ok (.iload 5, 2) := by decide +kernel
theorem dM_behind_45 : decode cM_behind 45 = .ok (.iload_n 2, 1) := by decide +kernel
theorem dM_behind_46 : decode cM_behind 46 = .ok (.invokestatic 90, 3) := by decide +kernel
theorem dM_behind_49 : decode cM_behind 49 = .ok (.if_icmp .eq 14, 3) := by decide +kernel
theorem dM_behind_52 : decode cM_behind 52 = .ok (.iload 5, 2) := by decide +kernel
theorem dM_behind_54 : decode cM_behind 54 = .ok (.iload_n 2, 1) := by decide +kernel
theorem dM_behind_55 : decode cM_behind 55 = .ok (.invokestatic 94, 3) := by decide +kernel
theorem dM_behind_58 : decode cM_behind 58 = .ok (.if_icmp .eq 5, 3) := by decide +kernel
theorem dM_behind_61 : decode cM_behind 61 = .ok (.iconst (-1), 1) := by decide +kernel
theorem dM_behind_62 : decode cM_behind 62 = .ok (.ireturn, 1) := by decide +kernel
theorem dM_behind_63 : decode cM_behind 63 = .ok (.iconst 2, 1) := by decide +kernel
theorem dM_behind_64 : decode cM_behind 64 = .ok (.bipush 6, 2) := by decide +kernel
theorem dM_behind_66 : decode cM_behind 66 = .ok (.iload 4, 2) := by decide +kernel
theorem dM_behind_68 : decode cM_behind 68 = .ok (.imul, 1) := by decide +kernel
theorem dM_behind_69 : decode cM_behind 69 = .ok (.iload_n 2, 1) := by decide +kernel
theorem dM_behind_70 : decode cM_behind 70 = .ok (.iadd, 1) := by decide +kernel
theorem dM_behind_71 : decode cM_behind 71 = .ok (.imul, 1) := by decide +kernel
theorem dM_behind_72 : decode cM_behind 72 = .ok (.iload 5, 2) := by decide +kernel
theorem dM_behind_74 : decode cM_behind 74 = .ok (.iload_n 2, 1) := by decide +kernel
theorem dM_behind_75 : decode cM_behind 75 = .ok (.invokestatic 90, 3) := by decide +kernel
theorem dM_behind_78 : decode cM_behind 78 = .ok (.if_icmp .ne 7, 3) := by decide +kernel
theorem dM_behind_81 : decode cM_behind 81 = .ok (.iconst 1, 1) := by decide +kernel
theorem dM_behind_82 : decode cM_behind 82 = .ok (.goto 4, 3) := by decide +kernel
theorem dM_behind_85 : decode cM_behind 85 = .ok (.iconst 0, 1) := by decide +kernel
theorem dM_behind_86 : decode cM_behind 86 = .ok (.iadd, 1) := by decide +kernel
theorem dM_behind_87 : decode cM_behind 87 = .ok (.istore 6, 2) := by decide +kernel
theorem dM_behind_89 : decode cM_behind 89 = .ok (.aload_n 0, 1) := by decide +kernel
theorem dM_behind_90 : decode cM_behind 90 = .ok (.iload 6, 2) := by decide +kernel
theorem dM_behind_92 : decode cM_behind 92 = .ok (.invokevirtual 116, 3) := by decide +kernel
theorem dM_behind_95 : decode cM_behind 95 = .ok (.ifCond .eq 8, 3) := by decide +kernel
theorem dM_behind_98 : decode cM_behind 98 = .ok (.iload 6, 2) := by decide +kernel
theorem dM_behind_100 : decode cM_behind 100 = .ok (.goto 4, 3) := by decide +kernel
theorem dM_behind_103 : decode cM_behind 103 = .ok (.iconst (-1), 1) := by decide +kernel
theorem dM_behind_104 : decode cM_behind 104 = .ok (.ireturn, 1) := by decide +kernel
theorem dM_cross_0 : decode cM_cross 0 = .ok (.iload_n 0, 1) := by decide +kernel
theorem dM_cross_1 : decode cM_cross 1 = .ok (.bipush 6, 2) := by decide +kernel
theorem dM_cross_3 : decode cM_cross 3 = .ok (.irem, 1) := by decide +kernel
theorem dM_cross_4 : decode cM_cross 4 = .ok (.istore_n 2, 1) := by decide +kernel
theorem dM_cross_5 : decode cM_cross 5 = .ok (.iload_n 1, 1) := by decide +kernel
theorem dM_cross_6 : decode cM_cross 6 = .ok (.bipush 6, 2) := by decide +kernel
theorem dM_cross_8 : decode cM_cross 8 = .ok (.irem, 1) := by decide +kernel
theorem dM_cross_9 : decode cM_cross 9 = .ok (.istore_n 3, 1) := by decide +kernel
theorem dM_cross_10 : decode cM_cross 10 = .ok (.iload_n 2, 1) := by decide +kernel
theorem dM_cross_11 : decode cM_cross 11 = .ok (.iconst 2, 1) := by decide +kernel
theorem dM_cross_12 : decode cM_cross 12 = .ok (.idiv, 1) := by decide +kernel
theorem dM_cross_13 : decode cM_cross 13 = .ok (.iload_n 3, 1) := by decide +kernel
theorem dM_cross_14 : decode cM_cross 14 = .ok (.iconst 2, 1) := by decide +kernel
theorem dM_cross_15 : decode cM_cross 15 = .ok (.idiv, 1) := by decide +kernel
theorem dM_cross_16 : decode cM_cross 16 = .ok (.if_icmp .ne 17, 3) := by decide +kernel
theorem dM_cross_19 : decode cM_cross 19 = .ok (.iload_n 2, 1) := by decide +kernel
theorem dM_cross_20 : decode cM_cross 20 = .ok (.iload_n 3, 1) := by decide +kernel
theorem dM_cross_21 : decode cM_cross 21 = .ok (.if_icmp .eq 12, 3) := by decide +kernel
theorem dM_cross_24 : decode cM_cross 24 = .ok (.iload_n 2, 1) := by decide +kernel
theorem dM_cross_25 : decode cM_cross 25 = .ok (.iconst 1, 1) := by decide +kernel
theorem dM_cross_26 : decode cM_cross 26 = .ok (.if_icmp .le 7, 3) := by decide +kernel
theorem dM_cross_29 : decode cM_cross 29 = .ok (.iconst 1, 1) := by decide +kernel
theorem dM_cross_30 : decode cM_cross 30 = .ok (.goto 4, 3) := by decide +kernel
theorem dM_cross_33 : decode cM_cross 33 = .ok (.iconst 0, 1) := by decide +kernel
theorem dM_cross_34 : decode cM_cross 34 = .ok (.istore 4, 2) := by decide +kernel
theorem dM_cross_36 : decode cM_cross 36 = .ok (.iload_n 0, 1) := by decide +kernel
theorem dM_cross_37 : decode cM_cross 37 = .ok (.bipush 6, 2) := by decide +kernel
theorem dM_cross_39 : decode cM_cross 39 = .ok (.idiv, 1) := by decide +kernel
theorem dM_cross_40 : decode cM_cross 40 = .ok (.iload_n 1, 1) := by decide +kernel
theorem dM_cross_41 : decode cM_cross 41 = .ok (.bipush 6, 2) := by decide +kernel
theorem dM_cross_43 : decode cM_cross 43 = .ok (.idiv, 1) := by decide +kernel
theorem dM_cross_44 : decode cM_cross 44 = .ok (.if_icmp .ne 12, 3) := by decide +kernel
theorem dM_cross_47 : decode cM_cross 47 = .ok (.iload 4, 2) := by decide +kernel
theorem dM_cross_49 : decode cM_cross 49 = .ok (.ifCond .ne 7, 3) := by decide +kernel
theorem dM_cross_52 : decode cM_cross 52 = .ok (.iconst 1, 1) := by decide +kernel
theorem dM_cross_53 : decode cM_cross 53 = .ok (.goto 4, 3) := by decide +kernel
theorem dM_cross_56 : decode cM_cross 56 = .ok (.iconst 0, 1) := by decide +kernel
theorem dM_cross_57 : decode cM_cross 57 = .ok (.ireturn, 1) := by decide +kernel
theorem dM_isTrain_0 : decode cM_isTrain 0 = .ok (.iload_n 1, 1) := by decide +kernel
theorem dM_isTrain_1 : decode cM_isTrain 1 = .ok (.ifCond .lt 15, 3) := by decide +kernel
theorem dM_isTrain_4 : decode cM_isTrain 4 = .ok (.iload_n 1, 1) := by decide +kernel
theorem dM_isTrain_5 : decode cM_isTrain 5 = .ok (.aload_n 0, 1) := by decide +kernel
theorem dM_isTrain_6 : decode cM_isTrain 6 = .ok (.getfield 141, 3) := by decide +kernel
theorem dM_isTrain_9 : decode cM_isTrain 9 = .ok (.if_icmp .ge 7, 3) := by decide +kernel
theorem dM_isTrain_12 : decode cM_isTrain 12 = .ok (.iconst 1, 1) := by decide +kernel
theorem dM_isTrain_13 : decode cM_isTrain 13 = .ok (.goto 4, 3) := by decide +kernel
theorem dM_isTrain_16 : decode cM_isTrain 16 = .ok (.iconst 0, 1) := by decide +kernel
theorem dM_isTrain_17 : decode cM_isTrain 17 = .ok (.ireturn, 1) := by decide +kernel
theorem dM_last_0 : decode cM_last 0 = .ok (.aload_n 0, 1) := by decide +kernel
theorem dM_last_1 : decode cM_last 1 = .ok (.getfield 32, 3) := by decide +kernel
theorem dM_last_4 : decode cM_last 4 = .ok (.sipush 300, 3) := by decide +kernel
theorem dM_last_7 : decode cM_last 7 = .ok (.iload_n 1, 1) := by decide +kernel
theorem dM_last_8 : decode cM_last 8 = .ok (.imul, 1) := by decide +kernel
theorem dM_last_9 : decode cM_last 9 = .ok (.aload_n 0, 1) := by decide +kernel
theorem dM_last_10 : decode cM_last 10 = .ok (.getfield 35, 3) := by decide +kernel
theorem dM_last_13 : decode cM_last 13 = .ok (.iload_n 1, 1) := by decide +kernel
theorem dM_last_14 : decode cM_last 14 = .ok (.iaload, 1) := by decide +kernel
theorem dM_last_15 : decode cM_last 15 = .ok (.iadd, 1) := by decide +kernel
theorem dM_last_16 : decode cM_last 16 = .ok (.iconst 1, 1) := by decide +kernel
theorem dM_last_17 : decode cM_last 17 = .ok (.isub, 1) := by decide +kernel
theorem dM_last_18 : decode cM_last 18 = .ok (.iaload, 1) := by decide +kernel
theorem dM_last_19 : decode cM_last 19 = .ok (.ireturn, 1) := by decide +kernel
theorem dM_ahead_0 : decode cM_ahead 0 = .ok (.aload_n 0, 1) := by decide +kernel
theorem dM_ahead_1 : decode cM_ahead 1 = .ok (.getfield 35, 3) := by decide +kernel
theorem dM_ahead_4 : decode cM_ahead 4 = .ok (.iload_n 1, 1) := by decide +kernel
theorem dM_ahead_5 : decode cM_ahead 5 = .ok (.iaload, 1) := by decide +kernel
theorem dM_ahead_6 : decode cM_ahead 6 = .ok (.aload_n 0, 1) := by decide +kernel
theorem dM_ahead_7 : decode cM_ahead 7 = .ok (.getfield 38, 3) := by decide +kernel
theorem dM_ahead_10 : decode cM_ahead 10 = .ok (.iload_n 1, 1) := by decide +kernel
theorem dM_ahead_11 : decode cM_ahead 11 = .ok (.iaload, 1) := by decide +kernel
theorem dM_ahead_12 : decode cM_ahead 12 = .ok (.isub, 1) := by decide +kernel
theorem dM_ahead_13 : decode cM_ahead 13 = .ok (.ireturn, 1) := by decide +kernel
theorem dM_goal_0 : decode cM_goal 0 = .ok (.aload_n 0, 1) := by decide +kernel
theorem dM_goal_1 : decode cM_goal 1 = .ok (.getfield 53, 3) := by decide +kernel
theorem dM_goal_4 : decode cM_goal 4 = .ok (.bipush 6, 2) := by decide +kernel
theorem dM_goal_6 : decode cM_goal 6 = .ok (.iload_n 1, 1) := by decide +kernel
theorem dM_goal_7 : decode cM_goal 7 = .ok (.imul, 1) := by decide +kernel
theorem dM_goal_8 : decode cM_goal 8 = .ok (.aload_n 0, 1) := by decide +kernel
theorem dM_goal_9 : decode cM_goal 9 = .ok (.getfield 59, 3) := by decide +kernel
theorem dM_goal_12 : decode cM_goal 12 = .ok (.iload_n 1, 1) := by decide +kernel
theorem dM_goal_13 : decode cM_goal 13 = .ok (.iaload, 1) := by decide +kernel
theorem dM_goal_14 : decode cM_goal 14 = .ok (.iadd, 1) := by decide +kernel
theorem dM_goal_15 : decode cM_goal 15 = .ok (.iaload, 1) := by decide +kernel
theorem dM_goal_16 : decode cM_goal 16 = .ok (.ireturn, 1) := by decide +kernel
theorem dM_due_0 : decode cM_due 0 = .ok (.aload_n 0, 1) := by decide +kernel
theorem dM_due_1 : decode cM_due 1 = .ok (.iload_n 1, 1) := by decide +kernel
theorem dM_due_2 : decode cM_due 2 = .ok (.invokevirtual 129, 3) := by decide +kernel
theorem dM_due_5 : decode cM_due 5 = .ok (.iconst 2, 1) := by decide +kernel
theorem dM_due_6 : decode cM_due 6 = .ok (.idiv, 1) := by decide +kernel
theorem dM_due_7 : decode cM_due 7 = .ok (.aload_n 0, 1) := by decide +kernel
theorem dM_due_8 : decode cM_due 8 = .ok (.getfield 17, 3) := by decide +kernel
theorem dM_due_11 : decode cM_due 11 = .ok (.aload_n 0, 1) := by decide +kernel
theorem dM_due_12 : decode cM_due 12 = .ok (.iload_n 1, 1) := by decide +kernel
theorem dM_due_13 : decode cM_due 13 = .ok (.invokevirtual 132, 3) := by decide +kernel
theorem dM_due_16 : decode cM_due 16 = .ok (.iaload, 1) := by decide +kernel
theorem dM_due_17 : decode cM_due 17 = .ok (.if_icmp .ne 24, 3) := by decide +kernel
theorem dM_due_20 : decode cM_due 20 = .ok (.aload_n 0, 1) := by decide +kernel
theorem dM_due_21 : decode cM_due 21 = .ok (.iload_n 1, 1) := by decide +kernel
theorem dM_due_22 : decode cM_due 22 = .ok (.invokevirtual 135, 3) := by decide +kernel
theorem dM_due_25 : decode cM_due 25 = .ok (.ifCond .ne 12, 3) := by decide +kernel
theorem dM_due_28 : decode cM_due 28 = .ok (.aload_n 0, 1) := by decide +kernel
theorem dM_due_29 : decode cM_due 29 = .ok (.getfield 50, 3) := by decide +kernel
theorem dM_due_32 : decode cM_due 32 = .ok (.iload_n 1, 1) := by decide +kernel
theorem dM_due_33 : decode cM_due 33 = .ok (.baload, 1) := by decide +kernel
theorem dM_due_34 : decode cM_due 34 = .ok (.ifCond .ne 7, 3) := by decide +kernel
theorem dM_due_37 : decode cM_due 37 = .ok (.iconst 1, 1) := by decide +kernel
theorem dM_due_38 : decode cM_due 38 = .ok (.goto 4, 3) := by decide +kernel
theorem dM_due_41 : decode cM_due 41 = .ok (.iconst 0, 1) := by decide +kernel
theorem dM_due_42 : decode cM_due 42 = .ok (.ireturn, 1) := by decide +kernel
theorem dM_bars_0 : decode cM_bars 0 = .ok (.iconst 0, 1) := by decide +kernel
theorem dM_bars_1 : decode cM_bars 1 = .ok (.istore_n 3, 1) := by decide +kernel
theorem dM_bars_2 : decode cM_bars 2 = .ok (.iload_n 3, 1) := by decide +kernel
theorem dM_bars_3 : decode cM_bars 3 = .ok (.aload_n 0, 1) := by decide +kernel
theorem dM_bars_4 : decode cM_bars 4 = .ok (.getfield 35, 3) := by decide +kernel
theorem dM_bars_7 : decode cM_bars 7 = .ok (.iload_n 1, 1) := by decide +kernel
theorem dM_bars_8 : decode cM_bars 8 = .ok (.iaload, 1) := by decide +kernel
theorem dM_bars_9 : decode cM_bars 9 = .ok (.if_icmp .ge 32, 3) := by decide +kernel
theorem dM_bars_12 : decode cM_bars 12 = .ok (.aload_n 0, 1) := by decide +kernel
theorem dM_bars_13 : decode cM_bars 13 = .ok (.getfield 32, 3) := by decide +kernel
theorem dM_bars_16 : decode cM_bars 16 = .ok (.sipush 300, 3) := by decide +kernel
theorem dM_bars_19 : decode cM_bars 19 = .ok (.iload_n 1, 1) := by decide +kernel
theorem dM_bars_20 : decode cM_bars 20 = .ok (.imul, 1) := by decide +kernel
theorem dM_bars_21 : decode cM_bars 21 = .ok (.iload_n 3, 1) := by decide +kernel
theorem dM_bars_22 : decode cM_bars 22 = .ok (.iadd, 1) := by decide +kernel
theorem dM_bars_23 : decode cM_bars 23 = .ok (.iaload, 1) := by decide +kernel
theorem dM_bars_24 : decode cM_bars 24 = .ok (.iconst 2, 1) := by decide +kernel
theorem dM_bars_25 : decode cM_bars 25 = .ok (.idiv, 1) := by decide +kernel
theorem dM_bars_26 : decode cM_bars 26 = .ok (.iload_n 2, 1) := by decide +kernel
theorem dM_bars_27 : decode cM_bars 27 = .ok (.invokestatic 138, 3) := by decide +kernel
theorem dM_bars_30 : decode cM_bars 30 = .ok (.ifCond .eq 5, 3) := by decide +kernel
theorem dM_bars_33 : decode cM_bars 33 = .ok (.iconst 1, 1) := by decide +kernel
theorem dM_bars_34 : decode cM_bars 34 = .ok (.ireturn, 1) := by decide +kernel
theorem dM_bars_35 : decode cM_bars 35 = .ok (.iinc 3 1, 3) := by decide +kernel
theorem dM_bars_38 : decode cM_bars 38 = .ok (.goto (-36), 3) := by decide +kernel
theorem dM_bars_41 : decode cM_bars 41 = .ok (.iconst 0, 1) := by decide +kernel
theorem dM_bars_42 : decode cM_bars 42 = .ok (.ireturn, 1) := by decide +kernel
theorem lmM_94 : Cond.methodLink R_M 94 yM_secondEdge ∈ bigW := bw 777 (by decide +kernel) rfl
theorem lmM_90 : Cond.methodLink R_M 90 yM_firstEdge ∈ bigW := bw 774 (by decide +kernel) rfl
theorem lfM_83 : Cond.fieldLink R_M 83 "RailYardModel" "width" "I" ∈ bigW := bw 632 (by decide +kernel) rfl
theorem lfM_87 : Cond.fieldLink R_M 87 "RailYardModel" "height" "I" ∈ bigW := bw 633 (by decide +kernel) rfl
theorem lmM_97 : Cond.methodLink R_M 97 yM_isTile ∈ bigW := bw 784 (by decide +kernel) rfl
theorem lfM_7 : Cond.fieldLink R_M 7 "RailYardModel" "laid" "[Z" ∈ bigW := bw 634 (by decide +kernel) rfl
theorem lmM_101 : Cond.methodLink R_M 101 yM_isPiece ∈ bigW := bw 855 (by decide +kernel) rfl
theorem lfM_13 : Cond.fieldLink R_M 13 "RailYardModel" "marks" "[I" ∈ bigW := bw 635 (by decide +kernel) rfl
theorem lmM_105 : Cond.methodLink R_M 105 yM_signalled ∈ bigW := bw 796 (by decide +kernel) rfl
theorem lmM_109 : Cond.methodLink R_M 109 yM_edgeOf ∈ bigW := bw 771 (by decide +kernel) rfl
theorem lmM_112 : Cond.methodLink R_M 112 yM_across ∈ bigW := bw 780 (by decide +kernel) rfl
theorem lmM_116 : Cond.methodLink R_M 116 yM_open ∈ bigW := bw 788 (by decide +kernel) rfl
theorem lfM_141 : Cond.fieldLink R_M 141 "RailYardModel" "trains" "I" ∈ bigW := bw 642 (by decide +kernel) rfl
theorem lfM_32 : Cond.fieldLink R_M 32 "RailYardModel" "row" "[I" ∈ bigW := bw 643 (by decide +kernel) rfl
theorem lfM_35 : Cond.fieldLink R_M 35 "RailYardModel" "many" "[I" ∈ bigW := bw 644 (by decide +kernel) rfl
theorem lfM_38 : Cond.fieldLink R_M 38 "RailYardModel" "size" "[I" ∈ bigW := bw 645 (by decide +kernel) rfl
theorem lfM_53 : Cond.fieldLink R_M 53 "RailYardModel" "orders" "[I" ∈ bigW := bw 650 (by decide +kernel) rfl
theorem lfM_59 : Cond.fieldLink R_M 59 "RailYardModel" "turn" "[I" ∈ bigW := bw 652 (by decide +kernel) rfl
theorem lmM_129 : Cond.methodLink R_M 129 yM_last ∈ bigW := bw 746 (by decide +kernel) rfl
theorem lfM_17 : Cond.fieldLink R_M 17 "RailYardModel" "spot" "[I" ∈ bigW := bw 637 (by decide +kernel) rfl
theorem lmM_132 : Cond.methodLink R_M 132 yM_goal ∈ bigW := bw 738 (by decide +kernel) rfl
theorem lmM_135 : Cond.methodLink R_M 135 yM_ahead ∈ bigW := bw 750 (by decide +kernel) rfl
theorem lfM_50 : Cond.fieldLink R_M 50 "RailYardModel" "loaded" "[Z" ∈ bigW := bw 649 (by decide +kernel) rfl
theorem lmM_138 : Cond.methodLink R_M 138 yM_cross ∈ bigW := bw 812 (by decide +kernel) rfl
theorem miM_secondEdge : MI yM_secondEdge cM_secondEdge 1 (some .int) 1 := ⟨bw 779 (by decide +kernel) rfl, bw 48 (by decide +kernel) rfl, ⟨by decide +kernel, by decide +kernel⟩, by decide +kernel, by decide⟩
theorem msM_secondEdge : Cond.static yM_secondEdge ∈ bigW := bw 778 (by decide +kernel) rfl
theorem miM_firstEdge : MI yM_firstEdge cM_firstEdge 1 (some .int) 1 := ⟨bw 776 (by decide +kernel) rfl, bw 48 (by decide +kernel) rfl, ⟨by decide +kernel, by decide +kernel⟩, by decide +kernel, by decide⟩
theorem msM_firstEdge : Cond.static yM_firstEdge ∈ bigW := bw 775 (by decide +kernel) rfl
theorem miM_isTile : MI yM_isTile cM_isTile 3 (some .boolean) 2 := ⟨bw 787 (by decide +kernel) rfl, bw 48 (by decide +kernel) rfl, ⟨by decide +kernel, by decide +kernel⟩, by decide +kernel, by decide⟩
theorem mvM_isTile : MV yM_isTile := ⟨bw 786 (by decide +kernel) rfl, bw 19 (by decide +kernel) rfl⟩
theorem miM_isPiece : MI yM_isPiece cM_isPiece 4 (some .boolean) 3 := ⟨bw 858 (by decide +kernel) rfl, bw 48 (by decide +kernel) rfl, ⟨by decide +kernel, by decide +kernel⟩, by decide +kernel, by decide⟩
theorem mvM_isPiece : MV yM_isPiece := ⟨bw 857 (by decide +kernel) rfl, bw 34 (by decide +kernel) rfl⟩
theorem miM_signalled : MI yM_signalled cM_signalled 2 (some .boolean) 1 := ⟨bw 799 (by decide +kernel) rfl, bw 48 (by decide +kernel) rfl, ⟨by decide +kernel, by decide +kernel⟩, by decide +kernel, by decide⟩
theorem mvM_signalled : MV yM_signalled := ⟨bw 798 (by decide +kernel) rfl, bw 22 (by decide +kernel) rfl⟩
theorem miM_edgeOf : MI yM_edgeOf cM_edgeOf 2 (some .int) 1 := ⟨bw 773 (by decide +kernel) rfl, bw 48 (by decide +kernel) rfl, ⟨by decide +kernel, by decide +kernel⟩, by decide +kernel, by decide⟩
theorem msM_edgeOf : Cond.static yM_edgeOf ∈ bigW := bw 772 (by decide +kernel) rfl
theorem miM_across : MI yM_across cM_across 5 (some .int) 2 := ⟨bw 783 (by decide +kernel) rfl, bw 48 (by decide +kernel) rfl, ⟨by decide +kernel, by decide +kernel⟩, by decide +kernel, by decide⟩
theorem mvM_across : MV yM_across := ⟨bw 782 (by decide +kernel) rfl, bw 18 (by decide +kernel) rfl⟩
theorem miM_open : MI yM_open cM_open 3 (some .boolean) 1 := ⟨bw 791 (by decide +kernel) rfl, bw 48 (by decide +kernel) rfl, ⟨by decide +kernel, by decide +kernel⟩, by decide +kernel, by decide⟩
theorem mvM_open : MV yM_open := ⟨bw 790 (by decide +kernel) rfl, bw 20 (by decide +kernel) rfl⟩
theorem miM_last : MI yM_last cM_last 2 (some .int) 1 := ⟨bw 749 (by decide +kernel) rfl, bw 48 (by decide +kernel) rfl, ⟨by decide +kernel, by decide +kernel⟩, by decide +kernel, by decide⟩
theorem mvM_last : MV yM_last := ⟨bw 748 (by decide +kernel) rfl, bw 12 (by decide +kernel) rfl⟩
theorem miM_goal : MI yM_goal cM_goal 2 (some .int) 1 := ⟨bw 741 (by decide +kernel) rfl, bw 48 (by decide +kernel) rfl, ⟨by decide +kernel, by decide +kernel⟩, by decide +kernel, by decide⟩
theorem mvM_goal : MV yM_goal := ⟨bw 740 (by decide +kernel) rfl, bw 10 (by decide +kernel) rfl⟩
theorem miM_ahead : MI yM_ahead cM_ahead 2 (some .int) 1 := ⟨bw 753 (by decide +kernel) rfl, bw 48 (by decide +kernel) rfl, ⟨by decide +kernel, by decide +kernel⟩, by decide +kernel, by decide⟩
theorem mvM_ahead : MV yM_ahead := ⟨bw 752 (by decide +kernel) rfl, bw 13 (by decide +kernel) rfl⟩
theorem miM_cross : MI yM_cross cM_cross 5 (some .boolean) 2 := ⟨bw 814 (by decide +kernel) rfl, bw 48 (by decide +kernel) rfl, ⟨by decide +kernel, by decide +kernel⟩, by decide +kernel, by decide⟩
theorem msM_cross : Cond.static yM_cross ∈ bigW := bw 813 (by decide +kernel) rfl
/-- the model's numbers are in their ranges -/
def mOK (w : RW) : Prop :=
  (3 ≤ w 77 0 ∧ w 77 0 ≤ 8 ∧ 3 ≤ w 77 1 ∧ w 77 1 ≤ 6) ∧
  (∀ p, 0 ≤ p → p < 288 → (w 78 p = 0 ∨ w 78 p = 1) ∧ 0 ≤ w 79 p ∧ w 79 p ≤ 3) ∧
  (0 ≤ w 77 4 ∧ w 77 4 ≤ 6 ∧ 0 ≤ w 77 10 ∧ w 77 10 ≤ 6) ∧
  (∀ s, 0 ≤ s → s < 6 → 0 ≤ w 80 s ∧ w 80 s < 288 ∧ 0 ≤ w 81 s ∧ w 81 s ≤ 50 ∧ 0 ≤ w 82 s ∧ w 82 s ≤ 500) ∧
  (∀ t, 0 ≤ t → t < 6 → 0 ≤ w 86 t ∧ w 86 t ≤ 96 ∧ 0 ≤ w 87 t ∧ w 87 t ≤ 5 ∧ w 87 t ≤ w 86 t ∧ 0 ≤ w 88 t ∧ w 88 t ≤ 3 ∧ 0 ≤ w 89 t ∧ w 89 t ≤ 2 ∧ 0 ≤ w 90 t ∧ w 90 t ≤ 100 ∧ (w 91 t = 0 ∨ w 91 t = 1) ∧ 0 ≤ w 93 t ∧ w 93 t ≤ 6 ∧ 0 ≤ w 94 t ∧ w 94 t < 6) ∧
  (∀ i, 0 ≤ i → i < 1800 → 0 ≤ w 85 i ∧ w 85 i < 576) ∧
  ∀ i, 0 ≤ i → i < 36 → 0 ≤ w 92 i ∧ w 92 i < 6
theorem ctM_firstEdge {G : vG} {l : Launch} {w : RW} {p : Int} (h : 0 ≤ p ∧ p < 6) : CTi G l yM_firstEdge cM_firstEdge 1 .int 0 [.inl p] w (fun r u => r = stt 0 p ∧ w = u) := by
  refine CTi.int (by decide) (Nat.le_of_ble_eq_true rfl) ?_
  intro X Q F hX hR
  subst hX
  show V G X 1 Q 0 [some (.inl p)] [] w
  refine V_iload_n (i := 0) F dM_firstEdge_0 rfl rfl ?_
  refine V_if_ne F 8 dM_firstEdge_1 (by decide) (fun h1 => ?_) (fun h1 => ?_)
  · refine V_iload_n (i := 0) F dM_firstEdge_8 rfl rfl ?_
    refine V_iconst F dM_firstEdge_9 (by decide) ?_
    refine V_icmp_ne F 17 dM_firstEdge_10 (by decide) (fun h10 => ?_) (fun h10 => ?_)
    · refine V_iload_n (i := 0) F dM_firstEdge_17 rfl rfl ?_
      refine V_iconst F dM_firstEdge_18 (by decide) ?_
      refine V_icmp_ne F 26 dM_firstEdge_19 (by decide) (fun h19 => ?_) (fun h19 => ?_)
      · refine V_iconst F dM_firstEdge_26 (by decide) ?_
        exact hR _ _ _ _ dM_firstEdge_27 (⟨by rcases (show p = 0 ∨ p = 1 ∨ p = 2 ∨ p = 3 ∨ p = 4 ∨ p = 5 by omega) with rfl | rfl | rfl | rfl | rfl | rfl <;> first | rfl | omega, rfl⟩)
      · refine V_iconst F dM_firstEdge_22 (by decide) ?_
        refine V_goto F 27 dM_firstEdge_23 (by decide) ?_
        exact hR _ _ _ _ dM_firstEdge_27 (⟨by rcases (show p = 0 ∨ p = 1 ∨ p = 2 ∨ p = 3 ∨ p = 4 ∨ p = 5 by omega) with rfl | rfl | rfl | rfl | rfl | rfl <;> first | rfl | omega, rfl⟩)
    · refine V_iconst F dM_firstEdge_13 (by decide) ?_
      refine V_goto F 27 dM_firstEdge_14 (by decide) ?_
      exact hR _ _ _ _ dM_firstEdge_27 (⟨by rcases (show p = 0 ∨ p = 1 ∨ p = 2 ∨ p = 3 ∨ p = 4 ∨ p = 5 by omega) with rfl | rfl | rfl | rfl | rfl | rfl <;> first | rfl | omega, rfl⟩)
  · refine V_iconst F dM_firstEdge_4 (by decide) ?_
    refine V_goto F 27 dM_firstEdge_5 (by decide) ?_
    exact hR _ _ _ _ dM_firstEdge_27 (⟨by rcases (show p = 0 ∨ p = 1 ∨ p = 2 ∨ p = 3 ∨ p = 4 ∨ p = 5 by omega) with rfl | rfl | rfl | rfl | rfl | rfl <;> first | rfl | omega, rfl⟩)
theorem ctM_secondEdge {G : vG} {l : Launch} {w : RW} {p : Int} (h : 0 ≤ p ∧ p < 6) : CTi G l yM_secondEdge cM_secondEdge 1 .int 0 [.inl p] w (fun r u => r = stt 1 p ∧ w = u) := by
  refine CTi.int (by decide) (Nat.le_of_ble_eq_true rfl) ?_
  intro X Q F hX hR
  subst hX
  show V G X 1 Q 0 [some (.inl p)] [] w
  refine V_iload_n (i := 0) F dM_secondEdge_0 rfl rfl ?_
  refine V_if_eq F 9 dM_secondEdge_1 (by decide) (fun h1 => ?_) (fun h1 => ?_)
  · refine V_iconst F dM_secondEdge_9 (by decide) ?_
    refine V_goto F 28 dM_secondEdge_10 (by decide) ?_
    exact hR _ _ _ _ dM_secondEdge_28 (⟨by rcases (show p = 0 ∨ p = 1 ∨ p = 2 ∨ p = 3 ∨ p = 4 ∨ p = 5 by omega) with rfl | rfl | rfl | rfl | rfl | rfl <;> first | rfl | omega, rfl⟩)
  · refine V_iload_n (i := 0) F dM_secondEdge_4 rfl rfl ?_
    refine V_iconst F dM_secondEdge_5 (by decide) ?_
    refine V_icmp_ne F 13 dM_secondEdge_6 (by decide) (fun h6 => ?_) (fun h6 => ?_)
    · refine V_iload_n (i := 0) F dM_secondEdge_13 rfl rfl ?_
      refine V_iconst F dM_secondEdge_14 (by decide) ?_
      refine V_icmp_eq F 23 dM_secondEdge_15 (by decide) (fun h15 => ?_) (fun h15 => ?_)
      · refine V_iconst F dM_secondEdge_23 (by decide) ?_
        refine V_goto F 28 dM_secondEdge_24 (by decide) ?_
        exact hR _ _ _ _ dM_secondEdge_28 (⟨by rcases (show p = 0 ∨ p = 1 ∨ p = 2 ∨ p = 3 ∨ p = 4 ∨ p = 5 by omega) with rfl | rfl | rfl | rfl | rfl | rfl <;> first | rfl | omega, rfl⟩)
      · refine V_iload_n (i := 0) F dM_secondEdge_18 rfl rfl ?_
        refine V_iconst F dM_secondEdge_19 (by decide) ?_
        refine V_icmp_ne F 27 dM_secondEdge_20 (by decide) (fun h20 => ?_) (fun h20 => ?_)
        · refine V_iconst F dM_secondEdge_27 (by decide) ?_
          exact hR _ _ _ _ dM_secondEdge_28 (⟨by rcases (show p = 0 ∨ p = 1 ∨ p = 2 ∨ p = 3 ∨ p = 4 ∨ p = 5 by omega) with rfl | rfl | rfl | rfl | rfl | rfl <;> first | rfl | omega, rfl⟩)
        · refine V_iconst F dM_secondEdge_23 (by decide) ?_
          refine V_goto F 28 dM_secondEdge_24 (by decide) ?_
          exact hR _ _ _ _ dM_secondEdge_28 (⟨by rcases (show p = 0 ∨ p = 1 ∨ p = 2 ∨ p = 3 ∨ p = 4 ∨ p = 5 by omega) with rfl | rfl | rfl | rfl | rfl | rfl <;> first | rfl | omega, rfl⟩)
    · refine V_iconst F dM_secondEdge_9 (by decide) ?_
      refine V_goto F 28 dM_secondEdge_10 (by decide) ?_
      exact hR _ _ _ _ dM_secondEdge_28 (⟨by rcases (show p = 0 ∨ p = 1 ∨ p = 2 ∨ p = 3 ∨ p = 4 ∨ p = 5 by omega) with rfl | rfl | rfl | rfl | rfl | rfl <;> first | rfl | omega, rfl⟩)
def eoQ (q : Int) : Int := if q % 2 = 0 then stt 0 (q / 2 % 6) else stt 1 (q / 2 % 6)
theorem stt_e {i : Nat} (hi : i < 2) {p : Int} (h : 0 ≤ p ∧ p < 6) : 0 ≤ stt i p ∧ stt i p < 4 := by
  rcases (show i = 0 ∨ i = 1 by omega) with rfl | rfl <;> rcases (show p = 0 ∨ p = 1 ∨ p = 2 ∨ p = 3 ∨ p = 4 ∨ p = 5 by omega) with rfl | rfl | rfl | rfl | rfl | rfl <;> decide
theorem eoQ_rng {q : Int} (h : 0 ≤ q) : 0 ≤ eoQ q ∧ eoQ q < 4 := by
  unfold eoQ
  split
  · exact stt_e (by omega) (by omega)
  · exact stt_e (by omega) (by omega)
theorem ctM_edgeOf {G : vG} {l : Launch} {w : RW} {q : Int} (h : 0 ≤ q ∧ q < 100000) : CTi G l yM_edgeOf cM_edgeOf 2 .int 1 [.inl q] w (fun r u => r = eoQ q ∧ w = u) := by
  refine CTi.int (by decide) (Nat.le_of_ble_eq_true rfl) ?_
  intro X Q F hX hR
  subst hX
  show V G X 2 Q 0 [some (.inl q), none] [] w
  refine V_iload_n (i := 0) F dM_edgeOf_0 rfl rfl ?_
  refine V_iconst F dM_edgeOf_1 (by decide) ?_
  refine V_idiv F dM_edgeOf_2 (by omega) ?_
  refine V_bipush F dM_edgeOf_3 (by decide) ?_
  refine V_irem F dM_edgeOf_5 (by omega) ?_
  refine V_istore_n (i := 1) F dM_edgeOf_6 rfl (by decide) (by simp only [List.set_cons_zero, List.set_cons_succ]; exact rfl) ?_
  refine V_iload_n (i := 0) F dM_edgeOf_7 rfl rfl ?_
  refine V_iconst F dM_edgeOf_8 (by decide) ?_
  refine V_irem F dM_edgeOf_9 (by omega) ?_
  refine V_if_ne F 20 dM_edgeOf_10 (by decide) (fun h10 => ?_) (fun h10 => ?_)
  · refine V_iload_n (i := 1) F dM_edgeOf_20 rfl rfl ?_
    refine V_callSi F dM_edgeOf_21 lmM_94 miM_secondEdge msM_secondEdge (ctM_secondEdge (by omega)) (by decide) rfl (Nat.le_of_ble_eq_true rfl) (fun r u hr => ?_)
    obtain ⟨rfl, rfl⟩ := hr
    exact hR _ _ _ _ dM_edgeOf_24 (by unfold eoQ; first | exact ⟨(if_pos (by omega)).symm, rfl⟩ | exact ⟨(if_neg (by omega)).symm, rfl⟩)
  · refine V_iload_n (i := 1) F dM_edgeOf_13 rfl rfl ?_
    refine V_callSi F dM_edgeOf_14 lmM_90 miM_firstEdge msM_firstEdge (ctM_firstEdge (by omega)) (by decide) rfl (Nat.le_of_ble_eq_true rfl) (fun r u hr => ?_)
    obtain ⟨rfl, rfl⟩ := hr
    refine V_goto F 24 dM_edgeOf_17 (by decide) ?_
    exact hR _ _ _ _ dM_edgeOf_24 (by unfold eoQ; first | exact ⟨(if_pos (by omega)).symm, rfl⟩ | exact ⟨(if_neg (by omega)).symm, rfl⟩)
theorem ctM_isTile {G : vG} {l : Launch} {w : RW} {x y : Int} : CTi G l yM_isTile cM_isTile 3 .boolean 0 [.inr 77, .inl x, .inl y] w (fun r u => r = bz (isT (w 77 0) (w 77 1) x y) ∧ w = u) := by
  refine CTi.bool (by decide) (Nat.le_of_ble_eq_true rfl) ?_
  intro X Q F hX hR
  subst hX
  show V G X 3 Q 0 [some (.inr 77), some (.inl x), some (.inl y)] [] w
  refine V_iload_n (i := 1) F dM_isTile_0 rfl rfl ?_
  refine V_if_lt F 28 dM_isTile_1 (by decide) (fun h1 => ?_) (fun h1 => ?_)
  · refine V_iconst F dM_isTile_28 (by decide) ?_
    exact hR _ _ _ _ dM_isTile_29 (by first | exact Or.inl rfl | exact Or.inr rfl | exact bz_01 _ | assumption) (by first | exact ⟨(bz_t (by unfold isT; omega)).symm, rfl⟩ | exact ⟨(bz_f (by unfold isT; omega)).symm, rfl⟩)
  · refine V_iload_n (i := 1) F dM_isTile_4 rfl rfl ?_
    refine V_aload_n (i := 0) F dM_isTile_5 rfl rfl ?_
    refine V_geti (ci := 7) (C := R_M) (T := T_M) (N := 32) F dM_isTile_6 (by first | rfl | assumption) rfl (j := 0) 0 rfl (by decide) rfl lfM_83 ?_
    refine V_icmp_ge F 28 dM_isTile_9 (by decide) (fun h9 => ?_) (fun h9 => ?_)
    · refine V_iconst F dM_isTile_28 (by decide) ?_
      exact hR _ _ _ _ dM_isTile_29 (by first | exact Or.inl rfl | exact Or.inr rfl | exact bz_01 _ | assumption) (by first | exact ⟨(bz_t (by unfold isT; omega)).symm, rfl⟩ | exact ⟨(bz_f (by unfold isT; omega)).symm, rfl⟩)
    · refine V_iload_n (i := 2) F dM_isTile_12 rfl rfl ?_
      refine V_if_lt F 28 dM_isTile_13 (by decide) (fun h13 => ?_) (fun h13 => ?_)
      · refine V_iconst F dM_isTile_28 (by decide) ?_
        exact hR _ _ _ _ dM_isTile_29 (by first | exact Or.inl rfl | exact Or.inr rfl | exact bz_01 _ | assumption) (by first | exact ⟨(bz_t (by unfold isT; omega)).symm, rfl⟩ | exact ⟨(bz_f (by unfold isT; omega)).symm, rfl⟩)
      · refine V_iload_n (i := 2) F dM_isTile_16 rfl rfl ?_
        refine V_aload_n (i := 0) F dM_isTile_17 rfl rfl ?_
        refine V_geti (ci := 7) (C := R_M) (T := T_M) (N := 32) F dM_isTile_18 (by first | rfl | assumption) rfl (j := 1) 1 rfl (by decide) rfl lfM_87 ?_
        refine V_icmp_ge F 28 dM_isTile_21 (by decide) (fun h21 => ?_) (fun h21 => ?_)
        · refine V_iconst F dM_isTile_28 (by decide) ?_
          exact hR _ _ _ _ dM_isTile_29 (by first | exact Or.inl rfl | exact Or.inr rfl | exact bz_01 _ | assumption) (by first | exact ⟨(bz_t (by unfold isT; omega)).symm, rfl⟩ | exact ⟨(bz_f (by unfold isT; omega)).symm, rfl⟩)
        · refine V_iconst F dM_isTile_24 (by decide) ?_
          refine V_goto F 29 dM_isTile_25 (by decide) ?_
          exact hR _ _ _ _ dM_isTile_29 (by first | exact Or.inl rfl | exact Or.inr rfl | exact bz_01 _ | assumption) (by first | exact ⟨(bz_t (by unfold isT; omega)).symm, rfl⟩ | exact ⟨(bz_f (by unfold isT; omega)).symm, rfl⟩)
def lpc (w : RW) (x y p : Int) : Prop := isT (w 77 0) (w 77 1) x y ∧ (0 ≤ p ∧ p ≤ 5) ∧ ¬ w 78 (6 * (8 * y + x) + p) = 0
theorem ctM_isPiece {G : vG} {l : Launch} {w : RW} {x y p : Int} (hm : mOK w) : CTi G l yM_isPiece cM_isPiece 4 .boolean 1 [.inr 77, .inl x, .inl y, .inl p] w (fun r u => r = bz (lpc w x y p) ∧ w = u) := by
  refine CTi.bool (by decide) (Nat.le_of_ble_eq_true rfl) ?_
  intro X Q F hX hR
  subst hX
  show V G X 4 Q 0 [some (.inr 77), some (.inl x), some (.inl y), some (.inl p)] [] w
  obtain ⟨hm1, -⟩ := hm
  refine V_aload_n (i := 0) F dM_isPiece_0 rfl rfl ?_
  refine V_iload_n (i := 1) F dM_isPiece_1 rfl rfl ?_
  refine V_iload_n (i := 2) F dM_isPiece_2 rfl rfl ?_
  refine V_callVi F dM_isPiece_3 lmM_97 miM_isTile mvM_isTile (ctM_isTile) (by decide) (by first | rfl | assumption) rfl rfl (Nat.le_of_ble_eq_true rfl) (fun r u hr => ?_)
  obtain ⟨rfl, rfl⟩ := hr
  refine V_if_eq F 41 dM_isPiece_6 (by decide) (fun h6 => ?_) (fun h6 => ?_)
  · first | (replace h6 := bz_ne0.mp h6) | (replace h6 := bz_eq0.mp h6) | skip
    refine V_iconst F dM_isPiece_41 (by decide) ?_
    exact hR _ _ _ _ dM_isPiece_42 (by first | exact Or.inl rfl | exact Or.inr rfl | exact bz_01 _ | assumption) (by first | exact ⟨(bz_t (by unfold lpc isT; unfold isT at h6; omega)).symm, rfl⟩ | exact ⟨(bz_f (by unfold lpc isT; unfold isT at h6; omega)).symm, rfl⟩)
  · first | (replace h6 := bz_ne0.mp h6) | (replace h6 := bz_eq0.mp h6) | skip
    have hh : 0 ≤ x ∧ x < w 77 0 ∧ 0 ≤ y ∧ y < w 77 1 := h6
    refine V_iload_n (i := 3) F dM_isPiece_9 rfl rfl ?_
    refine V_if_lt F 41 dM_isPiece_10 (by decide) (fun h10 => ?_) (fun h10 => ?_)
    · first | (replace h10 := bz_ne0.mp h10) | (replace h10 := bz_eq0.mp h10) | skip
      refine V_iconst F dM_isPiece_41 (by decide) ?_
      exact hR _ _ _ _ dM_isPiece_42 (by first | exact Or.inl rfl | exact Or.inr rfl | exact bz_01 _ | assumption) (by first | exact ⟨(bz_t (by unfold lpc isT; unfold isT at h6; omega)).symm, rfl⟩ | exact ⟨(bz_f (by unfold lpc isT; unfold isT at h6; omega)).symm, rfl⟩)
    · first | (replace h10 := bz_ne0.mp h10) | (replace h10 := bz_eq0.mp h10) | skip
      refine V_iload_n (i := 3) F dM_isPiece_13 rfl rfl ?_
      refine V_iconst F dM_isPiece_14 (by decide) ?_
      refine V_icmp_gt F 41 dM_isPiece_15 (by decide) (fun h15 => ?_) (fun h15 => ?_)
      · first | (replace h15 := bz_ne0.mp h15) | (replace h15 := bz_eq0.mp h15) | skip
        refine V_iconst F dM_isPiece_41 (by decide) ?_
        exact hR _ _ _ _ dM_isPiece_42 (by first | exact Or.inl rfl | exact Or.inr rfl | exact bz_01 _ | assumption) (by first | exact ⟨(bz_t (by unfold lpc isT; unfold isT at h6; omega)).symm, rfl⟩ | exact ⟨(bz_f (by unfold lpc isT; unfold isT at h6; omega)).symm, rfl⟩)
      · first | (replace h15 := bz_ne0.mp h15) | (replace h15 := bz_eq0.mp h15) | skip
        refine V_aload_n (i := 0) F dM_isPiece_18 rfl rfl ?_
        refine V_getr (ci := 7) (C := R_M) (T := T_M) (N := 32) F dM_isPiece_19 (by first | rfl | assumption) rfl (j := 2) (by decide) rfl lfM_7 ?_
        refine V_bipush F dM_isPiece_22 (by decide) ?_
        refine V_bipush F dM_isPiece_24 (by decide) ?_
        refine V_iload_n (i := 2) F dM_isPiece_26 rfl rfl ?_
        refine V_imul F dM_isPiece_27 (by omega) ?_
        refine V_iload_n (i := 1) F dM_isPiece_28 rfl rfl ?_
        refine V_iadd F dM_isPiece_29 (by omega) ?_
        refine V_imul F dM_isPiece_30 (by omega) ?_
        refine V_iload_n (i := 3) F dM_isPiece_31 rfl rfl ?_
        refine V_iadd F dM_isPiece_32 (by omega) ?_
        refine V_zald F dM_isPiece_33 (by first | rfl | assumption) rfl (by omega) ?_
        refine V_if_eq F 41 dM_isPiece_34 (by decide) (fun h34 => ?_) (fun h34 => ?_)
        · first | (replace h34 := bz_ne0.mp h34) | (replace h34 := bz_eq0.mp h34) | skip
          refine V_iconst F dM_isPiece_41 (by decide) ?_
          exact hR _ _ _ _ dM_isPiece_42 (by first | exact Or.inl rfl | exact Or.inr rfl | exact bz_01 _ | assumption) (by first | exact ⟨(bz_t (by unfold lpc isT; unfold isT at h6; omega)).symm, rfl⟩ | exact ⟨(bz_f (by unfold lpc isT; unfold isT at h6; omega)).symm, rfl⟩)
        · first | (replace h34 := bz_ne0.mp h34) | (replace h34 := bz_eq0.mp h34) | skip
          refine V_iconst F dM_isPiece_37 (by decide) ?_
          refine V_goto F 42 dM_isPiece_38 (by decide) ?_
          exact hR _ _ _ _ dM_isPiece_42 (by first | exact Or.inl rfl | exact Or.inr rfl | exact bz_01 _ | assumption) (by first | exact ⟨(bz_t (by unfold lpc isT; unfold isT at h6; omega)).symm, rfl⟩ | exact ⟨(bz_f (by unfold lpc isT; unfold isT at h6; omega)).symm, rfl⟩)
noncomputable def twd (w : RW) (x y p e : Int) : Int := cif (lpc w x y p ∧ hsE p e) (2 * (6 * (8 * y + x) + p) + (if e = stt 0 p then 0 else 1)) (-1)
theorem ctM_toward {G : vG} {l : Launch} {w : RW} {x y p e : Int} (hm : mOK w) : CTi G l yM_toward cM_toward 5 .int 2 [.inr 77, .inl x, .inl y, .inl p, .inl e] w (fun r u => r = twd w x y p e ∧ w = u) := by
  refine CTi.int (by decide) (Nat.le_of_ble_eq_true rfl) ?_
  intro X Q F hX hR
  subst hX
  show V G X 5 Q 0 [some (.inr 77), some (.inl x), some (.inl y), some (.inl p), some (.inl e)] [] w
  refine V_aload_n (i := 0) F dM_toward_0 rfl rfl ?_
  refine V_iload_n (i := 1) F dM_toward_1 rfl rfl ?_
  refine V_iload_n (i := 2) F dM_toward_2 rfl rfl ?_
  refine V_iload_n (i := 3) F dM_toward_3 rfl rfl ?_
  refine V_callVi F dM_toward_4 lmM_101 miM_isPiece mvM_isPiece (ctM_isPiece hm) (by decide) (by first | rfl | assumption) rfl rfl (Nat.le_of_ble_eq_true rfl) (fun r u hr => ?_)
  obtain ⟨rfl, rfl⟩ := hr
  refine V_if_eq F 28 dM_toward_7 (by decide) (fun h7 => ?_) (fun h7 => ?_)
  · first | (replace h7 := bz_ne0.mp h7) | (replace h7 := bz_eq0.mp h7) | skip
    refine V_iconst F dM_toward_28 (by decide) ?_
    exact hR _ _ _ _ dM_toward_29 (by first | (exfalso; omega) | exact ⟨(cif_f (fun q => h7 q.1)).symm, rfl⟩ | exact ⟨(cif_f (fun q => by have := q.2; unfold hsE at this; omega)).symm, rfl⟩ | exact ⟨by unfold twd; rw [if_pos h49]; exact (cif_t ⟨h7, by unfold hsE; omega⟩).symm, rfl⟩ | exact ⟨by unfold twd; rw [if_neg h49]; exact (cif_t ⟨h7, by unfold hsE; omega⟩).symm, rfl⟩)
  · first | (replace h7 := bz_ne0.mp h7) | (replace h7 := bz_eq0.mp h7) | skip
    have hh : (0 ≤ x ∧ x < w 77 0 ∧ 0 ≤ y ∧ y < w 77 1) ∧ (0 ≤ p ∧ p ≤ 5) ∧ ¬ w 78 (6 * (8 * y + x) + p) = 0 := h7
    have hm1 := hm.1
    refine V_iload F dM_toward_10 rfl ?_
    refine V_iload_n (i := 3) F dM_toward_12 rfl rfl ?_
    refine V_callSi F dM_toward_13 lmM_90 miM_firstEdge msM_firstEdge (ctM_firstEdge (by omega)) (by decide) rfl (Nat.le_of_ble_eq_true rfl) (fun r u hr => ?_)
    obtain ⟨rfl, rfl⟩ := hr
    refine V_icmp_eq F 30 dM_toward_16 (by decide) (fun h16 => ?_) (fun h16 => ?_)
    · first | (replace h16 := bz_ne0.mp h16) | (replace h16 := bz_eq0.mp h16) | skip
      refine V_iconst F dM_toward_30 (by decide) ?_
      refine V_bipush F dM_toward_31 (by decide) ?_
      refine V_bipush F dM_toward_33 (by decide) ?_
      refine V_iload_n (i := 2) F dM_toward_35 rfl rfl ?_
      refine V_imul F dM_toward_36 (by omega) ?_
      refine V_iload_n (i := 1) F dM_toward_37 rfl rfl ?_
      refine V_iadd F dM_toward_38 (by omega) ?_
      refine V_imul F dM_toward_39 (by omega) ?_
      refine V_iload_n (i := 3) F dM_toward_40 rfl rfl ?_
      refine V_iadd F dM_toward_41 (by omega) ?_
      refine V_imul F dM_toward_42 (by omega) ?_
      refine V_iload F dM_toward_43 rfl ?_
      refine V_iload_n (i := 3) F dM_toward_45 rfl rfl ?_
      refine V_callSi F dM_toward_46 lmM_90 miM_firstEdge msM_firstEdge (ctM_firstEdge (by omega)) (by decide) rfl (Nat.le_of_ble_eq_true rfl) (fun r u hr => ?_)
      obtain ⟨rfl, rfl⟩ := hr
      refine V_icmp_ne F 56 dM_toward_49 (by decide) (fun h49 => ?_) (fun h49 => ?_)
      · first | (replace h49 := bz_ne0.mp h49) | (replace h49 := bz_eq0.mp h49) | skip
        refine V_iconst F dM_toward_56 (by decide) ?_
        refine V_iadd F dM_toward_57 (by omega) ?_
        exact hR _ _ _ _ dM_toward_58 (by first | (exfalso; omega) | exact ⟨(cif_f (fun q => h7 q.1)).symm, rfl⟩ | exact ⟨(cif_f (fun q => by have := q.2; unfold hsE at this; omega)).symm, rfl⟩ | exact ⟨by unfold twd; rw [if_pos h49]; exact (cif_t ⟨h7, by unfold hsE; omega⟩).symm, rfl⟩ | exact ⟨by unfold twd; rw [if_neg h49]; exact (cif_t ⟨h7, by unfold hsE; omega⟩).symm, rfl⟩)
      · first | (replace h49 := bz_ne0.mp h49) | (replace h49 := bz_eq0.mp h49) | skip
        refine V_iconst F dM_toward_52 (by decide) ?_
        refine V_goto F 57 dM_toward_53 (by decide) ?_
        refine V_iadd F dM_toward_57 (by omega) ?_
        exact hR _ _ _ _ dM_toward_58 (by first | (exfalso; omega) | exact ⟨(cif_f (fun q => h7 q.1)).symm, rfl⟩ | exact ⟨(cif_f (fun q => by have := q.2; unfold hsE at this; omega)).symm, rfl⟩ | exact ⟨by unfold twd; rw [if_pos h49]; exact (cif_t ⟨h7, by unfold hsE; omega⟩).symm, rfl⟩ | exact ⟨by unfold twd; rw [if_neg h49]; exact (cif_t ⟨h7, by unfold hsE; omega⟩).symm, rfl⟩)
    · first | (replace h16 := bz_ne0.mp h16) | (replace h16 := bz_eq0.mp h16) | skip
      refine V_iload F dM_toward_19 rfl ?_
      refine V_iload_n (i := 3) F dM_toward_21 rfl rfl ?_
      refine V_callSi F dM_toward_22 lmM_94 miM_secondEdge msM_secondEdge (ctM_secondEdge (by omega)) (by decide) rfl (Nat.le_of_ble_eq_true rfl) (fun r u hr => ?_)
      obtain ⟨rfl, rfl⟩ := hr
      refine V_icmp_eq F 30 dM_toward_25 (by decide) (fun h25 => ?_) (fun h25 => ?_)
      · first | (replace h25 := bz_ne0.mp h25) | (replace h25 := bz_eq0.mp h25) | skip
        refine V_iconst F dM_toward_30 (by decide) ?_
        refine V_bipush F dM_toward_31 (by decide) ?_
        refine V_bipush F dM_toward_33 (by decide) ?_
        refine V_iload_n (i := 2) F dM_toward_35 rfl rfl ?_
        refine V_imul F dM_toward_36 (by omega) ?_
        refine V_iload_n (i := 1) F dM_toward_37 rfl rfl ?_
        refine V_iadd F dM_toward_38 (by omega) ?_
        refine V_imul F dM_toward_39 (by omega) ?_
        refine V_iload_n (i := 3) F dM_toward_40 rfl rfl ?_
        refine V_iadd F dM_toward_41 (by omega) ?_
        refine V_imul F dM_toward_42 (by omega) ?_
        refine V_iload F dM_toward_43 rfl ?_
        refine V_iload_n (i := 3) F dM_toward_45 rfl rfl ?_
        refine V_callSi F dM_toward_46 lmM_90 miM_firstEdge msM_firstEdge (ctM_firstEdge (by omega)) (by decide) rfl (Nat.le_of_ble_eq_true rfl) (fun r u hr => ?_)
        obtain ⟨rfl, rfl⟩ := hr
        refine V_icmp_ne F 56 dM_toward_49 (by decide) (fun h49 => ?_) (fun h49 => ?_)
        · first | (replace h49 := bz_ne0.mp h49) | (replace h49 := bz_eq0.mp h49) | skip
          refine V_iconst F dM_toward_56 (by decide) ?_
          refine V_iadd F dM_toward_57 (by omega) ?_
          exact hR _ _ _ _ dM_toward_58 (by first | (exfalso; omega) | exact ⟨(cif_f (fun q => h7 q.1)).symm, rfl⟩ | exact ⟨(cif_f (fun q => by have := q.2; unfold hsE at this; omega)).symm, rfl⟩ | exact ⟨by unfold twd; rw [if_pos h49]; exact (cif_t ⟨h7, by unfold hsE; omega⟩).symm, rfl⟩ | exact ⟨by unfold twd; rw [if_neg h49]; exact (cif_t ⟨h7, by unfold hsE; omega⟩).symm, rfl⟩)
        · first | (replace h49 := bz_ne0.mp h49) | (replace h49 := bz_eq0.mp h49) | skip
          refine V_iconst F dM_toward_52 (by decide) ?_
          refine V_goto F 57 dM_toward_53 (by decide) ?_
          refine V_iadd F dM_toward_57 (by omega) ?_
          exact hR _ _ _ _ dM_toward_58 (by first | (exfalso; omega) | exact ⟨(cif_f (fun q => h7 q.1)).symm, rfl⟩ | exact ⟨(cif_f (fun q => by have := q.2; unfold hsE at this; omega)).symm, rfl⟩ | exact ⟨by unfold twd; rw [if_pos h49]; exact (cif_t ⟨h7, by unfold hsE; omega⟩).symm, rfl⟩ | exact ⟨by unfold twd; rw [if_neg h49]; exact (cif_t ⟨h7, by unfold hsE; omega⟩).symm, rfl⟩)
      · first | (replace h25 := bz_ne0.mp h25) | (replace h25 := bz_eq0.mp h25) | skip
        refine V_iconst F dM_toward_28 (by decide) ?_
        exact hR _ _ _ _ dM_toward_29 (by first | (exfalso; omega) | exact ⟨(cif_f (fun q => h7 q.1)).symm, rfl⟩ | exact ⟨(cif_f (fun q => by have := q.2; unfold hsE at this; omega)).symm, rfl⟩ | exact ⟨by unfold twd; rw [if_pos h49]; exact (cif_t ⟨h7, by unfold hsE; omega⟩).symm, rfl⟩ | exact ⟨by unfold twd; rw [if_neg h49]; exact (cif_t ⟨h7, by unfold hsE; omega⟩).symm, rfl⟩)
def opQ (m q : Int) : Prop := (q % 2 = 0 → ¬ m = 2) ∧ (¬ q % 2 = 0 → ¬ m = 1)
theorem ctM_open {G : vG} {l : Launch} {w : RW} {q : Int} (h : 0 ≤ q ∧ q < 576) : CTi G l yM_open cM_open 3 .boolean 0 [.inr 77, .inl q] w (fun r u => r = bz (opQ (w 79 (q / 2)) q) ∧ w = u) := by
  refine CTi.bool (by decide) (Nat.le_of_ble_eq_true rfl) ?_
  intro X Q F hX hR
  subst hX
  show V G X 3 Q 0 [some (.inr 77), some (.inl q), none] [] w
  refine V_aload_n (i := 0) F dM_open_0 rfl rfl ?_
  refine V_getr (ci := 7) (C := R_M) (T := T_M) (N := 32) F dM_open_1 (by first | rfl | assumption) rfl (j := 3) (by decide) rfl lfM_13 ?_
  refine V_iload_n (i := 1) F dM_open_4 rfl rfl ?_
  refine V_iconst F dM_open_5 (by decide) ?_
  refine V_idiv F dM_open_6 (by omega) ?_
  first
    | refine V_sald F dM_open_7 (by decide) (by omega) (stt_in _ _) ?_
    | refine V_iald F dM_open_7 (by first | rfl | assumption) rfl (by omega) ?_
  refine V_istore_n (i := 2) F dM_open_8 rfl (by decide) (by simp only [List.set_cons_zero, List.set_cons_succ]; exact rfl) ?_
  refine V_iload_n (i := 1) F dM_open_9 rfl rfl ?_
  refine V_iconst F dM_open_10 (by decide) ?_
  refine V_irem F dM_open_11 (by omega) ?_
  refine V_if_ne F 28 dM_open_12 (by decide) (fun h12 => ?_) (fun h12 => ?_)
  · refine V_iload_n (i := 2) F dM_open_28 rfl rfl ?_
    refine V_iconst F dM_open_29 (by decide) ?_
    refine V_icmp_eq F 37 dM_open_30 (by decide) (fun h30 => ?_) (fun h30 => ?_)
    · refine V_iconst F dM_open_37 (by decide) ?_
      exact hR _ _ _ _ dM_open_38 (by first | exact Or.inl rfl | exact Or.inr rfl | exact bz_01 _ | assumption) (by first | exact ⟨(bz_t (by unfold opQ; omega)).symm, rfl⟩ | exact ⟨(bz_f (by unfold opQ; omega)).symm, rfl⟩)
    · refine V_iconst F dM_open_33 (by decide) ?_
      refine V_goto F 38 dM_open_34 (by decide) ?_
      exact hR _ _ _ _ dM_open_38 (by first | exact Or.inl rfl | exact Or.inr rfl | exact bz_01 _ | assumption) (by first | exact ⟨(bz_t (by unfold opQ; omega)).symm, rfl⟩ | exact ⟨(bz_f (by unfold opQ; omega)).symm, rfl⟩)
  · refine V_iload_n (i := 2) F dM_open_15 rfl rfl ?_
    refine V_iconst F dM_open_16 (by decide) ?_
    refine V_icmp_eq F 24 dM_open_17 (by decide) (fun h17 => ?_) (fun h17 => ?_)
    · refine V_iconst F dM_open_24 (by decide) ?_
      refine V_goto F 38 dM_open_25 (by decide) ?_
      exact hR _ _ _ _ dM_open_38 (by first | exact Or.inl rfl | exact Or.inr rfl | exact bz_01 _ | assumption) (by first | exact ⟨(bz_t (by unfold opQ; omega)).symm, rfl⟩ | exact ⟨(bz_f (by unfold opQ; omega)).symm, rfl⟩)
    · refine V_iconst F dM_open_20 (by decide) ?_
      refine V_goto F 38 dM_open_21 (by decide) ?_
      exact hR _ _ _ _ dM_open_38 (by first | exact Or.inl rfl | exact Or.inr rfl | exact bz_01 _ | assumption) (by first | exact ⟨(bz_t (by unfold opQ; omega)).symm, rfl⟩ | exact ⟨(bz_f (by unfold opQ; omega)).symm, rfl⟩)
theorem ctM_signalled {G : vG} {l : Launch} {w : RW} {q : Int} (h : 0 ≤ q ∧ q < 576) (hm : mOK w) : CTi G l yM_signalled cM_signalled 2 .boolean 0 [.inr 77, .inl q] w (fun r u => r = bz (tb (w 79 (q / 2)) (q % 2)) ∧ w = u) := by
  refine CTi.bool (by decide) (Nat.le_of_ble_eq_true rfl) ?_
  intro X Q F hX hR
  subst hX
  show V G X 2 Q 0 [some (.inr 77), some (.inl q)] [] w
  have hm1 := (hm.2.1 (q / 2) (by omega) (by omega)).2
  refine V_aload_n (i := 0) F dM_signalled_0 rfl rfl ?_
  refine V_getr (ci := 7) (C := R_M) (T := T_M) (N := 32) F dM_signalled_1 (by first | rfl | assumption) rfl (j := 3) (by decide) rfl lfM_13 ?_
  refine V_iload_n (i := 1) F dM_signalled_4 rfl rfl ?_
  refine V_iconst F dM_signalled_5 (by decide) ?_
  refine V_idiv F dM_signalled_6 (by omega) ?_
  first
    | refine V_sald F dM_signalled_7 (by decide) (by omega) (stt_in _ _) ?_
    | refine V_iald F dM_signalled_7 (by first | rfl | assumption) rfl (by omega) ?_
  refine V_iload_n (i := 1) F dM_signalled_8 rfl rfl ?_
  refine V_iconst F dM_signalled_9 (by decide) ?_
  refine V_irem F dM_signalled_10 (by omega) ?_
  refine V_ishr F _ dM_signalled_11 rfl ?_
  refine V_iconst F dM_signalled_12 (by decide) ?_
  refine V_iand F _ dM_signalled_13 (bit_1 (by omega) (by omega)) ?_
  refine V_iconst F dM_signalled_14 (by decide) ?_
  refine V_icmp_ne F 22 dM_signalled_15 (by decide) (fun h15 => ?_) (fun h15 => ?_)
  · first | (replace h15 := bz_ne0.mp h15) | (replace h15 := bz_eq0.mp h15) | (replace h15 := bz_eq1.mp h15) | (replace h15 := fun q => h15 (bz_eq1.mpr q)) | skip
    refine V_iconst F dM_signalled_22 (by decide) ?_
    exact hR _ _ _ _ dM_signalled_23 (by first | exact Or.inl rfl | exact Or.inr rfl | exact bz_01 _ | assumption) (by first | exact ⟨(bz_t (by assumption)).symm, rfl⟩ | exact ⟨(bz_f (by assumption)).symm, rfl⟩)
  · first | (replace h15 := bz_ne0.mp h15) | (replace h15 := bz_eq0.mp h15) | (replace h15 := bz_eq1.mp h15) | (replace h15 := fun q => h15 (bz_eq1.mpr q)) | skip
    refine V_iconst F dM_signalled_18 (by decide) ?_
    refine V_goto F 23 dM_signalled_19 (by decide) ?_
    exact hR _ _ _ _ dM_signalled_23 (by first | exact Or.inl rfl | exact Or.inr rfl | exact bz_01 _ | assumption) (by first | exact ⟨(bz_t (by assumption)).symm, rfl⟩ | exact ⟨(bz_f (by assumption)).symm, rfl⟩)
noncomputable def mco (m q : Int) : Int := (if q / 2 % 6 < 2 then 10 else 7) + cif (tb m (q % 2)) 5 0
theorem ctM_cost {G : vG} {l : Launch} {w : RW} {q : Int} (h : 0 ≤ q ∧ q < 576) (hm : mOK w) : CTi G l yM_cost cM_cost 2 .int 1 [.inr 77, .inl q] w (fun r u => r = mco (w 79 (q / 2)) q ∧ w = u) := by
  refine CTi.int (by decide) (Nat.le_of_ble_eq_true rfl) ?_
  intro X Q F hX hR
  subst hX
  show V G X 2 Q 0 [some (.inr 77), some (.inl q)] [] w
  refine V_iload_n (i := 1) F dM_cost_0 rfl rfl ?_
  refine V_iconst F dM_cost_1 (by decide) ?_
  refine V_idiv F dM_cost_2 (by omega) ?_
  refine V_bipush F dM_cost_3 (by decide) ?_
  refine V_irem F dM_cost_5 (by omega) ?_
  refine V_iconst F dM_cost_6 (by decide) ?_
  refine V_icmp_ge F 15 dM_cost_7 (by decide) (fun h7 => ?_) (fun h7 => ?_)
  · first | (replace h7 := bz_ne0.mp h7) | (replace h7 := bz_eq0.mp h7) | skip
    refine V_bipush F dM_cost_15 (by decide) ?_
    refine V_aload_n (i := 0) F dM_cost_17 rfl rfl ?_
    refine V_iload_n (i := 1) F dM_cost_18 rfl rfl ?_
    refine V_callVi F dM_cost_19 lmM_105 miM_signalled mvM_signalled (ctM_signalled h hm) (by decide) (by first | rfl | assumption) rfl rfl (Nat.le_of_ble_eq_true rfl) (fun r u hr => ?_)
    obtain ⟨rfl, rfl⟩ := hr
    refine V_if_eq F 29 dM_cost_22 (by decide) (fun h22 => ?_) (fun h22 => ?_)
    · first | (replace h22 := bz_ne0.mp h22) | (replace h22 := bz_eq0.mp h22) | skip
      refine V_iconst F dM_cost_29 (by decide) ?_
      refine V_iadd F dM_cost_30 (by omega) ?_
      exact hR _ _ _ _ dM_cost_31 (by first | exact ⟨by unfold mco; rw [cif_t h22]; split <;> omega, rfl⟩ | exact ⟨by unfold mco; rw [cif_f h22]; split <;> omega, rfl⟩)
    · first | (replace h22 := bz_ne0.mp h22) | (replace h22 := bz_eq0.mp h22) | skip
      refine V_iconst F dM_cost_25 (by decide) ?_
      refine V_goto F 30 dM_cost_26 (by decide) ?_
      refine V_iadd F dM_cost_30 (by omega) ?_
      exact hR _ _ _ _ dM_cost_31 (by first | exact ⟨by unfold mco; rw [cif_t h22]; split <;> omega, rfl⟩ | exact ⟨by unfold mco; rw [cif_f h22]; split <;> omega, rfl⟩)
  · first | (replace h7 := bz_ne0.mp h7) | (replace h7 := bz_eq0.mp h7) | skip
    refine V_bipush F dM_cost_10 (by decide) ?_
    refine V_goto F 17 dM_cost_12 (by decide) ?_
    refine V_aload_n (i := 0) F dM_cost_17 rfl rfl ?_
    refine V_iload_n (i := 1) F dM_cost_18 rfl rfl ?_
    refine V_callVi F dM_cost_19 lmM_105 miM_signalled mvM_signalled (ctM_signalled h hm) (by decide) (by first | rfl | assumption) rfl rfl (Nat.le_of_ble_eq_true rfl) (fun r u hr => ?_)
    obtain ⟨rfl, rfl⟩ := hr
    refine V_if_eq F 29 dM_cost_22 (by decide) (fun h22 => ?_) (fun h22 => ?_)
    · first | (replace h22 := bz_ne0.mp h22) | (replace h22 := bz_eq0.mp h22) | skip
      refine V_iconst F dM_cost_29 (by decide) ?_
      refine V_iadd F dM_cost_30 (by omega) ?_
      exact hR _ _ _ _ dM_cost_31 (by first | exact ⟨by unfold mco; rw [cif_t h22]; split <;> omega, rfl⟩ | exact ⟨by unfold mco; rw [cif_f h22]; split <;> omega, rfl⟩)
    · first | (replace h22 := bz_ne0.mp h22) | (replace h22 := bz_eq0.mp h22) | skip
      refine V_iconst F dM_cost_25 (by decide) ?_
      refine V_goto F 30 dM_cost_26 (by decide) ?_
      refine V_iadd F dM_cost_30 (by omega) ?_
      exact hR _ _ _ _ dM_cost_31 (by first | exact ⟨by unfold mco; rw [cif_t h22]; split <;> omega, rfl⟩ | exact ⟨by unfold mco; rw [cif_f h22]; split <;> omega, rfl⟩)
theorem acr_is {W H t e x y x' y' : Int} (ex : acX t e = x') (ey : acY t e = y') (h : isT W H x y) (hx : x = x' := by omega) (hy : y = y' := by omega) : acr W H t e = x' + 8 * y' := by
  subst hx; subst hy
  unfold acr
  rw [ex, ey, cif_t h]
theorem acr_no {W H t e x y x' y' : Int} (ex : acX t e = x') (ey : acY t e = y') (h : ¬ isT W H x y) (hx : x = x' := by omega) (hy : y = y' := by omega) : acr W H t e = -1 := by
  subst hx; subst hy
  unfold acr
  rw [ex, ey, cif_f h]
theorem ctM_across {G : vG} {l : Launch} {w : RW} {t e : Int} (ht : 0 ≤ t ∧ t < 64) (he : 0 ≤ e ∧ e < 4) : CTi G l yM_across cM_across 5 .int 1 [.inr 77, .inl t, .inl e] w (fun r u => r = acr (w 77 0) (w 77 1) t e ∧ w = u) := by
  refine CTi.int (by decide) (Nat.le_of_ble_eq_true rfl) ?_
  intro X Q F hX hR
  subst hX
  show V G X 5 Q 0 [some (.inr 77), some (.inl t), some (.inl e), none, none] [] w
  rcases (show e = 0 ∨ e = 1 ∨ e = 2 ∨ e = 3 by omega) with rfl | rfl | rfl | rfl
  · refine V_iload_n (i := 1) F dM_across_0 rfl rfl ?_
    refine V_bipush F dM_across_1 (by decide) ?_
    refine V_irem F dM_across_3 (by omega) ?_
    refine V_iload_n (i := 2) F dM_across_4 rfl rfl ?_
    refine V_iconst F dM_across_5 (by decide) ?_
    refine V_icmp_ne F 13 dM_across_6 (by decide) (fun h6 => ?_) (fun h6 => by first | omega | contradiction)
    refine V_iload_n (i := 2) F dM_across_13 rfl rfl ?_
    refine V_iconst F dM_across_14 (by decide) ?_
    refine V_icmp_ne F 22 dM_across_15 (by decide) (fun h15 => ?_) (fun h15 => by first | omega | contradiction)
    refine V_iconst F dM_across_22 (by decide) ?_
    refine V_iadd F dM_across_23 (by omega) ?_
    refine V_istore_n (i := 3) F dM_across_24 rfl (by decide) (by simp only [List.set_cons_zero, List.set_cons_succ]; exact rfl) ?_
    refine V_iload_n (i := 1) F dM_across_25 rfl rfl ?_
    refine V_bipush F dM_across_26 (by decide) ?_
    refine V_idiv F dM_across_28 (by omega) ?_
    refine V_iload_n (i := 2) F dM_across_29 rfl rfl ?_
    refine V_iconst F dM_across_30 (by decide) ?_
    refine V_icmp_ne F 38 dM_across_31 (by decide) (fun h31 => ?_) (fun h31 => by first | omega | contradiction)
    refine V_iload_n (i := 2) F dM_across_38 rfl rfl ?_
    refine V_if_ne F 46 dM_across_39 (by decide) (fun h39 => by first | omega | contradiction) (fun h39 => ?_)
    refine V_iconst F dM_across_42 (by decide) ?_
    refine V_goto F 47 dM_across_43 (by decide) ?_
    refine V_iadd F dM_across_47 (by omega) ?_
    refine V_istore F dM_across_48 (by decide) (by simp only [List.set_cons_zero, List.set_cons_succ]; exact rfl) ?_
    refine V_aload_n (i := 0) F dM_across_50 rfl rfl ?_
    refine V_iload_n (i := 3) F dM_across_51 rfl rfl ?_
    refine V_iload F dM_across_52 rfl ?_
    refine V_callVi F dM_across_54 lmM_97 miM_isTile mvM_isTile (ctM_isTile) (by decide) (by first | rfl | assumption) rfl rfl (Nat.le_of_ble_eq_true rfl) (fun r u hr => ?_)
    obtain ⟨rfl, rfl⟩ := hr
    refine V_if_eq F 70 dM_across_57 (by decide) (fun h57 => ?_) (fun h57 => ?_)
    · first | (replace h57 := bz_ne0.mp h57) | (replace h57 := bz_eq0.mp h57) | skip
      refine V_iconst F dM_across_70 (by decide) ?_
      exact hR _ _ _ _ dM_across_71 (by first | exact ⟨(acr_is (show acX t 0 = t % 8 by rfl) (show acY t 0 = t / 8 + -1 by rfl) h57).trans (by omega) |>.symm, rfl⟩ | exact ⟨(acr_no (show acX t 0 = t % 8 by rfl) (show acY t 0 = t / 8 + -1 by rfl) h57).symm, rfl⟩)
    · first | (replace h57 := bz_ne0.mp h57) | (replace h57 := bz_eq0.mp h57) | skip
      refine V_bipush F dM_across_60 (by decide) ?_
      refine V_iload F dM_across_62 rfl ?_
      refine V_imul F dM_across_64 (by omega) ?_
      refine V_iload_n (i := 3) F dM_across_65 rfl rfl ?_
      refine V_iadd F dM_across_66 (by omega) ?_
      refine V_goto F 71 dM_across_67 (by decide) ?_
      exact hR _ _ _ _ dM_across_71 (by first | exact ⟨(acr_is (show acX t 0 = t % 8 by rfl) (show acY t 0 = t / 8 + -1 by rfl) h57).trans (by omega) |>.symm, rfl⟩ | exact ⟨(acr_no (show acX t 0 = t % 8 by rfl) (show acY t 0 = t / 8 + -1 by rfl) h57).symm, rfl⟩)
  · refine V_iload_n (i := 1) F dM_across_0 rfl rfl ?_
    refine V_bipush F dM_across_1 (by decide) ?_
    refine V_irem F dM_across_3 (by omega) ?_
    refine V_iload_n (i := 2) F dM_across_4 rfl rfl ?_
    refine V_iconst F dM_across_5 (by decide) ?_
    refine V_icmp_ne F 13 dM_across_6 (by decide) (fun h6 => by first | omega | contradiction) (fun h6 => ?_)
    refine V_iconst F dM_across_9 (by decide) ?_
    refine V_goto F 23 dM_across_10 (by decide) ?_
    refine V_iadd F dM_across_23 (by omega) ?_
    refine V_istore_n (i := 3) F dM_across_24 rfl (by decide) (by simp only [List.set_cons_zero, List.set_cons_succ]; exact rfl) ?_
    refine V_iload_n (i := 1) F dM_across_25 rfl rfl ?_
    refine V_bipush F dM_across_26 (by decide) ?_
    refine V_idiv F dM_across_28 (by omega) ?_
    refine V_iload_n (i := 2) F dM_across_29 rfl rfl ?_
    refine V_iconst F dM_across_30 (by decide) ?_
    refine V_icmp_ne F 38 dM_across_31 (by decide) (fun h31 => ?_) (fun h31 => by first | omega | contradiction)
    refine V_iload_n (i := 2) F dM_across_38 rfl rfl ?_
    refine V_if_ne F 46 dM_across_39 (by decide) (fun h39 => ?_) (fun h39 => by first | omega | contradiction)
    refine V_iconst F dM_across_46 (by decide) ?_
    refine V_iadd F dM_across_47 (by omega) ?_
    refine V_istore F dM_across_48 (by decide) (by simp only [List.set_cons_zero, List.set_cons_succ]; exact rfl) ?_
    refine V_aload_n (i := 0) F dM_across_50 rfl rfl ?_
    refine V_iload_n (i := 3) F dM_across_51 rfl rfl ?_
    refine V_iload F dM_across_52 rfl ?_
    refine V_callVi F dM_across_54 lmM_97 miM_isTile mvM_isTile (ctM_isTile) (by decide) (by first | rfl | assumption) rfl rfl (Nat.le_of_ble_eq_true rfl) (fun r u hr => ?_)
    obtain ⟨rfl, rfl⟩ := hr
    refine V_if_eq F 70 dM_across_57 (by decide) (fun h57 => ?_) (fun h57 => ?_)
    · first | (replace h57 := bz_ne0.mp h57) | (replace h57 := bz_eq0.mp h57) | skip
      refine V_iconst F dM_across_70 (by decide) ?_
      exact hR _ _ _ _ dM_across_71 (by first | exact ⟨(acr_is (show acX t 1 = t % 8 + 1 by rfl) (show acY t 1 = t / 8 by rfl) h57).trans (by omega) |>.symm, rfl⟩ | exact ⟨(acr_no (show acX t 1 = t % 8 + 1 by rfl) (show acY t 1 = t / 8 by rfl) h57).symm, rfl⟩)
    · first | (replace h57 := bz_ne0.mp h57) | (replace h57 := bz_eq0.mp h57) | skip
      refine V_bipush F dM_across_60 (by decide) ?_
      refine V_iload F dM_across_62 rfl ?_
      refine V_imul F dM_across_64 (by omega) ?_
      refine V_iload_n (i := 3) F dM_across_65 rfl rfl ?_
      refine V_iadd F dM_across_66 (by omega) ?_
      refine V_goto F 71 dM_across_67 (by decide) ?_
      exact hR _ _ _ _ dM_across_71 (by first | exact ⟨(acr_is (show acX t 1 = t % 8 + 1 by rfl) (show acY t 1 = t / 8 by rfl) h57).trans (by omega) |>.symm, rfl⟩ | exact ⟨(acr_no (show acX t 1 = t % 8 + 1 by rfl) (show acY t 1 = t / 8 by rfl) h57).symm, rfl⟩)
  · refine V_iload_n (i := 1) F dM_across_0 rfl rfl ?_
    refine V_bipush F dM_across_1 (by decide) ?_
    refine V_irem F dM_across_3 (by omega) ?_
    refine V_iload_n (i := 2) F dM_across_4 rfl rfl ?_
    refine V_iconst F dM_across_5 (by decide) ?_
    refine V_icmp_ne F 13 dM_across_6 (by decide) (fun h6 => ?_) (fun h6 => by first | omega | contradiction)
    refine V_iload_n (i := 2) F dM_across_13 rfl rfl ?_
    refine V_iconst F dM_across_14 (by decide) ?_
    refine V_icmp_ne F 22 dM_across_15 (by decide) (fun h15 => ?_) (fun h15 => by first | omega | contradiction)
    refine V_iconst F dM_across_22 (by decide) ?_
    refine V_iadd F dM_across_23 (by omega) ?_
    refine V_istore_n (i := 3) F dM_across_24 rfl (by decide) (by simp only [List.set_cons_zero, List.set_cons_succ]; exact rfl) ?_
    refine V_iload_n (i := 1) F dM_across_25 rfl rfl ?_
    refine V_bipush F dM_across_26 (by decide) ?_
    refine V_idiv F dM_across_28 (by omega) ?_
    refine V_iload_n (i := 2) F dM_across_29 rfl rfl ?_
    refine V_iconst F dM_across_30 (by decide) ?_
    refine V_icmp_ne F 38 dM_across_31 (by decide) (fun h31 => by first | omega | contradiction) (fun h31 => ?_)
    refine V_iconst F dM_across_34 (by decide) ?_
    refine V_goto F 47 dM_across_35 (by decide) ?_
    refine V_iadd F dM_across_47 (by omega) ?_
    refine V_istore F dM_across_48 (by decide) (by simp only [List.set_cons_zero, List.set_cons_succ]; exact rfl) ?_
    refine V_aload_n (i := 0) F dM_across_50 rfl rfl ?_
    refine V_iload_n (i := 3) F dM_across_51 rfl rfl ?_
    refine V_iload F dM_across_52 rfl ?_
    refine V_callVi F dM_across_54 lmM_97 miM_isTile mvM_isTile (ctM_isTile) (by decide) (by first | rfl | assumption) rfl rfl (Nat.le_of_ble_eq_true rfl) (fun r u hr => ?_)
    obtain ⟨rfl, rfl⟩ := hr
    refine V_if_eq F 70 dM_across_57 (by decide) (fun h57 => ?_) (fun h57 => ?_)
    · first | (replace h57 := bz_ne0.mp h57) | (replace h57 := bz_eq0.mp h57) | skip
      refine V_iconst F dM_across_70 (by decide) ?_
      exact hR _ _ _ _ dM_across_71 (by first | exact ⟨(acr_is (show acX t 2 = t % 8 by rfl) (show acY t 2 = t / 8 + 1 by rfl) h57).trans (by omega) |>.symm, rfl⟩ | exact ⟨(acr_no (show acX t 2 = t % 8 by rfl) (show acY t 2 = t / 8 + 1 by rfl) h57).symm, rfl⟩)
    · first | (replace h57 := bz_ne0.mp h57) | (replace h57 := bz_eq0.mp h57) | skip
      refine V_bipush F dM_across_60 (by decide) ?_
      refine V_iload F dM_across_62 rfl ?_
      refine V_imul F dM_across_64 (by omega) ?_
      refine V_iload_n (i := 3) F dM_across_65 rfl rfl ?_
      refine V_iadd F dM_across_66 (by omega) ?_
      refine V_goto F 71 dM_across_67 (by decide) ?_
      exact hR _ _ _ _ dM_across_71 (by first | exact ⟨(acr_is (show acX t 2 = t % 8 by rfl) (show acY t 2 = t / 8 + 1 by rfl) h57).trans (by omega) |>.symm, rfl⟩ | exact ⟨(acr_no (show acX t 2 = t % 8 by rfl) (show acY t 2 = t / 8 + 1 by rfl) h57).symm, rfl⟩)
  · refine V_iload_n (i := 1) F dM_across_0 rfl rfl ?_
    refine V_bipush F dM_across_1 (by decide) ?_
    refine V_irem F dM_across_3 (by omega) ?_
    refine V_iload_n (i := 2) F dM_across_4 rfl rfl ?_
    refine V_iconst F dM_across_5 (by decide) ?_
    refine V_icmp_ne F 13 dM_across_6 (by decide) (fun h6 => ?_) (fun h6 => by first | omega | contradiction)
    refine V_iload_n (i := 2) F dM_across_13 rfl rfl ?_
    refine V_iconst F dM_across_14 (by decide) ?_
    refine V_icmp_ne F 22 dM_across_15 (by decide) (fun h15 => by first | omega | contradiction) (fun h15 => ?_)
    refine V_iconst F dM_across_18 (by decide) ?_
    refine V_goto F 23 dM_across_19 (by decide) ?_
    refine V_iadd F dM_across_23 (by omega) ?_
    refine V_istore_n (i := 3) F dM_across_24 rfl (by decide) (by simp only [List.set_cons_zero, List.set_cons_succ]; exact rfl) ?_
    refine V_iload_n (i := 1) F dM_across_25 rfl rfl ?_
    refine V_bipush F dM_across_26 (by decide) ?_
    refine V_idiv F dM_across_28 (by omega) ?_
    refine V_iload_n (i := 2) F dM_across_29 rfl rfl ?_
    refine V_iconst F dM_across_30 (by decide) ?_
    refine V_icmp_ne F 38 dM_across_31 (by decide) (fun h31 => ?_) (fun h31 => by first | omega | contradiction)
    refine V_iload_n (i := 2) F dM_across_38 rfl rfl ?_
    refine V_if_ne F 46 dM_across_39 (by decide) (fun h39 => ?_) (fun h39 => by first | omega | contradiction)
    refine V_iconst F dM_across_46 (by decide) ?_
    refine V_iadd F dM_across_47 (by omega) ?_
    refine V_istore F dM_across_48 (by decide) (by simp only [List.set_cons_zero, List.set_cons_succ]; exact rfl) ?_
    refine V_aload_n (i := 0) F dM_across_50 rfl rfl ?_
    refine V_iload_n (i := 3) F dM_across_51 rfl rfl ?_
    refine V_iload F dM_across_52 rfl ?_
    refine V_callVi F dM_across_54 lmM_97 miM_isTile mvM_isTile (ctM_isTile) (by decide) (by first | rfl | assumption) rfl rfl (Nat.le_of_ble_eq_true rfl) (fun r u hr => ?_)
    obtain ⟨rfl, rfl⟩ := hr
    refine V_if_eq F 70 dM_across_57 (by decide) (fun h57 => ?_) (fun h57 => ?_)
    · first | (replace h57 := bz_ne0.mp h57) | (replace h57 := bz_eq0.mp h57) | skip
      refine V_iconst F dM_across_70 (by decide) ?_
      exact hR _ _ _ _ dM_across_71 (by first | exact ⟨(acr_is (show acX t 3 = t % 8 + -1 by rfl) (show acY t 3 = t / 8 by rfl) h57).trans (by omega) |>.symm, rfl⟩ | exact ⟨(acr_no (show acX t 3 = t % 8 + -1 by rfl) (show acY t 3 = t / 8 by rfl) h57).symm, rfl⟩)
    · first | (replace h57 := bz_ne0.mp h57) | (replace h57 := bz_eq0.mp h57) | skip
      refine V_bipush F dM_across_60 (by decide) ?_
      refine V_iload F dM_across_62 rfl ?_
      refine V_imul F dM_across_64 (by omega) ?_
      refine V_iload_n (i := 3) F dM_across_65 rfl rfl ?_
      refine V_iadd F dM_across_66 (by omega) ?_
      refine V_goto F 71 dM_across_67 (by decide) ?_
      exact hR _ _ _ _ dM_across_71 (by first | exact ⟨(acr_is (show acX t 3 = t % 8 + -1 by rfl) (show acY t 3 = t / 8 by rfl) h57).trans (by omega) |>.symm, rfl⟩ | exact ⟨(acr_no (show acX t 3 = t % 8 + -1 by rfl) (show acY t 3 = t / 8 by rfl) h57).symm, rfl⟩)
theorem acr_rng {W H t e : Int} (hW : W ≤ 8) (hH : H ≤ 6) : acr W H t e = -1 ∨ (0 ≤ acr W H t e ∧ acr W H t e < 48) := by
  unfold acr
  by_cases h : isT W H (acX t e) (acY t e)
  · rw [cif_t h]
    unfold isT at h
    right
    omega
  · rw [cif_f h]
    exact Or.inl rfl
noncomputable def bhT (w : RW) (q : Int) : Int := acr (w 77 0) (w 77 1) (q / 12) (eoQ q)
noncomputable def bhB (w : RW) (q k : Int) : Int := 2 * (6 * bhT w q + k) + (if (eoQ q + 2) % 4 = stt 0 k then 1 else 0)
noncomputable def bhd (w : RW) (q k : Int) : Int := cif (0 ≤ bhT w q ∧ ¬ w 78 (6 * bhT w q + k) = 0 ∧ hsE k ((eoQ q + 2) % 4) ∧ opQ (w 79 (bhB w q k / 2)) (bhB w q k)) (bhB w q k) (-1)
theorem ctM_behind {G : vG} {l : Launch} {w : RW} {q k : Int} (h : 0 ≤ q ∧ q < 576) (hk : 0 ≤ k ∧ k < 6) (hm : mOK w) : CTi G l yM_behind cM_behind 7 .int 2 [.inr 77, .inl q, .inl k] w (fun r u => r = bhd w q k ∧ w = u) := by
  refine CTi.int (by decide) (Nat.le_of_ble_eq_true rfl) ?_
  intro X Q F hX hR
  subst hX
  show V G X 7 Q 0 [some (.inr 77), some (.inl q), some (.inl k), none, none, none, none] [] w
  have hm1 := hm.1
  have hq := eoQ_rng h.1
  have hT : bhT w q = -1 ∨ (0 ≤ bhT w q ∧ bhT w q < 48) := acr_rng (by omega) (by omega)
  refine V_iload_n (i := 1) F dM_behind_0 rfl rfl ?_
  refine V_callSi F dM_behind_1 lmM_109 miM_edgeOf msM_edgeOf (ctM_edgeOf (by omega)) (by decide) rfl (Nat.le_of_ble_eq_true rfl) (fun r u hr => ?_)
  obtain ⟨rfl, rfl⟩ := hr
  refine V_istore_n (i := 3) F dM_behind_4 rfl (by decide) (by simp only [List.set_cons_zero, List.set_cons_succ]; exact rfl) ?_
  refine V_aload_n (i := 0) F dM_behind_5 rfl rfl ?_
  refine V_iload_n (i := 1) F dM_behind_6 rfl rfl ?_
  refine V_bipush F dM_behind_7 (by decide) ?_
  refine V_idiv F dM_behind_9 (by omega) ?_
  refine V_iload_n (i := 3) F dM_behind_10 rfl rfl ?_
  refine V_callVi F dM_behind_11 lmM_112 miM_across mvM_across (ctM_across (by omega) hq) (by decide) (by first | rfl | assumption) rfl rfl (Nat.le_of_ble_eq_true rfl) (fun r u hr => ?_)
  obtain ⟨rfl, rfl⟩ := hr
  show V _ _ _ _ _ _ (.inl (bhT w q) :: _) _
  refine V_istore F dM_behind_14 (by decide) (by simp only [List.set_cons_zero, List.set_cons_succ]; exact rfl) ?_
  refine V_iload_n (i := 3) F dM_behind_16 rfl rfl ?_
  refine V_iconst F dM_behind_17 (by decide) ?_
  refine V_iadd F dM_behind_18 (by omega) ?_
  refine V_iconst F dM_behind_19 (by decide) ?_
  refine V_irem F dM_behind_20 (by omega) ?_
  refine V_istore F dM_behind_21 (by decide) (by simp only [List.set_cons_zero, List.set_cons_succ]; exact rfl) ?_
  refine V_iload F dM_behind_23 rfl ?_
  refine V_if_lt F 61 dM_behind_25 (by decide) (fun h25 => ?_) (fun h25 => ?_)
  · first | (replace h25 := bz_ne0.mp h25) | (replace h25 := bz_eq0.mp h25) | skip
    refine V_iconst F dM_behind_61 (by decide) ?_
    exact hR _ _ _ _ dM_behind_62 (by first | (exfalso; omega) | exact ⟨(cif_f (fun z => by have z1 := z.1; have z2 := z.2.1; have z3 := z.2.2.1; unfold hsE at z3; omega)).symm, rfl⟩ | exact ⟨by unfold bhd bhB; rw [if_pos h78]; exact (cif_t ⟨by omega, h40, by unfold hsE; omega, h95⟩).symm, rfl⟩ | exact ⟨by unfold bhd bhB; rw [if_pos h78]; exact (cif_f (fun z => h95 z.2.2.2)).symm, rfl⟩ | exact ⟨by unfold bhd bhB; rw [if_neg h78]; exact (cif_t ⟨by omega, h40, by unfold hsE; omega, h95⟩).symm, rfl⟩ | exact ⟨by unfold bhd bhB; rw [if_neg h78]; exact (cif_f (fun z => h95 z.2.2.2)).symm, rfl⟩)
  · first | (replace h25 := bz_ne0.mp h25) | (replace h25 := bz_eq0.mp h25) | skip
    refine V_aload_n (i := 0) F dM_behind_28 rfl rfl ?_
    refine V_getr (ci := 7) (C := R_M) (T := T_M) (N := 32) F dM_behind_29 (by first | rfl | assumption) rfl (j := 2) (by decide) rfl lfM_7 ?_
    refine V_bipush F dM_behind_32 (by decide) ?_
    refine V_iload F dM_behind_34 rfl ?_
    refine V_imul F dM_behind_36 (by omega) ?_
    refine V_iload_n (i := 2) F dM_behind_37 rfl rfl ?_
    refine V_iadd F dM_behind_38 (by omega) ?_
    refine V_zald F dM_behind_39 (by first | rfl | assumption) rfl (by omega) ?_
    refine V_if_eq F 61 dM_behind_40 (by decide) (fun h40 => ?_) (fun h40 => ?_)
    · first | (replace h40 := bz_ne0.mp h40) | (replace h40 := bz_eq0.mp h40) | skip
      refine V_iconst F dM_behind_61 (by decide) ?_
      exact hR _ _ _ _ dM_behind_62 (by first | (exfalso; omega) | exact ⟨(cif_f (fun z => by have z1 := z.1; have z2 := z.2.1; have z3 := z.2.2.1; unfold hsE at z3; omega)).symm, rfl⟩ | exact ⟨by unfold bhd bhB; rw [if_pos h78]; exact (cif_t ⟨by omega, h40, by unfold hsE; omega, h95⟩).symm, rfl⟩ | exact ⟨by unfold bhd bhB; rw [if_pos h78]; exact (cif_f (fun z => h95 z.2.2.2)).symm, rfl⟩ | exact ⟨by unfold bhd bhB; rw [if_neg h78]; exact (cif_t ⟨by omega, h40, by unfold hsE; omega, h95⟩).symm, rfl⟩ | exact ⟨by unfold bhd bhB; rw [if_neg h78]; exact (cif_f (fun z => h95 z.2.2.2)).symm, rfl⟩)
    · first | (replace h40 := bz_ne0.mp h40) | (replace h40 := bz_eq0.mp h40) | skip
      refine V_iload F dM_behind_43 rfl ?_
      refine V_iload_n (i := 2) F dM_behind_45 rfl rfl ?_
      refine V_callSi F dM_behind_46 lmM_90 miM_firstEdge msM_firstEdge (ctM_firstEdge hk) (by decide) rfl (Nat.le_of_ble_eq_true rfl) (fun r u hr => ?_)
      obtain ⟨rfl, rfl⟩ := hr
      refine V_icmp_eq F 63 dM_behind_49 (by decide) (fun h49 => ?_) (fun h49 => ?_)
      · first | (replace h49 := bz_ne0.mp h49) | (replace h49 := bz_eq0.mp h49) | skip
        refine V_iconst F dM_behind_63 (by decide) ?_
        refine V_bipush F dM_behind_64 (by decide) ?_
        refine V_iload F dM_behind_66 rfl ?_
        refine V_imul F dM_behind_68 (by omega) ?_
        refine V_iload_n (i := 2) F dM_behind_69 rfl rfl ?_
        refine V_iadd F dM_behind_70 (by omega) ?_
        refine V_imul F dM_behind_71 (by omega) ?_
        refine V_iload F dM_behind_72 rfl ?_
        refine V_iload_n (i := 2) F dM_behind_74 rfl rfl ?_
        refine V_callSi F dM_behind_75 lmM_90 miM_firstEdge msM_firstEdge (ctM_firstEdge hk) (by decide) rfl (Nat.le_of_ble_eq_true rfl) (fun r u hr => ?_)
        obtain ⟨rfl, rfl⟩ := hr
        refine V_icmp_ne F 85 dM_behind_78 (by decide) (fun h78 => ?_) (fun h78 => ?_)
        · first | (replace h78 := bz_ne0.mp h78) | (replace h78 := bz_eq0.mp h78) | skip
          refine V_iconst F dM_behind_85 (by decide) ?_
          refine V_iadd F dM_behind_86 (by omega) ?_
          refine V_istore F dM_behind_87 (by decide) (by simp only [List.set_cons_zero, List.set_cons_succ]; exact rfl) ?_
          refine V_aload_n (i := 0) F dM_behind_89 rfl rfl ?_
          refine V_iload F dM_behind_90 rfl ?_
          refine V_callVi F dM_behind_92 lmM_116 miM_open mvM_open (ctM_open (by omega)) (by decide) (by first | rfl | assumption) rfl rfl (Nat.le_of_ble_eq_true rfl) (fun r u hr => ?_)
          obtain ⟨rfl, rfl⟩ := hr
          refine V_if_eq F 103 dM_behind_95 (by decide) (fun h95 => ?_) (fun h95 => ?_)
          · first | (replace h95 := bz_ne0.mp h95) | (replace h95 := bz_eq0.mp h95) | skip
            refine V_iconst F dM_behind_103 (by decide) ?_
            exact hR _ _ _ _ dM_behind_104 (by first | (exfalso; omega) | exact ⟨(cif_f (fun z => by have z1 := z.1; have z2 := z.2.1; have z3 := z.2.2.1; unfold hsE at z3; omega)).symm, rfl⟩ | exact ⟨by unfold bhd bhB; rw [if_pos h78]; exact (cif_t ⟨by omega, h40, by unfold hsE; omega, h95⟩).symm, rfl⟩ | exact ⟨by unfold bhd bhB; rw [if_pos h78]; exact (cif_f (fun z => h95 z.2.2.2)).symm, rfl⟩ | exact ⟨by unfold bhd bhB; rw [if_neg h78]; exact (cif_t ⟨by omega, h40, by unfold hsE; omega, h95⟩).symm, rfl⟩ | exact ⟨by unfold bhd bhB; rw [if_neg h78]; exact (cif_f (fun z => h95 z.2.2.2)).symm, rfl⟩)
          · first | (replace h95 := bz_ne0.mp h95) | (replace h95 := bz_eq0.mp h95) | skip
            refine V_iload F dM_behind_98 rfl ?_
            refine V_goto F 104 dM_behind_100 (by decide) ?_
            exact hR _ _ _ _ dM_behind_104 (by first | (exfalso; omega) | exact ⟨(cif_f (fun z => by have z1 := z.1; have z2 := z.2.1; have z3 := z.2.2.1; unfold hsE at z3; omega)).symm, rfl⟩ | exact ⟨by unfold bhd bhB; rw [if_pos h78]; exact (cif_t ⟨by omega, h40, by unfold hsE; omega, h95⟩).symm, rfl⟩ | exact ⟨by unfold bhd bhB; rw [if_pos h78]; exact (cif_f (fun z => h95 z.2.2.2)).symm, rfl⟩ | exact ⟨by unfold bhd bhB; rw [if_neg h78]; exact (cif_t ⟨by omega, h40, by unfold hsE; omega, h95⟩).symm, rfl⟩ | exact ⟨by unfold bhd bhB; rw [if_neg h78]; exact (cif_f (fun z => h95 z.2.2.2)).symm, rfl⟩)
        · first | (replace h78 := bz_ne0.mp h78) | (replace h78 := bz_eq0.mp h78) | skip
          refine V_iconst F dM_behind_81 (by decide) ?_
          refine V_goto F 86 dM_behind_82 (by decide) ?_
          refine V_iadd F dM_behind_86 (by omega) ?_
          refine V_istore F dM_behind_87 (by decide) (by simp only [List.set_cons_zero, List.set_cons_succ]; exact rfl) ?_
          refine V_aload_n (i := 0) F dM_behind_89 rfl rfl ?_
          refine V_iload F dM_behind_90 rfl ?_
          refine V_callVi F dM_behind_92 lmM_116 miM_open mvM_open (ctM_open (by omega)) (by decide) (by first | rfl | assumption) rfl rfl (Nat.le_of_ble_eq_true rfl) (fun r u hr => ?_)
          obtain ⟨rfl, rfl⟩ := hr
          refine V_if_eq F 103 dM_behind_95 (by decide) (fun h95 => ?_) (fun h95 => ?_)
          · first | (replace h95 := bz_ne0.mp h95) | (replace h95 := bz_eq0.mp h95) | skip
            refine V_iconst F dM_behind_103 (by decide) ?_
            exact hR _ _ _ _ dM_behind_104 (by first | (exfalso; omega) | exact ⟨(cif_f (fun z => by have z1 := z.1; have z2 := z.2.1; have z3 := z.2.2.1; unfold hsE at z3; omega)).symm, rfl⟩ | exact ⟨by unfold bhd bhB; rw [if_pos h78]; exact (cif_t ⟨by omega, h40, by unfold hsE; omega, h95⟩).symm, rfl⟩ | exact ⟨by unfold bhd bhB; rw [if_pos h78]; exact (cif_f (fun z => h95 z.2.2.2)).symm, rfl⟩ | exact ⟨by unfold bhd bhB; rw [if_neg h78]; exact (cif_t ⟨by omega, h40, by unfold hsE; omega, h95⟩).symm, rfl⟩ | exact ⟨by unfold bhd bhB; rw [if_neg h78]; exact (cif_f (fun z => h95 z.2.2.2)).symm, rfl⟩)
          · first | (replace h95 := bz_ne0.mp h95) | (replace h95 := bz_eq0.mp h95) | skip
            refine V_iload F dM_behind_98 rfl ?_
            refine V_goto F 104 dM_behind_100 (by decide) ?_
            exact hR _ _ _ _ dM_behind_104 (by first | (exfalso; omega) | exact ⟨(cif_f (fun z => by have z1 := z.1; have z2 := z.2.1; have z3 := z.2.2.1; unfold hsE at z3; omega)).symm, rfl⟩ | exact ⟨by unfold bhd bhB; rw [if_pos h78]; exact (cif_t ⟨by omega, h40, by unfold hsE; omega, h95⟩).symm, rfl⟩ | exact ⟨by unfold bhd bhB; rw [if_pos h78]; exact (cif_f (fun z => h95 z.2.2.2)).symm, rfl⟩ | exact ⟨by unfold bhd bhB; rw [if_neg h78]; exact (cif_t ⟨by omega, h40, by unfold hsE; omega, h95⟩).symm, rfl⟩ | exact ⟨by unfold bhd bhB; rw [if_neg h78]; exact (cif_f (fun z => h95 z.2.2.2)).symm, rfl⟩)
      · first | (replace h49 := bz_ne0.mp h49) | (replace h49 := bz_eq0.mp h49) | skip
        refine V_iload F dM_behind_52 rfl ?_
        refine V_iload_n (i := 2) F dM_behind_54 rfl rfl ?_
        refine V_callSi F dM_behind_55 lmM_94 miM_secondEdge msM_secondEdge (ctM_secondEdge hk) (by decide) rfl (Nat.le_of_ble_eq_true rfl) (fun r u hr => ?_)
        obtain ⟨rfl, rfl⟩ := hr
        refine V_icmp_eq F 63 dM_behind_58 (by decide) (fun h58 => ?_) (fun h58 => ?_)
        · first | (replace h58 := bz_ne0.mp h58) | (replace h58 := bz_eq0.mp h58) | skip
          refine V_iconst F dM_behind_63 (by decide) ?_
          refine V_bipush F dM_behind_64 (by decide) ?_
          refine V_iload F dM_behind_66 rfl ?_
          refine V_imul F dM_behind_68 (by omega) ?_
          refine V_iload_n (i := 2) F dM_behind_69 rfl rfl ?_
          refine V_iadd F dM_behind_70 (by omega) ?_
          refine V_imul F dM_behind_71 (by omega) ?_
          refine V_iload F dM_behind_72 rfl ?_
          refine V_iload_n (i := 2) F dM_behind_74 rfl rfl ?_
          refine V_callSi F dM_behind_75 lmM_90 miM_firstEdge msM_firstEdge (ctM_firstEdge hk) (by decide) rfl (Nat.le_of_ble_eq_true rfl) (fun r u hr => ?_)
          obtain ⟨rfl, rfl⟩ := hr
          refine V_icmp_ne F 85 dM_behind_78 (by decide) (fun h78 => ?_) (fun h78 => ?_)
          · first | (replace h78 := bz_ne0.mp h78) | (replace h78 := bz_eq0.mp h78) | skip
            refine V_iconst F dM_behind_85 (by decide) ?_
            refine V_iadd F dM_behind_86 (by omega) ?_
            refine V_istore F dM_behind_87 (by decide) (by simp only [List.set_cons_zero, List.set_cons_succ]; exact rfl) ?_
            refine V_aload_n (i := 0) F dM_behind_89 rfl rfl ?_
            refine V_iload F dM_behind_90 rfl ?_
            refine V_callVi F dM_behind_92 lmM_116 miM_open mvM_open (ctM_open (by omega)) (by decide) (by first | rfl | assumption) rfl rfl (Nat.le_of_ble_eq_true rfl) (fun r u hr => ?_)
            obtain ⟨rfl, rfl⟩ := hr
            refine V_if_eq F 103 dM_behind_95 (by decide) (fun h95 => ?_) (fun h95 => ?_)
            · first | (replace h95 := bz_ne0.mp h95) | (replace h95 := bz_eq0.mp h95) | skip
              refine V_iconst F dM_behind_103 (by decide) ?_
              exact hR _ _ _ _ dM_behind_104 (by first | (exfalso; omega) | exact ⟨(cif_f (fun z => by have z1 := z.1; have z2 := z.2.1; have z3 := z.2.2.1; unfold hsE at z3; omega)).symm, rfl⟩ | exact ⟨by unfold bhd bhB; rw [if_pos h78]; exact (cif_t ⟨by omega, h40, by unfold hsE; omega, h95⟩).symm, rfl⟩ | exact ⟨by unfold bhd bhB; rw [if_pos h78]; exact (cif_f (fun z => h95 z.2.2.2)).symm, rfl⟩ | exact ⟨by unfold bhd bhB; rw [if_neg h78]; exact (cif_t ⟨by omega, h40, by unfold hsE; omega, h95⟩).symm, rfl⟩ | exact ⟨by unfold bhd bhB; rw [if_neg h78]; exact (cif_f (fun z => h95 z.2.2.2)).symm, rfl⟩)
            · first | (replace h95 := bz_ne0.mp h95) | (replace h95 := bz_eq0.mp h95) | skip
              refine V_iload F dM_behind_98 rfl ?_
              refine V_goto F 104 dM_behind_100 (by decide) ?_
              exact hR _ _ _ _ dM_behind_104 (by first | (exfalso; omega) | exact ⟨(cif_f (fun z => by have z1 := z.1; have z2 := z.2.1; have z3 := z.2.2.1; unfold hsE at z3; omega)).symm, rfl⟩ | exact ⟨by unfold bhd bhB; rw [if_pos h78]; exact (cif_t ⟨by omega, h40, by unfold hsE; omega, h95⟩).symm, rfl⟩ | exact ⟨by unfold bhd bhB; rw [if_pos h78]; exact (cif_f (fun z => h95 z.2.2.2)).symm, rfl⟩ | exact ⟨by unfold bhd bhB; rw [if_neg h78]; exact (cif_t ⟨by omega, h40, by unfold hsE; omega, h95⟩).symm, rfl⟩ | exact ⟨by unfold bhd bhB; rw [if_neg h78]; exact (cif_f (fun z => h95 z.2.2.2)).symm, rfl⟩)
          · first | (replace h78 := bz_ne0.mp h78) | (replace h78 := bz_eq0.mp h78) | skip
            refine V_iconst F dM_behind_81 (by decide) ?_
            refine V_goto F 86 dM_behind_82 (by decide) ?_
            refine V_iadd F dM_behind_86 (by omega) ?_
            refine V_istore F dM_behind_87 (by decide) (by simp only [List.set_cons_zero, List.set_cons_succ]; exact rfl) ?_
            refine V_aload_n (i := 0) F dM_behind_89 rfl rfl ?_
            refine V_iload F dM_behind_90 rfl ?_
            refine V_callVi F dM_behind_92 lmM_116 miM_open mvM_open (ctM_open (by omega)) (by decide) (by first | rfl | assumption) rfl rfl (Nat.le_of_ble_eq_true rfl) (fun r u hr => ?_)
            obtain ⟨rfl, rfl⟩ := hr
            refine V_if_eq F 103 dM_behind_95 (by decide) (fun h95 => ?_) (fun h95 => ?_)
            · first | (replace h95 := bz_ne0.mp h95) | (replace h95 := bz_eq0.mp h95) | skip
              refine V_iconst F dM_behind_103 (by decide) ?_
              exact hR _ _ _ _ dM_behind_104 (by first | (exfalso; omega) | exact ⟨(cif_f (fun z => by have z1 := z.1; have z2 := z.2.1; have z3 := z.2.2.1; unfold hsE at z3; omega)).symm, rfl⟩ | exact ⟨by unfold bhd bhB; rw [if_pos h78]; exact (cif_t ⟨by omega, h40, by unfold hsE; omega, h95⟩).symm, rfl⟩ | exact ⟨by unfold bhd bhB; rw [if_pos h78]; exact (cif_f (fun z => h95 z.2.2.2)).symm, rfl⟩ | exact ⟨by unfold bhd bhB; rw [if_neg h78]; exact (cif_t ⟨by omega, h40, by unfold hsE; omega, h95⟩).symm, rfl⟩ | exact ⟨by unfold bhd bhB; rw [if_neg h78]; exact (cif_f (fun z => h95 z.2.2.2)).symm, rfl⟩)
            · first | (replace h95 := bz_ne0.mp h95) | (replace h95 := bz_eq0.mp h95) | skip
              refine V_iload F dM_behind_98 rfl ?_
              refine V_goto F 104 dM_behind_100 (by decide) ?_
              exact hR _ _ _ _ dM_behind_104 (by first | (exfalso; omega) | exact ⟨(cif_f (fun z => by have z1 := z.1; have z2 := z.2.1; have z3 := z.2.2.1; unfold hsE at z3; omega)).symm, rfl⟩ | exact ⟨by unfold bhd bhB; rw [if_pos h78]; exact (cif_t ⟨by omega, h40, by unfold hsE; omega, h95⟩).symm, rfl⟩ | exact ⟨by unfold bhd bhB; rw [if_pos h78]; exact (cif_f (fun z => h95 z.2.2.2)).symm, rfl⟩ | exact ⟨by unfold bhd bhB; rw [if_neg h78]; exact (cif_t ⟨by omega, h40, by unfold hsE; omega, h95⟩).symm, rfl⟩ | exact ⟨by unfold bhd bhB; rw [if_neg h78]; exact (cif_f (fun z => h95 z.2.2.2)).symm, rfl⟩)
        · first | (replace h58 := bz_ne0.mp h58) | (replace h58 := bz_eq0.mp h58) | skip
          refine V_iconst F dM_behind_61 (by decide) ?_
          exact hR _ _ _ _ dM_behind_62 (by first | (exfalso; omega) | exact ⟨(cif_f (fun z => by have z1 := z.1; have z2 := z.2.1; have z3 := z.2.2.1; unfold hsE at z3; omega)).symm, rfl⟩ | exact ⟨by unfold bhd bhB; rw [if_pos h78]; exact (cif_t ⟨by omega, h40, by unfold hsE; omega, h95⟩).symm, rfl⟩ | exact ⟨by unfold bhd bhB; rw [if_pos h78]; exact (cif_f (fun z => h95 z.2.2.2)).symm, rfl⟩ | exact ⟨by unfold bhd bhB; rw [if_neg h78]; exact (cif_t ⟨by omega, h40, by unfold hsE; omega, h95⟩).symm, rfl⟩ | exact ⟨by unfold bhd bhB; rw [if_neg h78]; exact (cif_f (fun z => h95 z.2.2.2)).symm, rfl⟩)
def crs (p q : Int) : Prop := p / 6 = q / 6 ∧ ¬ (p % 6 / 2 = q % 6 / 2 ∧ ¬ p % 6 = q % 6 ∧ 1 < p % 6)
theorem ctM_cross {G : vG} {l : Launch} {w : RW} {p q : Int} (h : 0 ≤ p ∧ 0 ≤ q) : CTi G l yM_cross cM_cross 5 .boolean 0 [.inl p, .inl q] w (fun r u => r = bz (crs p q) ∧ w = u) := by
  refine CTi.bool (by decide) (Nat.le_of_ble_eq_true rfl) ?_
  intro X Q F hX hR
  subst hX
  show V G X 5 Q 0 [some (.inl p), some (.inl q), none, none, none] [] w
  refine V_iload_n (i := 0) F dM_cross_0 rfl rfl ?_
  refine V_bipush F dM_cross_1 (by decide) ?_
  refine V_irem F dM_cross_3 (by omega) ?_
  refine V_istore_n (i := 2) F dM_cross_4 rfl (by decide) (by simp only [List.set_cons_zero, List.set_cons_succ]; exact rfl) ?_
  refine V_iload_n (i := 1) F dM_cross_5 rfl rfl ?_
  refine V_bipush F dM_cross_6 (by decide) ?_
  refine V_irem F dM_cross_8 (by omega) ?_
  refine V_istore_n (i := 3) F dM_cross_9 rfl (by decide) (by simp only [List.set_cons_zero, List.set_cons_succ]; exact rfl) ?_
  refine V_iload_n (i := 2) F dM_cross_10 rfl rfl ?_
  refine V_iconst F dM_cross_11 (by decide) ?_
  refine V_idiv F dM_cross_12 (by omega) ?_
  refine V_iload_n (i := 3) F dM_cross_13 rfl rfl ?_
  refine V_iconst F dM_cross_14 (by decide) ?_
  refine V_idiv F dM_cross_15 (by omega) ?_
  refine V_icmp_ne F 33 dM_cross_16 (by decide) (fun h16 => ?_) (fun h16 => ?_)
  · refine V_iconst F dM_cross_33 (by decide) ?_
    refine V_istore F dM_cross_34 (by decide) (by simp only [List.set_cons_zero, List.set_cons_succ]; exact rfl) ?_
    refine V_iload_n (i := 0) F dM_cross_36 rfl rfl ?_
    refine V_bipush F dM_cross_37 (by decide) ?_
    refine V_idiv F dM_cross_39 (by omega) ?_
    refine V_iload_n (i := 1) F dM_cross_40 rfl rfl ?_
    refine V_bipush F dM_cross_41 (by decide) ?_
    refine V_idiv F dM_cross_43 (by omega) ?_
    refine V_icmp_ne F 56 dM_cross_44 (by decide) (fun h44 => ?_) (fun h44 => ?_)
    · refine V_iconst F dM_cross_56 (by decide) ?_
      exact hR _ _ _ _ dM_cross_57 (by first | exact Or.inl rfl | exact Or.inr rfl | exact bz_01 _ | assumption) (by first | exact ⟨(bz_t (by unfold crs; omega)).symm, rfl⟩ | exact ⟨(bz_f (by unfold crs; omega)).symm, rfl⟩)
    · refine V_iload F dM_cross_47 rfl ?_
      refine V_if_ne F 56 dM_cross_49 (by decide) (fun h49 => ?_) (fun h49 => ?_)
      · refine V_iconst F dM_cross_56 (by decide) ?_
        exact hR _ _ _ _ dM_cross_57 (by first | exact Or.inl rfl | exact Or.inr rfl | exact bz_01 _ | assumption) (by first | exact ⟨(bz_t (by unfold crs; omega)).symm, rfl⟩ | exact ⟨(bz_f (by unfold crs; omega)).symm, rfl⟩)
      · refine V_iconst F dM_cross_52 (by decide) ?_
        refine V_goto F 57 dM_cross_53 (by decide) ?_
        exact hR _ _ _ _ dM_cross_57 (by first | exact Or.inl rfl | exact Or.inr rfl | exact bz_01 _ | assumption) (by first | exact ⟨(bz_t (by unfold crs; omega)).symm, rfl⟩ | exact ⟨(bz_f (by unfold crs; omega)).symm, rfl⟩)
  · refine V_iload_n (i := 2) F dM_cross_19 rfl rfl ?_
    refine V_iload_n (i := 3) F dM_cross_20 rfl rfl ?_
    refine V_icmp_eq F 33 dM_cross_21 (by decide) (fun h21 => ?_) (fun h21 => ?_)
    · refine V_iconst F dM_cross_33 (by decide) ?_
      refine V_istore F dM_cross_34 (by decide) (by simp only [List.set_cons_zero, List.set_cons_succ]; exact rfl) ?_
      refine V_iload_n (i := 0) F dM_cross_36 rfl rfl ?_
      refine V_bipush F dM_cross_37 (by decide) ?_
      refine V_idiv F dM_cross_39 (by omega) ?_
      refine V_iload_n (i := 1) F dM_cross_40 rfl rfl ?_
      refine V_bipush F dM_cross_41 (by decide) ?_
      refine V_idiv F dM_cross_43 (by omega) ?_
      refine V_icmp_ne F 56 dM_cross_44 (by decide) (fun h44 => ?_) (fun h44 => ?_)
      · refine V_iconst F dM_cross_56 (by decide) ?_
        exact hR _ _ _ _ dM_cross_57 (by first | exact Or.inl rfl | exact Or.inr rfl | exact bz_01 _ | assumption) (by first | exact ⟨(bz_t (by unfold crs; omega)).symm, rfl⟩ | exact ⟨(bz_f (by unfold crs; omega)).symm, rfl⟩)
      · refine V_iload F dM_cross_47 rfl ?_
        refine V_if_ne F 56 dM_cross_49 (by decide) (fun h49 => ?_) (fun h49 => ?_)
        · refine V_iconst F dM_cross_56 (by decide) ?_
          exact hR _ _ _ _ dM_cross_57 (by first | exact Or.inl rfl | exact Or.inr rfl | exact bz_01 _ | assumption) (by first | exact ⟨(bz_t (by unfold crs; omega)).symm, rfl⟩ | exact ⟨(bz_f (by unfold crs; omega)).symm, rfl⟩)
        · refine V_iconst F dM_cross_52 (by decide) ?_
          refine V_goto F 57 dM_cross_53 (by decide) ?_
          exact hR _ _ _ _ dM_cross_57 (by first | exact Or.inl rfl | exact Or.inr rfl | exact bz_01 _ | assumption) (by first | exact ⟨(bz_t (by unfold crs; omega)).symm, rfl⟩ | exact ⟨(bz_f (by unfold crs; omega)).symm, rfl⟩)
    · refine V_iload_n (i := 2) F dM_cross_24 rfl rfl ?_
      refine V_iconst F dM_cross_25 (by decide) ?_
      refine V_icmp_le F 33 dM_cross_26 (by decide) (fun h26 => ?_) (fun h26 => ?_)
      · refine V_iconst F dM_cross_33 (by decide) ?_
        refine V_istore F dM_cross_34 (by decide) (by simp only [List.set_cons_zero, List.set_cons_succ]; exact rfl) ?_
        refine V_iload_n (i := 0) F dM_cross_36 rfl rfl ?_
        refine V_bipush F dM_cross_37 (by decide) ?_
        refine V_idiv F dM_cross_39 (by omega) ?_
        refine V_iload_n (i := 1) F dM_cross_40 rfl rfl ?_
        refine V_bipush F dM_cross_41 (by decide) ?_
        refine V_idiv F dM_cross_43 (by omega) ?_
        refine V_icmp_ne F 56 dM_cross_44 (by decide) (fun h44 => ?_) (fun h44 => ?_)
        · refine V_iconst F dM_cross_56 (by decide) ?_
          exact hR _ _ _ _ dM_cross_57 (by first | exact Or.inl rfl | exact Or.inr rfl | exact bz_01 _ | assumption) (by first | exact ⟨(bz_t (by unfold crs; omega)).symm, rfl⟩ | exact ⟨(bz_f (by unfold crs; omega)).symm, rfl⟩)
        · refine V_iload F dM_cross_47 rfl ?_
          refine V_if_ne F 56 dM_cross_49 (by decide) (fun h49 => ?_) (fun h49 => ?_)
          · refine V_iconst F dM_cross_56 (by decide) ?_
            exact hR _ _ _ _ dM_cross_57 (by first | exact Or.inl rfl | exact Or.inr rfl | exact bz_01 _ | assumption) (by first | exact ⟨(bz_t (by unfold crs; omega)).symm, rfl⟩ | exact ⟨(bz_f (by unfold crs; omega)).symm, rfl⟩)
          · refine V_iconst F dM_cross_52 (by decide) ?_
            refine V_goto F 57 dM_cross_53 (by decide) ?_
            exact hR _ _ _ _ dM_cross_57 (by first | exact Or.inl rfl | exact Or.inr rfl | exact bz_01 _ | assumption) (by first | exact ⟨(bz_t (by unfold crs; omega)).symm, rfl⟩ | exact ⟨(bz_f (by unfold crs; omega)).symm, rfl⟩)
      · refine V_iconst F dM_cross_29 (by decide) ?_
        refine V_goto F 34 dM_cross_30 (by decide) ?_
        refine V_istore F dM_cross_34 (by decide) (by simp only [List.set_cons_zero, List.set_cons_succ]; exact rfl) ?_
        refine V_iload_n (i := 0) F dM_cross_36 rfl rfl ?_
        refine V_bipush F dM_cross_37 (by decide) ?_
        refine V_idiv F dM_cross_39 (by omega) ?_
        refine V_iload_n (i := 1) F dM_cross_40 rfl rfl ?_
        refine V_bipush F dM_cross_41 (by decide) ?_
        refine V_idiv F dM_cross_43 (by omega) ?_
        refine V_icmp_ne F 56 dM_cross_44 (by decide) (fun h44 => ?_) (fun h44 => ?_)
        · refine V_iconst F dM_cross_56 (by decide) ?_
          exact hR _ _ _ _ dM_cross_57 (by first | exact Or.inl rfl | exact Or.inr rfl | exact bz_01 _ | assumption) (by first | exact ⟨(bz_t (by unfold crs; omega)).symm, rfl⟩ | exact ⟨(bz_f (by unfold crs; omega)).symm, rfl⟩)
        · refine V_iload F dM_cross_47 rfl ?_
          refine V_if_ne F 56 dM_cross_49 (by decide) (fun h49 => ?_) (fun h49 => ?_)
          · refine V_iconst F dM_cross_56 (by decide) ?_
            exact hR _ _ _ _ dM_cross_57 (by first | exact Or.inl rfl | exact Or.inr rfl | exact bz_01 _ | assumption) (by first | exact ⟨(bz_t (by unfold crs; omega)).symm, rfl⟩ | exact ⟨(bz_f (by unfold crs; omega)).symm, rfl⟩)
          · refine V_iconst F dM_cross_52 (by decide) ?_
            refine V_goto F 57 dM_cross_53 (by decide) ?_
            exact hR _ _ _ _ dM_cross_57 (by first | exact Or.inl rfl | exact Or.inr rfl | exact bz_01 _ | assumption) (by first | exact ⟨(bz_t (by unfold crs; omega)).symm, rfl⟩ | exact ⟨(bz_f (by unfold crs; omega)).symm, rfl⟩)
theorem ctM_isTrain {G : vG} {l : Launch} {w : RW} {t : Int} : CTi G l yM_isTrain cM_isTrain 2 .boolean 0 [.inr 77, .inl t] w (fun r u => r = bz (0 ≤ t ∧ t < w 77 10) ∧ w = u) := by
  refine CTi.bool (by decide) (Nat.le_of_ble_eq_true rfl) ?_
  intro X Q F hX hR
  subst hX
  show V G X 2 Q 0 [some (.inr 77), some (.inl t)] [] w
  refine V_iload_n (i := 1) F dM_isTrain_0 rfl rfl ?_
  refine V_if_lt F 16 dM_isTrain_1 (by decide) (fun h1 => ?_) (fun h1 => ?_)
  · refine V_iconst F dM_isTrain_16 (by decide) ?_
    exact hR _ _ _ _ dM_isTrain_17 (by first | exact Or.inl rfl | exact Or.inr rfl | exact bz_01 _ | assumption) (by first | exact ⟨(bz_t (by omega)).symm, rfl⟩ | exact ⟨(bz_f (by omega)).symm, rfl⟩)
  · refine V_iload_n (i := 1) F dM_isTrain_4 rfl rfl ?_
    refine V_aload_n (i := 0) F dM_isTrain_5 rfl rfl ?_
    refine V_geti (ci := 7) (C := R_M) (T := T_M) (N := 32) F dM_isTrain_6 (by first | rfl | assumption) rfl (j := 10) 10 rfl (by decide) rfl lfM_141 ?_
    refine V_icmp_ge F 16 dM_isTrain_9 (by decide) (fun h9 => ?_) (fun h9 => ?_)
    · refine V_iconst F dM_isTrain_16 (by decide) ?_
      exact hR _ _ _ _ dM_isTrain_17 (by first | exact Or.inl rfl | exact Or.inr rfl | exact bz_01 _ | assumption) (by first | exact ⟨(bz_t (by omega)).symm, rfl⟩ | exact ⟨(bz_f (by omega)).symm, rfl⟩)
    · refine V_iconst F dM_isTrain_12 (by decide) ?_
      refine V_goto F 17 dM_isTrain_13 (by decide) ?_
      exact hR _ _ _ _ dM_isTrain_17 (by first | exact Or.inl rfl | exact Or.inr rfl | exact bz_01 _ | assumption) (by first | exact ⟨(bz_t (by omega)).symm, rfl⟩ | exact ⟨(bz_f (by omega)).symm, rfl⟩)
theorem ctM_last {G : vG} {l : Launch} {w : RW} {t : Int} (ht : 0 ≤ t ∧ t < 6) (hm : mOK w) (h1 : 1 ≤ w 86 t) : CTi G l yM_last cM_last 2 .int 0 [.inr 77, .inl t] w (fun r u => r = w 85 (300 * t + w 86 t - 1) ∧ w = u) := by
  refine CTi.int (by decide) (Nat.le_of_ble_eq_true rfl) ?_
  intro X Q F hX hR
  subst hX
  show V G X 2 Q 0 [some (.inr 77), some (.inl t)] [] w
  have hm5 := hm.2.2.2.2.1 t ht.1 ht.2
  refine V_aload_n (i := 0) F dM_last_0 rfl rfl ?_
  refine V_getr (ci := 7) (C := R_M) (T := T_M) (N := 32) F dM_last_1 (by first | rfl | assumption) rfl (j := 11) (by decide) rfl lfM_32 ?_
  refine V_sipush F dM_last_4 (by decide) ?_
  refine V_iload_n (i := 1) F dM_last_7 rfl rfl ?_
  refine V_imul F dM_last_8 (by omega) ?_
  refine V_aload_n (i := 0) F dM_last_9 rfl rfl ?_
  refine V_getr (ci := 7) (C := R_M) (T := T_M) (N := 32) F dM_last_10 (by first | rfl | assumption) rfl (j := 12) (by decide) rfl lfM_35 ?_
  refine V_iload_n (i := 1) F dM_last_13 rfl rfl ?_
  first
    | refine V_sald F dM_last_14 (by decide) (by omega) (stt_in _ _) ?_
    | refine V_iald F dM_last_14 (by first | rfl | assumption) rfl (by omega) ?_
  refine V_iadd F dM_last_15 (by omega) ?_
  refine V_iconst F dM_last_16 (by decide) ?_
  refine V_isub F dM_last_17 (by omega) ?_
  first
    | refine V_sald F dM_last_18 (by decide) (by omega) (stt_in _ _) ?_
    | refine V_iald F dM_last_18 (by first | rfl | assumption) rfl (by omega) ?_
  exact hR _ _ _ _ dM_last_19 (⟨rfl, rfl⟩)
theorem ctM_ahead {G : vG} {l : Launch} {w : RW} {t : Int} (ht : 0 ≤ t ∧ t < 6) (hm : mOK w) : CTi G l yM_ahead cM_ahead 2 .int 0 [.inr 77, .inl t] w (fun r u => r = w 86 t - w 87 t ∧ w = u) := by
  refine CTi.int (by decide) (Nat.le_of_ble_eq_true rfl) ?_
  intro X Q F hX hR
  subst hX
  show V G X 2 Q 0 [some (.inr 77), some (.inl t)] [] w
  have hm5 := hm.2.2.2.2.1 t ht.1 ht.2
  refine V_aload_n (i := 0) F dM_ahead_0 rfl rfl ?_
  refine V_getr (ci := 7) (C := R_M) (T := T_M) (N := 32) F dM_ahead_1 (by first | rfl | assumption) rfl (j := 12) (by decide) rfl lfM_35 ?_
  refine V_iload_n (i := 1) F dM_ahead_4 rfl rfl ?_
  first
    | refine V_sald F dM_ahead_5 (by decide) (by omega) (stt_in _ _) ?_
    | refine V_iald F dM_ahead_5 (by first | rfl | assumption) rfl (by omega) ?_
  refine V_aload_n (i := 0) F dM_ahead_6 rfl rfl ?_
  refine V_getr (ci := 7) (C := R_M) (T := T_M) (N := 32) F dM_ahead_7 (by first | rfl | assumption) rfl (j := 13) (by decide) rfl lfM_38 ?_
  refine V_iload_n (i := 1) F dM_ahead_10 rfl rfl ?_
  first
    | refine V_sald F dM_ahead_11 (by decide) (by omega) (stt_in _ _) ?_
    | refine V_iald F dM_ahead_11 (by first | rfl | assumption) rfl (by omega) ?_
  refine V_isub F dM_ahead_12 (by omega) ?_
  exact hR _ _ _ _ dM_ahead_13 (⟨rfl, rfl⟩)
theorem ctM_goal {G : vG} {l : Launch} {w : RW} {t : Int} (ht : 0 ≤ t ∧ t < 6) (hm : mOK w) : CTi G l yM_goal cM_goal 2 .int 0 [.inr 77, .inl t] w (fun r u => r = w 92 (6 * t + w 94 t) ∧ w = u) := by
  refine CTi.int (by decide) (Nat.le_of_ble_eq_true rfl) ?_
  intro X Q F hX hR
  subst hX
  show V G X 2 Q 0 [some (.inr 77), some (.inl t)] [] w
  have hm5 := hm.2.2.2.2.1 t ht.1 ht.2
  refine V_aload_n (i := 0) F dM_goal_0 rfl rfl ?_
  refine V_getr (ci := 7) (C := R_M) (T := T_M) (N := 32) F dM_goal_1 (by first | rfl | assumption) rfl (j := 18) (by decide) rfl lfM_53 ?_
  refine V_bipush F dM_goal_4 (by decide) ?_
  refine V_iload_n (i := 1) F dM_goal_6 rfl rfl ?_
  refine V_imul F dM_goal_7 (by omega) ?_
  refine V_aload_n (i := 0) F dM_goal_8 rfl rfl ?_
  refine V_getr (ci := 7) (C := R_M) (T := T_M) (N := 32) F dM_goal_9 (by first | rfl | assumption) rfl (j := 20) (by decide) rfl lfM_59 ?_
  refine V_iload_n (i := 1) F dM_goal_12 rfl rfl ?_
  first
    | refine V_sald F dM_goal_13 (by decide) (by omega) (stt_in _ _) ?_
    | refine V_iald F dM_goal_13 (by first | rfl | assumption) rfl (by omega) ?_
  refine V_iadd F dM_goal_14 (by omega) ?_
  first
    | refine V_sald F dM_goal_15 (by decide) (by omega) (stt_in _ _) ?_
    | refine V_iald F dM_goal_15 (by first | rfl | assumption) rfl (by omega) ?_
  exact hR _ _ _ _ dM_goal_16 (⟨rfl, rfl⟩)
def dueM (w : RW) (t : Int) : Prop := w 85 (300 * t + w 86 t - 1) / 2 = w 80 (w 92 (6 * t + w 94 t)) ∧ ¬ (w 86 t - w 87 t = 0 ∧ ¬ w 91 t = 0)
theorem ctM_due {G : vG} {l : Launch} {w : RW} {t : Int} (ht : 0 ≤ t ∧ t < 6) (hm : mOK w) (h1 : 1 ≤ w 86 t) : CTi G l yM_due cM_due 2 .boolean 1 [.inr 77, .inl t] w (fun r u => r = bz (dueM w t) ∧ w = u) := by
  refine CTi.bool (by decide) (Nat.le_of_ble_eq_true rfl) ?_
  intro X Q F hX hR
  subst hX
  show V G X 2 Q 0 [some (.inr 77), some (.inl t)] [] w
  have hm5 := hm.2.2.2.2.1 t ht.1 ht.2
  have hm6 := hm.2.2.2.2.2.1 (300 * t + w 86 t - 1) (by omega) (by omega)
  have hm7 := hm.2.2.2.2.2.2 (6 * t + w 94 t) (by omega) (by omega)
  refine V_aload_n (i := 0) F dM_due_0 rfl rfl ?_
  refine V_iload_n (i := 1) F dM_due_1 rfl rfl ?_
  refine V_callVi F dM_due_2 lmM_129 miM_last mvM_last (ctM_last ht hm h1) (by decide) (by first | rfl | assumption) rfl rfl (Nat.le_of_ble_eq_true rfl) (fun r u hr => ?_)
  obtain ⟨rfl, rfl⟩ := hr
  refine V_iconst F dM_due_5 (by decide) ?_
  refine V_idiv F dM_due_6 (by omega) ?_
  refine V_aload_n (i := 0) F dM_due_7 rfl rfl ?_
  refine V_getr (ci := 7) (C := R_M) (T := T_M) (N := 32) F dM_due_8 (by first | rfl | assumption) rfl (j := 5) (by decide) rfl lfM_17 ?_
  refine V_aload_n (i := 0) F dM_due_11 rfl rfl ?_
  refine V_iload_n (i := 1) F dM_due_12 rfl rfl ?_
  refine V_callVi F dM_due_13 lmM_132 miM_goal mvM_goal (ctM_goal ht hm) (by decide) (by first | rfl | assumption) rfl rfl (Nat.le_of_ble_eq_true rfl) (fun r u hr => ?_)
  obtain ⟨rfl, rfl⟩ := hr
  first
    | refine V_sald F dM_due_16 (by decide) (by omega) (stt_in _ _) ?_
    | refine V_iald F dM_due_16 (by first | rfl | assumption) rfl (by omega) ?_
  refine V_icmp_ne F 41 dM_due_17 (by decide) (fun h17 => ?_) (fun h17 => ?_)
  · refine V_iconst F dM_due_41 (by decide) ?_
    exact hR _ _ _ _ dM_due_42 (by first | exact Or.inl rfl | exact Or.inr rfl | exact bz_01 _ | assumption) (by first | exact ⟨(bz_t (by unfold dueM; omega)).symm, rfl⟩ | exact ⟨(bz_f (by unfold dueM; omega)).symm, rfl⟩)
  · refine V_aload_n (i := 0) F dM_due_20 rfl rfl ?_
    refine V_iload_n (i := 1) F dM_due_21 rfl rfl ?_
    refine V_callVi F dM_due_22 lmM_135 miM_ahead mvM_ahead (ctM_ahead ht hm) (by decide) (by first | rfl | assumption) rfl rfl (Nat.le_of_ble_eq_true rfl) (fun r u hr => ?_)
    obtain ⟨rfl, rfl⟩ := hr
    refine V_if_ne F 37 dM_due_25 (by decide) (fun h25 => ?_) (fun h25 => ?_)
    · refine V_iconst F dM_due_37 (by decide) ?_
      refine V_goto F 42 dM_due_38 (by decide) ?_
      exact hR _ _ _ _ dM_due_42 (by first | exact Or.inl rfl | exact Or.inr rfl | exact bz_01 _ | assumption) (by first | exact ⟨(bz_t (by unfold dueM; omega)).symm, rfl⟩ | exact ⟨(bz_f (by unfold dueM; omega)).symm, rfl⟩)
    · refine V_aload_n (i := 0) F dM_due_28 rfl rfl ?_
      refine V_getr (ci := 7) (C := R_M) (T := T_M) (N := 32) F dM_due_29 (by first | rfl | assumption) rfl (j := 17) (by decide) rfl lfM_50 ?_
      refine V_iload_n (i := 1) F dM_due_32 rfl rfl ?_
      refine V_zald F dM_due_33 (by first | rfl | assumption) rfl (by omega) ?_
      refine V_if_ne F 41 dM_due_34 (by decide) (fun h34 => ?_) (fun h34 => ?_)
      · refine V_iconst F dM_due_41 (by decide) ?_
        exact hR _ _ _ _ dM_due_42 (by first | exact Or.inl rfl | exact Or.inr rfl | exact bz_01 _ | assumption) (by first | exact ⟨(bz_t (by unfold dueM; omega)).symm, rfl⟩ | exact ⟨(bz_f (by unfold dueM; omega)).symm, rfl⟩)
      · refine V_iconst F dM_due_37 (by decide) ?_
        refine V_goto F 42 dM_due_38 (by decide) ?_
        exact hR _ _ _ _ dM_due_42 (by first | exact Or.inl rfl | exact Or.inr rfl | exact bz_01 _ | assumption) (by first | exact ⟨(bz_t (by unfold dueM; omega)).symm, rfl⟩ | exact ⟨(bz_f (by unfold dueM; omega)).symm, rfl⟩)
/-- train t holds a piece that crosses p -/
def brs (w : RW) (t p : Int) : Prop := ∃ k, 0 ≤ k ∧ k < w 86 t ∧ crs (w 85 (300 * t + k) / 2) p
theorem lpM_bars {G : vG} {X : vX} {Q : State → Prop} {w : RW} {t p : Int} (ht : 0 ≤ t ∧ t < 6) (hp : 0 ≤ p) (hm : mOK w) (F : FX G X cM_bars yM_bars.cls 4 1) (hR : RetZ G X cM_bars 4 Q (fun r u => r = bz (brs w t p) ∧ w = u)) : ∀ (m : Nat) (i : Int), 0 ≤ i → w 86 t - i < m → (∀ j, 0 ≤ j → j < i → ¬ crs (w 85 (300 * t + j) / 2) p) → V G X 4 Q 2 [some (.inr 77), some (.inl t), some (.inl p), some (.inl i)] [] w := by
  have hm5 := hm.2.2.2.2.1 t ht.1 ht.2
  intro m
  induction m with
  | zero =>
    intro i h1 h3 hn
    refine V_iload_n (i := 3) F dM_bars_2 rfl rfl ?_
    refine V_aload_n (i := 0) F dM_bars_3 rfl rfl ?_
    refine V_getr (ci := 7) (C := R_M) (T := T_M) (N := 32) F dM_bars_4 (by first | rfl | assumption) rfl (j := 12) (by decide) rfl lfM_35 ?_
    refine V_iload_n (i := 1) F dM_bars_7 rfl rfl ?_
    first
      | refine V_sald F dM_bars_8 (by decide) (by omega) (stt_in _ _) ?_
      | refine V_iald F dM_bars_8 (by first | rfl | assumption) rfl (by omega) ?_
    refine V_icmp_ge F 41 dM_bars_9 (by decide) (fun h9 => ?_) (fun h9 => ?_)
    · first | (replace h9 := bz_ne0.mp h9) | (replace h9 := bz_eq0.mp h9) | skip
      refine V_iconst F dM_bars_41 (by decide) ?_
      exact hR _ _ _ _ dM_bars_42 (by first | exact Or.inl rfl | exact Or.inr rfl | exact bz_01 _ | assumption) (by exact ⟨(bz_f (fun q => by obtain ⟨j, h1, h2, h3⟩ := q; exact hn j h1 (by omega) h3)).symm, rfl⟩)
    · first | (replace h9 := bz_ne0.mp h9) | (replace h9 := bz_eq0.mp h9) | skip
      omega
  | succ m ih =>
    intro i h1 h3 hn
    refine V_iload_n (i := 3) F dM_bars_2 rfl rfl ?_
    refine V_aload_n (i := 0) F dM_bars_3 rfl rfl ?_
    refine V_getr (ci := 7) (C := R_M) (T := T_M) (N := 32) F dM_bars_4 (by first | rfl | assumption) rfl (j := 12) (by decide) rfl lfM_35 ?_
    refine V_iload_n (i := 1) F dM_bars_7 rfl rfl ?_
    first
      | refine V_sald F dM_bars_8 (by decide) (by omega) (stt_in _ _) ?_
      | refine V_iald F dM_bars_8 (by first | rfl | assumption) rfl (by omega) ?_
    refine V_icmp_ge F 41 dM_bars_9 (by decide) (fun h9 => ?_) (fun h9 => ?_)
    · first | (replace h9 := bz_ne0.mp h9) | (replace h9 := bz_eq0.mp h9) | skip
      refine V_iconst F dM_bars_41 (by decide) ?_
      exact hR _ _ _ _ dM_bars_42 (by first | exact Or.inl rfl | exact Or.inr rfl | exact bz_01 _ | assumption) (by first | exact ⟨(bz_t ⟨i, by omega, by omega, by assumption⟩).symm, rfl⟩ | exact ⟨(bz_f (fun q => by obtain ⟨j, h1, h2, h3⟩ := q; exact hn j h1 (by omega) h3)).symm, rfl⟩)
    · first | (replace h9 := bz_ne0.mp h9) | (replace h9 := bz_eq0.mp h9) | skip
      have hm6 := hm.2.2.2.2.2.1 (300 * t + i) (by omega) (by omega)
      refine V_aload_n (i := 0) F dM_bars_12 rfl rfl ?_
      refine V_getr (ci := 7) (C := R_M) (T := T_M) (N := 32) F dM_bars_13 (by first | rfl | assumption) rfl (j := 11) (by decide) rfl lfM_32 ?_
      refine V_sipush F dM_bars_16 (by decide) ?_
      refine V_iload_n (i := 1) F dM_bars_19 rfl rfl ?_
      refine V_imul F dM_bars_20 (by omega) ?_
      refine V_iload_n (i := 3) F dM_bars_21 rfl rfl ?_
      refine V_iadd F dM_bars_22 (by omega) ?_
      first
        | refine V_sald F dM_bars_23 (by decide) (by omega) (stt_in _ _) ?_
        | refine V_iald F dM_bars_23 (by first | rfl | assumption) rfl (by omega) ?_
      refine V_iconst F dM_bars_24 (by decide) ?_
      refine V_idiv F dM_bars_25 (by omega) ?_
      refine V_iload_n (i := 2) F dM_bars_26 rfl rfl ?_
      refine V_callSi F dM_bars_27 lmM_138 miM_cross msM_cross (ctM_cross (by omega)) (by decide) rfl (Nat.le_of_ble_eq_true rfl) (fun r u hr => ?_)
      obtain ⟨rfl, rfl⟩ := hr
      refine V_if_eq F 35 dM_bars_30 (by decide) (fun h30 => ?_) (fun h30 => ?_)
      · first | (replace h30 := bz_ne0.mp h30) | (replace h30 := bz_eq0.mp h30) | skip
        refine V_iinc F dM_bars_35 (by decide) rfl (by omega) (by simp only [List.set_cons_zero, List.set_cons_succ]; exact rfl) ?_
        refine V_goto F 2 dM_bars_38 (by decide) ?_
        exact ih (i + 1) (by omega) (by omega) (fun j h1 h2 => by
          by_cases hj : j = i
          · rw [hj]; assumption
          · exact hn j h1 (by omega))
      · first | (replace h30 := bz_ne0.mp h30) | (replace h30 := bz_eq0.mp h30) | skip
        refine V_iconst F dM_bars_33 (by decide) ?_
        exact hR _ _ _ _ dM_bars_34 (by first | exact Or.inl rfl | exact Or.inr rfl | exact bz_01 _ | assumption) (by first | exact ⟨(bz_t ⟨i, by omega, by omega, by assumption⟩).symm, rfl⟩ | exact ⟨(bz_f (fun q => by obtain ⟨j, h1, h2, h3⟩ := q; exact hn j h1 (by omega) h3)).symm, rfl⟩)
theorem ctM_bars {G : vG} {l : Launch} {w : RW} {t p : Int} (ht : 0 ≤ t ∧ t < 6) (hp : 0 ≤ p) (hm : mOK w) : CTi G l yM_bars cM_bars 4 .boolean 1 [.inr 77, .inl t, .inl p] w (fun r u => r = bz (brs w t p) ∧ w = u) := by
  refine CTi.bool (by decide) (Nat.le_of_ble_eq_true rfl) ?_
  intro X Q F hX hR
  subst hX
  show V G X 4 Q 0 [some (.inr 77), some (.inl t), some (.inl p), none] [] w
  refine V_iconst F dM_bars_0 (by decide) ?_
  refine V_istore_n (i := 3) F dM_bars_1 rfl (by decide) (by simp only [List.set_cons_zero, List.set_cons_succ]; exact rfl) ?_
  exact lpM_bars ht hp hm F hR ((w 86 t).toNat + 1) 0 (by omega) (by omega) (fun j h1 h2 => by omega)

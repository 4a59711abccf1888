theorem dN_turnAbout_0 : decode cN_turnAbout 0 = .ok (.iconst 0, 1) := by decide +kernel
theorem dN_turnAbout_1 : decode cN_turnAbout 1 = .ok (.istore_n 1, 1) := by decide +kernel
theorem dN_turnAbout_2 : decode cN_turnAbout 2 = .ok (.iload_n 1, 1) := by decide +kernel
theorem dN_turnAbout_3 : decode cN_turnAbout 3 = .ok (.aload_n 0, 1) := by decide +kernel
theorem dN_turnAbout_4 : decode cN_turnAbout 4 = .ok (.getfield 27, 3) := by decide +kernel
theorem dN_turnAbout_7 : decode cN_turnAbout 7 = .ok (.if_icmp .ge 36, 3) := by decide +kernel
theorem dN_turnAbout_10 : decode cN_turnAbout 10 = .ok (.aload_n 0, 1) := by decide +kernel
theorem dN_turnAbout_11 : decode cN_turnAbout 11 = .ok (.getfield 9, 3) := by decide +kernel
theorem dN_turnAbout_14 : decode cN_turnAbout 14 = .ok (.iload_n 1, 1) := by decide +kernel
theorem dN_turnAbout_15 : decode cN_turnAbout 15 = .ok (.aload_n 0, 1) := by decide +kernel
theorem dN_turnAbout_16 : decode cN_turnAbout 16 = .ok (.getfield 9, 3) := by decide +kernel
theorem dN_turnAbout_19 : decode cN_turnAbout 19 = .ok (.iload_n 1, 1) := by decide +kernel
theorem dN_turnAbout_20 : decode cN_turnAbout 20 = .ok (.iaload, 1) := by decide +kernel
theorem dN_turnAbout_21 : decode cN_turnAbout 21 = .ok (.invokestatic 64, 3) := by decide +kernel
theorem dN_turnAbout_24 : decode cN_turnAbout 24 = .ok (.aload_n 0, 1) := by decide +kernel
theorem dN_turnAbout_25 : decode cN_turnAbout 25 = .ok (.getfield 9, 3) := by decide +kernel
theorem dN_turnAbout_28 : decode cN_turnAbout 28 = .ok (.iload_n 1, 1) := by decide +kernel
theorem dN_turnAbout_29 : decode cN_turnAbout 29 = .ok (.iaload, 1) := by decide +kernel
theorem dN_turnAbout_30 : decode cN_turnAbout 30 = .ok (.invokestatic 70, 3) := by decide +kernel
theorem dN_turnAbout_33 : decode cN_turnAbout 33 = .ok (.invokestatic 73, 3) := by decide +kernel
theorem dN_turnAbout_36 : decode cN_turnAbout 36 = .ok (.iastore, 1) := by decide +kernel
theorem dN_turnAbout_37 : decode cN_turnAbout 37 = .ok (.iinc 1 1, 3) := by decide +kernel
theorem dN_turnAbout_40 : decode cN_turnAbout 40 = .ok (.goto (-38), 3) := by decide +kernel
theorem dN_turnAbout_43 : decode cN_turnAbout 43 = .ok (.iconst 0, 1) := by decide +kernel
theorem dN_turnAbout_44 : decode cN_turnAbout 44 = .ok (.istore_n 1, 1) := by decide +kernel
theorem dN_turnAbout_45 : decode cN_turnAbout 45 = .ok (.iload_n 1, 1) := by decide +kernel
theorem dN_turnAbout_46 : decode cN_turnAbout 46 = .ok (.aload_n 0, 1) := by decide +kernel
theorem dN_turnAbout_47 : decode cN_turnAbout 47 = .ok (.getfield 27, 3) := by decide +kernel
theorem dN_turnAbout_50 : decode cN_turnAbout 50 = .ok (.iconst 2, 1) := by decide +kernel
theorem dN_turnAbout_51 : decode cN_turnAbout 51 = .ok (.idiv, 1) := by decide +kernel
theorem dN_turnAbout_52 : decode cN_turnAbout 52 = .ok (.if_icmp .ge 49, 3) := by decide +kernel
theorem dN_turnAbout_55 : decode cN_turnAbout 55 = .ok (.aload_n 0, 1) := by decide +kernel
theorem dN_turnAbout_56 : decode cN_turnAbout 56 = .ok (.getfield 9, 3) := by decide +kernel
theorem dN_turnAbout_59 : decode cN_turnAbout 59 = .ok (.iload_n 1, 1) := by decide +kernel
theorem dN_turnAbout_60 : decode cN_turnAbout 60 = .ok (.iaload, 1) := by decide +kernel
theorem dN_turnAbout_61 : decode cN_turnAbout 61 = .ok (.istore_n 2, 1) := by decide +kernel
theorem dN_turnAbout_62 : decode cN_turnAbout 62 = .ok (.aload_n 0, 1) := by decide +kernel
theorem dN_turnAbout_63 : decode cN_turnAbout 63 = .ok (.getfield 9, 3) := by decide +kernel
theorem dN_turnAbout_66 : decode cN_turnAbout 66 = .ok (.iload_n 1, 1) := by decide +kernel
theorem dN_turnAbout_67 : decode cN_turnAbout 67 = .ok (.aload_n 0, 1) := by decide +kernel
theorem dN_turnAbout_68 : decode cN_turnAbout 68 = .ok (.getfield 9, 3) := by decide +kernel
theorem dN_turnAbout_71 : decode cN_turnAbout 71 = .ok (.aload_n 0, 1) := by decide +kernel
theorem dN_turnAbout_72 : decode cN_turnAbout 72 = .ok (.getfield 27, 3) := by decide +kernel
theorem dN_turnAbout_75 : decode cN_turnAbout 75 = .ok (.iconst 1, 1) := by decide +kernel
theorem dN_turnAbout_76 : decode cN_turnAbout 76 = .ok (.isub, 1) := by decide +kernel
theorem dN_turnAbout_77 : decode cN_turnAbout 77 = .ok (.iload_n 1, 1) := by decide +kernel
theorem dN_turnAbout_78 : decode cN_turnAbout 78 = .ok (.isub, 1) := by decide +kernel
theorem dN_turnAbout_79 : decode cN_turnAbout 79 = .ok (.iaload, 1) := by decide +kernel
theorem dN_turnAbout_80 : decode cN_turnAbout 80 = .ok (.iastore, 1) := by decide +kernel
theorem dN_turnAbout_81 : decode cN_turnAbout 81 = .ok (.aload_n 0, 1) := by decide +kernel
theorem dN_turnAbout_82 : decode cN_turnAbout 82 = .ok (.getfield 9, 3) := by decide +kernel
theorem dN_turnAbout_85 : decode cN_turnAbout 85 = .ok (.aload_n 0, 1) := by decide +kernel
theorem dN_turnAbout_86 : decode cN_turnAbout 86 = .ok (.getfield 27, 3) := by decide +kernel
theorem dN_turnAbout_89 : decode cN_turnAbout 89 = .ok (.iconst 1, 1) := by decide +kernel
theorem dN_turnAbout_90 : decode cN_turnAbout 90 = .ok (.isub, 1) := by decide +kernel
theorem dN_turnAbout_91 : decode cN_turnAbout 91 = .ok (.iload_n 1, 1) := by decide +kernel
theorem dN_turnAbout_92 : decode cN_turnAbout 92 = .ok (.isub, 1) := by decide +kernel
theorem dN_turnAbout_93 : decode cN_turnAbout 93 = .ok (.iload_n 2, 1) := by decide +kernel
theorem dN_turnAbout_94 : decode cN_turnAbout 94 = .ok (.iastore, 1) := by decide +kernel
theorem dN_turnAbout_95 : decode cN_turnAbout 95 = .ok (.iinc 1 1, 3) := by decide +kernel
theorem dN_turnAbout_98 : decode cN_turnAbout 98 = .ok (.goto (-53), 3) := by decide +kernel
theorem dN_turnAbout_101 : decode cN_turnAbout 101 = .ok (.aload_n 0, 1) := by decide +kernel
theorem dN_turnAbout_102 : decode cN_turnAbout 102 = .ok (.iconst 0, 1) := by decide +kernel
theorem dN_turnAbout_103 : decode cN_turnAbout 103 = .ok (.putfield 44, 3) := by decide +kernel
theorem dN_turnAbout_106 : decode cN_turnAbout 106 = .ok (.return_, 1) := by decide +kernel
theorem dW_rest_0 : decode cW_rest 0 = .ok (.iload_n 1, 1) := by decide +kernel
theorem dW_rest_1 : decode cW_rest 1 = .ok (.invokestatic 27, 3) := by decide +kernel
theorem dW_rest_4 : decode cW_rest 4 = .ok (.iload_n 3, 1) := by decide +kernel
theorem dW_rest_5 : decode cW_rest 5 = .ok (.if_icmp .ne 5, 3) := by decide +kernel
theorem dW_rest_8 : decode cW_rest 8 = .ok (.iconst 0, 1) := by decide +kernel
theorem dW_rest_9 : decode cW_rest 9 = .ok (.ireturn, 1) := by decide +kernel
theorem dW_rest_10 : decode cW_rest 10 = .ok (.aload_n 0, 1) := by decide +kernel
theorem dW_rest_11 : decode cW_rest 11 = .ok (.getfield 11, 3) := by decide +kernel
theorem dW_rest_14 : decode cW_rest 14 = .ok (.iload_n 2, 1) := by decide +kernel
theorem dW_rest_15 : decode cW_rest 15 = .ok (.aaload, 1) := by decide +kernel
theorem dW_rest_16 : decode cW_rest 16 = .ok (.iload_n 1, 1) := by decide +kernel
theorem dW_rest_17 : decode cW_rest 17 = .ok (.invokestatic 33, 3) := by decide +kernel
theorem dW_rest_20 : decode cW_rest 20 = .ok (.iload_n 1, 1) := by decide +kernel
theorem dW_rest_21 : decode cW_rest 21 = .ok (.invokestatic 36, 3) := by decide +kernel
theorem dW_rest_24 : decode cW_rest 24 = .ok (.invokestatic 39, 3) := by decide +kernel
theorem dW_rest_27 : decode cW_rest 27 = .ok (.iaload, 1) := by decide +kernel
theorem dW_rest_28 : decode cW_rest 28 = .ok (.ireturn, 1) := by decide +kernel
theorem dW_putInQueue_0 : decode cW_putInQueue 0 = .ok (.aload_n 0, 1) := by decide +kernel
theorem dW_putInQueue_1 : decode cW_putInQueue 1 = .ok (.getfield 20, 3) := by decide +kernel
theorem dW_putInQueue_4 : decode cW_putInQueue 4 = .ok (.iload_n 1, 1) := by decide +kernel
theorem dW_putInQueue_5 : decode cW_putInQueue 5 = .ok (.iaload, 1) := by decide +kernel
theorem dW_putInQueue_6 : decode cW_putInQueue 6 = .ok (.ifCond .ne 49, 3) := by decide +kernel
theorem dW_putInQueue_9 : decode cW_putInQueue 9 = .ok (.aload_n 0, 1) := by decide +kernel
theorem dW_putInQueue_10 : decode cW_putInQueue 10 = .ok (.getfield 91, 3) := by decide +kernel
theorem dW_putInQueue_13 : decode cW_putInQueue 13 = .ok (.sipush 256, 3) := by decide +kernel
theorem dW_putInQueue_16 : decode cW_putInQueue 16 = .ok (.if_icmp .ge 39, 3) := by decide +kernel
theorem dW_putInQueue_19 : decode cW_putInQueue 19 = .ok (.aload_n 0, 1) := by decide +kernel
theorem dW_putInQueue_20 : decode cW_putInQueue 20 = .ok (.getfield 20, 3) := by decide +kernel
theorem dW_putInQueue_23 : decode cW_putInQueue 23 = .ok (.iload_n 1, 1) := by decide +kernel
theorem dW_putInQueue_24 : decode cW_putInQueue 24 = .ok (.iconst 1, 1) := by decide +kernel
theorem dW_putInQueue_25 : decode cW_putInQueue 25 = .ok (.iastore, 1) := by decide +kernel
theorem dW_putInQueue_26 : decode cW_putInQueue 26 = .ok (.aload_n 0, 1) := by decide +kernel
theorem dW_putInQueue_27 : decode cW_putInQueue 27 = .ok (.getfield 16, 3) := by decide +kernel
theorem dW_putInQueue_30 : decode cW_putInQueue 30 = .ok (.aload_n 0, 1) := by decide +kernel
theorem dW_putInQueue_31 : decode cW_putInQueue 31 = .ok (.getfield 106, 3) := by decide +kernel
theorem dW_putInQueue_34 : decode cW_putInQueue 34 = .ok (.aload_n 0, 1) := by decide +kernel
theorem dW_putInQueue_35 : decode cW_putInQueue 35 = .ok (.getfield 91, 3) := by decide +kernel
theorem dW_putInQueue_38 : decode cW_putInQueue 38 = .ok (.iadd, 1) := by decide +kernel
theorem dW_putInQueue_39 : decode cW_putInQueue 39 = .ok (.sipush 256, 3) := by decide +kernel
theorem dW_putInQueue_42 : decode cW_putInQueue 42 = .ok (.irem, 1) := by decide +kernel
theorem dW_putInQueue_43 : decode cW_putInQueue 43 = .ok (.iload_n 1, 1) := by decide +kernel
theorem dW_putInQueue_44 : decode cW_putInQueue 44 = .ok (.iastore, 1) := by decide +kernel
theorem dW_putInQueue_45 : decode cW_putInQueue 45 = .ok (.aload_n 0, 1) := by decide +kernel
theorem dW_putInQueue_46 : decode cW_putInQueue 46 = .ok (.dup, 1) := by decide +kernel
theorem dW_putInQueue_47 : decode cW_putInQueue 47 = .ok (.getfield 91, 3) := by decide +kernel
theorem dW_putInQueue_50 : decode cW_putInQueue 50 = .ok (.iconst 1, 1) := by decide +kernel
theorem dW_putInQueue_51 : decode cW_putInQueue 51 = .ok (.iadd, 1) := by decide +kernel
theorem dW_putInQueue_52 : decode cW_putInQueue 52 = .ok (.putfield 91, 3) := by decide +kernel
theorem dW_putInQueue_55 : decode cW_putInQueue 55 = .ok (.return_, 1) := by decide +kernel
theorem dW_takeFromQueue_0 : decode cW_takeFromQueue 0 = .ok (.aload_n 0, 1) := by decide +kernel
theorem dW_takeFromQueue_1 : decode cW_takeFromQueue 1 = .ok (.getfield 16, 3) := by decide +kernel
theorem dW_takeFromQueue_4 : decode cW_takeFromQueue 4 = .ok (.aload_n 0, 1) := by decide +kernel
theorem dW_takeFromQueue_5 : decode cW_takeFromQueue 5 = .ok (.getfield 106, 3) := by decide +kernel
theorem dW_takeFromQueue_8 : decode cW_takeFromQueue 8 = .ok (.iaload, 1) := by decide +kernel
theorem dW_takeFromQueue_9 : decode cW_takeFromQueue 9 = .ok (.istore_n 1, 1) := by decide +kernel
theorem dW_takeFromQueue_10 : decode cW_takeFromQueue 10 = .ok (.aload_n 0, 1) := by decide +kernel
theorem dW_takeFromQueue_11 : decode cW_takeFromQueue 11 = .ok (.aload_n 0, 1) := by decide +kernel
theorem dW_takeFromQueue_12 : decode cW_takeFromQueue 12 = .ok (.getfield 106, 3) := by decide +kernel
theorem dW_takeFromQueue_15 : decode cW_takeFromQueue 15 = .ok (.iconst 1, 1) := by decide +kernel
theorem dW_takeFromQueue_16 : decode cW_takeFromQueue 16 = .ok (.iadd, 1) := by decide +kernel
theorem dW_takeFromQueue_17 : decode cW_takeFromQueue 17 = .ok (.sipush 256, 3) := by decide +kernel
theorem dW_takeFromQueue_20 : decode cW_takeFromQueue 20 = .ok (.irem, 1) := by decide +kernel
theorem dW_takeFromQueue_21 : decode cW_takeFromQueue 21 = .ok (.putfield 106, 3) := by decide +kernel
theorem dW_takeFromQueue_24 : decode cW_takeFromQueue 24 = .ok (.aload_n 0, 1) := by decide +kernel
theorem dW_takeFromQueue_25 : decode cW_takeFromQueue 25 = .ok (.dup, 1) := by decide +kernel
theorem dW_takeFromQueue_26 : decode cW_takeFromQueue 26 = .ok (.getfield 91, 3) := by decide +kernel
theorem dW_takeFromQueue_29 : decode cW_takeFromQueue 29 = .ok (.iconst 1, 1) := by decide +kernel
theorem dW_takeFromQueue_30 : decode cW_takeFromQueue 30 = .ok (.isub, 1) := by decide +kernel
theorem dW_takeFromQueue_31 : decode cW_takeFromQueue 31 = .ok (.putfield 91, 3) := by decide +kernel
theorem dW_takeFromQueue_34 : decode cW_takeFromQueue 34 = .ok (.aload_n 0, 1) := by decide +kernel
theorem dW_takeFromQueue_35 : decode cW_takeFromQueue 35 = .ok (.getfield 20, 3) := by decide +kernel
theorem dW_takeFromQueue_38 : decode cW_takeFromQueue 38 = .ok (.iload_n 1, 1) := by decide +kernel
theorem dW_takeFromQueue_39 : decode cW_takeFromQueue 39 = .ok (.iconst 0, 1) := by decide +kernel
theorem dW_takeFromQueue_40 : decode cW_takeFromQueue 40 = .ok (.iastore, 1) := by decide +kernel
theorem dW_takeFromQueue_41 : decode cW_takeFromQueue 41 = .ok (.iload_n 1, 1) := by decide +kernel
theorem dW_takeFromQueue_42 : decode cW_takeFromQueue 42 = .ok (.ireturn, 1) := by decide +kernel
theorem dW_offer_0 : decode cW_offer 0 = .ok (.aload_n 1, 1) := by decide +kernel
theorem dW_offer_1 : decode cW_offer 1 = .ok (.iload_n 3, 1) := by decide +kernel
theorem dW_offer_2 : decode cW_offer 2 = .ok (.invokevirtual 65, 3) := by decide +kernel
theorem dW_offer_5 : decode cW_offer 5 = .ok (.iload 4, 2) := by decide +kernel
theorem dW_offer_7 : decode cW_offer 7 = .ok (.iadd, 1) := by decide +kernel
theorem dW_offer_8 : decode cW_offer 8 = .ok (.istore 5, 2) := by decide +kernel
theorem dW_offer_10 : decode cW_offer 10 = .ok (.iload_n 3, 1) := by decide +kernel
theorem dW_offer_11 : decode cW_offer 11 = .ok (.invokestatic 99, 3) := by decide +kernel
theorem dW_offer_14 : decode cW_offer 14 = .ok (.istore 6, 2) := by decide +kernel
theorem dW_offer_16 : decode cW_offer 16 = .ok (.aload_n 1, 1) := by decide +kernel
theorem dW_offer_17 : decode cW_offer 17 = .ok (.iload_n 3, 1) := by decide +kernel
theorem dW_offer_18 : decode cW_offer 18 = .ok (.invokestatic 33, 3) := by decide +kernel
theorem dW_offer_21 : decode cW_offer 21 = .ok (.iload 6, 2) := by decide +kernel
theorem dW_offer_23 : decode cW_offer 23 = .ok (.invokevirtual 43, 3) := by decide +kernel
theorem dW_offer_26 : decode cW_offer 26 = .ok (.istore 7, 2) := by decide +kernel
theorem dW_offer_28 : decode cW_offer 28 = .ok (.iload 7, 2) := by decide +kernel
theorem dW_offer_30 : decode cW_offer 30 = .ok (.iconst (-1), 1) := by decide +kernel
theorem dW_offer_31 : decode cW_offer 31 = .ok (.if_icmp .ne 4, 3) := by decide +kernel
theorem dW_offer_34 : decode cW_offer 34 = .ok (.return_, 1) := by decide +kernel
theorem dW_offer_35 : decode cW_offer 35 = .ok (.iload 7, 2) := by decide +kernel
theorem dW_offer_37 : decode cW_offer 37 = .ok (.iload 6, 2) := by decide +kernel
theorem dW_offer_39 : decode cW_offer 39 = .ok (.invokestatic 48, 3) := by decide +kernel
theorem dW_offer_42 : decode cW_offer 42 = .ok (.invokestatic 39, 3) := by decide +kernel
theorem dW_offer_45 : decode cW_offer 45 = .ok (.istore 8, 2) := by decide +kernel
theorem dW_offer_47 : decode cW_offer 47 = .ok (.iload 5, 2) := by decide +kernel
theorem dW_offer_49 : decode cW_offer 49 = .ok (.aload_n 0, 1) := by decide +kernel
theorem dW_offer_50 : decode cW_offer 50 = .ok (.getfield 11, 3) := by decide +kernel
theorem dW_offer_53 : decode cW_offer 53 = .ok (.iload_n 2, 1) := by decide +kernel
theorem dW_offer_54 : decode cW_offer 54 = .ok (.aaload, 1) := by decide +kernel
theorem dW_offer_55 : decode cW_offer 55 = .ok (.iload 8, 2) := by decide +kernel
theorem dW_offer_57 : decode cW_offer 57 = .ok (.iaload, 1) := by decide +kernel
theorem dW_offer_58 : decode cW_offer 58 = .ok (.if_icmp .ge 20, 3) := by decide +kernel
theorem dW_offer_61 : decode cW_offer 61 = .ok (.aload_n 0, 1) := by decide +kernel
theorem dW_offer_62 : decode cW_offer 62 = .ok (.getfield 11, 3) := by decide +kernel
theorem dW_offer_65 : decode cW_offer 65 = .ok (.iload_n 2, 1) := by decide +kernel
theorem dW_offer_66 : decode cW_offer 66 = .ok (.aaload, 1) := by decide +kernel
theorem dW_offer_67 : decode cW_offer 67 = .ok (.iload 8, 2) := by decide +kernel
theorem dW_offer_69 : decode cW_offer 69 = .ok (.iload 5, 2) := by decide +kernel
theorem dW_offer_71 : decode cW_offer 71 = .ok (.iastore, 1) := by decide +kernel
theorem dW_offer_72 : decode cW_offer 72 = .ok (.aload_n 0, 1) := by decide +kernel
theorem dW_offer_73 : decode cW_offer 73 = .ok (.iload 8, 2) := by decide +kernel
theorem dW_offer_75 : decode cW_offer 75 = .ok (.invokevirtual 102, 3) := by decide +kernel
theorem dW_offer_78 : decode cW_offer 78 = .ok (.return_, 1) := by decide +kernel
theorem lmN_64 : Cond.methodLink R_N 64 yS_placeOf ∈ bigW := bw 423 (by decide +kernel) rfl
theorem lmN_70 : Cond.methodLink R_N 70 yS_entryOf ∈ bigW := bw 424 (by decide +kernel) rfl
theorem lmN_73 : Cond.methodLink R_N 73 yS_run ∈ bigW := bw 425 (by decide +kernel) rfl
theorem lmW_27 : Cond.methodLink R_W 27 yS_placeOf ∈ bigW := bw 519 (by decide +kernel) rfl
theorem lfW_11 : Cond.fieldLink R_W 11 "RailYard$Ways" "least" "[[I" ∈ bigW := bw 67 (by decide +kernel) rfl
theorem lmW_33 : Cond.methodLink R_W 33 yS_tileOf ∈ bigW := bw 491 (by decide +kernel) rfl
theorem lmW_36 : Cond.methodLink R_W 36 yS_edgeOf ∈ bigW := bw 513 (by decide +kernel) rfl
theorem lmW_39 : Cond.methodLink R_W 39 yS_exit ∈ bigW := bw 494 (by decide +kernel) rfl
theorem lfW_20 : Cond.fieldLink R_W 20 "RailYard$Ways" "queued" "[I" ∈ bigW := bw 70 (by decide +kernel) rfl
theorem lfW_91 : Cond.fieldLink R_W 91 "RailYard$Ways" "queueCount" "I" ∈ bigW := bw 72 (by decide +kernel) rfl
theorem lfW_16 : Cond.fieldLink R_W 16 "RailYard$Ways" "queue" "[I" ∈ bigW := bw 69 (by decide +kernel) rfl
theorem lfW_106 : Cond.fieldLink R_W 106 "RailYard$Ways" "queueStart" "I" ∈ bigW := bw 71 (by decide +kernel) rfl
theorem lmW_65 : Cond.methodLink R_W 65 yG_cost ∈ bigW := bw 484 (by decide +kernel) rfl
theorem lmW_99 : Cond.methodLink R_W 99 yS_entryOf ∈ bigW := bw 490 (by decide +kernel) rfl
theorem lmW_43 : Cond.methodLink R_W 43 yG_across ∈ bigW := bw 492 (by decide +kernel) rfl
theorem lmW_48 : Cond.methodLink R_W 48 yS_opposite ∈ bigW := bw 493 (by decide +kernel) rfl
theorem lmW_102 : Cond.methodLink R_W 102 yW_putInQueue ∈ bigW := bw 497 (by decide +kernel) rfl
theorem miS_exit : MI yS_exit cS_exit 2 (some .int) 2 := ⟨bw 496 (by decide +kernel) rfl, bw 49 (by decide +kernel) rfl, ⟨by decide +kernel, by decide +kernel⟩, by decide +kernel, by decide⟩
theorem msS_exit : Cond.static yS_exit ∈ bigW := bw 495 (by decide +kernel) rfl
theorem miG_cost : MI yG_cost cG_cost 4 (some .int) 1 := ⟨bw 487 (by decide +kernel) rfl, bw 44 (by decide +kernel) rfl, ⟨by decide +kernel, by decide +kernel⟩, by decide +kernel, by decide⟩
theorem mvG_cost : MV yG_cost := ⟨bw 485 (by decide +kernel) rfl, bw 486 (by decide +kernel) rfl⟩
theorem miW_putInQueue : MI yW_putInQueue cW_putInQueue 2 none 1 := ⟨bw 500 (by decide +kernel) rfl, bw 40 (by decide +kernel) rfl, ⟨by decide +kernel, by decide +kernel⟩, by decide +kernel, by decide⟩
theorem mvW_putInQueue : MV yW_putInQueue := ⟨bw 499 (by decide +kernel) rfl, bw 6 (by decide +kernel) rfl⟩
def flp (x : Int) : Int := x % 512 + 512 * otE (x % 512 / 64) (x / 512)
def ta1 (w u : RW) (r : Nat) (i : Int) : Prop := (∀ j, j ≠ r → u j = w j) ∧ (∀ j, 0 ≤ j → j < i → u r j = flp (w r j)) ∧ ∀ j, ¬ (0 ≤ j ∧ j < i) → u r j = w r j
def ta2 (v u : RW) (r : Nat) (c i : Int) : Prop := (∀ j, j ≠ r → u j = v j) ∧ (∀ j, (0 ≤ j ∧ j < i) ∨ (c - 1 - i < j ∧ j < c) → u r j = v r (c - 1 - j)) ∧ ∀ j, ¬ ((0 ≤ j ∧ j < i) ∨ (c - 1 - i < j ∧ j < c)) → u r j = v r j
theorem lpN_turn2 {G : vG} {X : vX} {Q : State → Prop} {w v : RW} {k r o : Nat} (hk : shp[k]? = some (.inr (.inl (3, [some r, none, none, none, none, none, some o, none, none, none])))) (hr : shp[r]? = some (.inl (0, 96))) (ho : shp[o]? = some (.inl (0, 6))) (hkr : r ≠ k) (hn : 0 ≤ w k 1 ∧ w k 1 ≤ 96) (hx : ∀ i, 0 ≤ i → i < w k 1 → okR (w r i)) (F : FX G X cN_turnAbout yN_turnAbout.cls 3 2) (hR : RetV G X cN_turnAbout 3 Q (fun u => (∀ j, j ≠ k → j ≠ r → u j = w j) ∧ (u k 9 = 0 ∧ ∀ f, f ≠ 9 → u k f = w k f) ∧ (∀ i, 0 ≤ i → i < w k 1 → u r i = flp (w r (w k 1 - 1 - i))) ∧ ∀ i, ¬ (0 ≤ i ∧ i < w k 1) → u r i = w r i)) (hv : ta1 w v r (w k 1)) : ∀ (m : Nat) (i : Int) (u0 : RW) (z : Option RV), 0 ≤ i → i ≤ w k 1 / 2 → w k 1 / 2 - i < m → ta2 v u0 r (w k 1) i → V G X 3 Q 45 [some (.inr k), some (.inl i), z] [] u0 := by
  intro m
  induction m with
  | zero => intro i u0 z h1 h2 h3; omega
  | succ m ih =>
    intro i u0 z h1 h2 h3 hI
    refine V_iload_n (i := 1) F dN_turnAbout_45 rfl rfl ?_
    refine V_aload_n (i := 0) F dN_turnAbout_46 rfl rfl ?_
    refine V_geti (ci := 3) (C := R_N) (T := T_N) (N := 10) F dN_turnAbout_47 (by first | rfl | assumption) rfl (j := 1) 1 rfl (by decide) rfl lfN_27 ?_
    rw [hI.1 k (Ne.symm hkr), hv.1 k (Ne.symm hkr)]
    refine V_iconst F dN_turnAbout_50 (by decide) ?_
    refine V_idiv F dN_turnAbout_51 (by omega) ?_
    refine V_icmp_ge F 101 dN_turnAbout_52 (by decide) (fun h52 => ?_) (fun h52 => ?_)
    · refine V_aload_n (i := 0) F dN_turnAbout_101 rfl rfl ?_
      refine V_iconst F dN_turnAbout_102 (by decide) ?_
      refine V_putz (ci := 3) (C := R_N) (T := T_N) (N := 10) F dN_turnAbout_103 (by first | rfl | assumption) rfl (j := 9) 9 rfl (by decide) rfl rfl rfl (by first | exact Or.inl rfl | exact Or.inr rfl | exact bz_01 _ | assumption) lfN_44 ?_
      exact hR _ _ _ dN_turnAbout_106 (by
        refine ⟨fun j j1 j2 => ?_, ⟨by rw [upw_s], fun f hf => ?_⟩, fun j j1 j2 => ?_, fun j hj => ?_⟩
        · rw [upw_f j1, hI.1 j j2]; exact hv.1 j j2
        · rw [upw_i hf, hI.1 k (Ne.symm hkr), hv.1 k (Ne.symm hkr)]
        · rw [upw_f hkr]
          by_cases h1 : (0 ≤ j ∧ j < i) ∨ (w k 1 - 1 - i < j ∧ j < w k 1)
          · rw [hI.2.1 j h1]; exact hv.2.1 _ (by omega) (by omega)
          · rw [hI.2.2 j h1, show w k 1 - 1 - j = j by omega]; exact hv.2.1 _ (by omega) (by omega)
        · rw [upw_f hkr, hI.2.2 j (by omega)]; exact hv.2.2 j hj)
    · refine V_aload_n (i := 0) F dN_turnAbout_55 rfl rfl ?_
      refine V_getr (ci := 3) (C := R_N) (T := T_N) (N := 10) F dN_turnAbout_56 (by first | rfl | assumption) rfl (j := 0) (by decide) rfl lfN_9 ?_
      refine V_iload_n (i := 1) F dN_turnAbout_59 rfl rfl ?_
      refine V_iald F dN_turnAbout_60 hr rfl (by omega) ?_
      refine V_istore_n (i := 2) F dN_turnAbout_61 rfl (by decide) (by simp only [List.set_cons_zero, List.set_cons_succ]; exact rfl) ?_
      refine V_aload_n (i := 0) F dN_turnAbout_62 rfl rfl ?_
      refine V_getr (ci := 3) (C := R_N) (T := T_N) (N := 10) F dN_turnAbout_63 (by first | rfl | assumption) rfl (j := 0) (by decide) rfl lfN_9 ?_
      refine V_iload_n (i := 1) F dN_turnAbout_66 rfl rfl ?_
      refine V_aload_n (i := 0) F dN_turnAbout_67 rfl rfl ?_
      refine V_getr (ci := 3) (C := R_N) (T := T_N) (N := 10) F dN_turnAbout_68 (by first | rfl | assumption) rfl (j := 0) (by decide) rfl lfN_9 ?_
      refine V_aload_n (i := 0) F dN_turnAbout_71 rfl rfl ?_
      refine V_geti (ci := 3) (C := R_N) (T := T_N) (N := 10) F dN_turnAbout_72 (by first | rfl | assumption) rfl (j := 1) 1 rfl (by decide) rfl lfN_27 ?_
      rw [hI.1 k (Ne.symm hkr), hv.1 k (Ne.symm hkr)]
      refine V_iconst F dN_turnAbout_75 (by decide) ?_
      refine V_isub F dN_turnAbout_76 (by omega) ?_
      refine V_iload_n (i := 1) F dN_turnAbout_77 rfl rfl ?_
      refine V_isub F dN_turnAbout_78 (by omega) ?_
      refine V_iald F dN_turnAbout_79 hr rfl (by omega) ?_
      refine V_iast F dN_turnAbout_80 hr rfl (by omega) ?_
      refine V_aload_n (i := 0) F dN_turnAbout_81 rfl rfl ?_
      refine V_getr (ci := 3) (C := R_N) (T := T_N) (N := 10) F dN_turnAbout_82 (by first | rfl | assumption) rfl (j := 0) (by decide) rfl lfN_9 ?_
      refine V_aload_n (i := 0) F dN_turnAbout_85 rfl rfl ?_
      refine V_geti (ci := 3) (C := R_N) (T := T_N) (N := 10) F dN_turnAbout_86 (by first | rfl | assumption) rfl (j := 1) 1 rfl (by decide) rfl lfN_27 ?_
      rw [upw_k (Ne.symm hkr), hI.1 k (Ne.symm hkr), hv.1 k (Ne.symm hkr)]
      refine V_iconst F dN_turnAbout_89 (by decide) ?_
      refine V_isub F dN_turnAbout_90 (by omega) ?_
      refine V_iload_n (i := 1) F dN_turnAbout_91 rfl rfl ?_
      refine V_isub F dN_turnAbout_92 (by omega) ?_
      refine V_iload_n (i := 2) F dN_turnAbout_93 rfl rfl ?_
      refine V_iast F dN_turnAbout_94 hr rfl (by omega) ?_
      refine V_iinc F dN_turnAbout_95 (by decide) rfl (by omega) (by simp only [List.set_cons_zero, List.set_cons_succ]; exact rfl) ?_
      refine V_goto F 45 dN_turnAbout_98 (by decide) ?_
      refine ih (i + 1) _ _ (by omega) (by omega) (by omega) ⟨fun j j1 => ?_, fun j hj => ?_, fun j hj => ?_⟩
      · rw [upw_f j1, upw_f j1]; exact hI.1 j j1
      · by_cases h1 : j = w k 1 - 1 - i
        · rw [h1, upw_s, hI.2.2 i (by omega)]
          congr 1
          omega
        · rw [upw_i h1]
          by_cases h2 : j = i
          · rw [h2, upw_s, hI.2.2 _ (by omega)]
          · rw [upw_i h2]
            exact hI.2.1 j (by omega)
      · rw [upw_i (by omega), upw_i (by omega)]
        exact hI.2.2 j (by omega)
theorem lpN_turn1 {G : vG} {X : vX} {Q : State → Prop} {w : RW} {k r o : Nat} (hk : shp[k]? = some (.inr (.inl (3, [some r, none, none, none, none, none, some o, none, none, none])))) (hr : shp[r]? = some (.inl (0, 96))) (ho : shp[o]? = some (.inl (0, 6))) (hkr : r ≠ k) (hn : 0 ≤ w k 1 ∧ w k 1 ≤ 96) (hx : ∀ i, 0 ≤ i → i < w k 1 → okR (w r i)) (F : FX G X cN_turnAbout yN_turnAbout.cls 3 2) (hR : RetV G X cN_turnAbout 3 Q (fun u => (∀ j, j ≠ k → j ≠ r → u j = w j) ∧ (u k 9 = 0 ∧ ∀ f, f ≠ 9 → u k f = w k f) ∧ (∀ i, 0 ≤ i → i < w k 1 → u r i = flp (w r (w k 1 - 1 - i))) ∧ ∀ i, ¬ (0 ≤ i ∧ i < w k 1) → u r i = w r i)) : ∀ (m : Nat) (i : Int) (u0 : RW), 0 ≤ i → i ≤ w k 1 → w k 1 - i < m → ta1 w u0 r i → V G X 3 Q 2 [some (.inr k), some (.inl i), none] [] u0 := by
  intro m
  induction m with
  | zero => intro i u0 h1 h2 h3; omega
  | succ m ih =>
    intro i u0 h1 h2 h3 hI
    refine V_iload_n (i := 1) F dN_turnAbout_2 rfl rfl ?_
    refine V_aload_n (i := 0) F dN_turnAbout_3 rfl rfl ?_
    refine V_geti (ci := 3) (C := R_N) (T := T_N) (N := 10) F dN_turnAbout_4 (by first | rfl | assumption) rfl (j := 1) 1 rfl (by decide) rfl lfN_27 ?_
    rw [hI.1 k (Ne.symm hkr)]
    refine V_icmp_ge F 43 dN_turnAbout_7 (by decide) (fun h7 => ?_) (fun h7 => ?_)
    · refine V_iconst F dN_turnAbout_43 (by decide) ?_
      refine V_istore_n (i := 1) F dN_turnAbout_44 rfl (by decide) (by simp only [List.set_cons_zero, List.set_cons_succ]; exact rfl) ?_
      rw [show i = w k 1 by omega] at hI
      exact lpN_turn2 hk hr ho hkr hn hx F hR hI ((w k 1 / 2).toNat + 1) 0 u0 _ (by omega) (by omega) (by omega) ⟨fun j _ => rfl, fun j hj => by omega, fun j _ => rfl⟩
    · obtain ⟨x1, x2, x3, x4, x5⟩ := hx i h1 (by omega)
      have hO := otE_rng (by omega) x5
      refine V_aload_n (i := 0) F dN_turnAbout_10 rfl rfl ?_
      refine V_getr (ci := 3) (C := R_N) (T := T_N) (N := 10) F dN_turnAbout_11 (by first | rfl | assumption) rfl (j := 0) (by decide) rfl lfN_9 ?_
      refine V_iload_n (i := 1) F dN_turnAbout_14 rfl rfl ?_
      refine V_aload_n (i := 0) F dN_turnAbout_15 rfl rfl ?_
      refine V_getr (ci := 3) (C := R_N) (T := T_N) (N := 10) F dN_turnAbout_16 (by first | rfl | assumption) rfl (j := 0) (by decide) rfl lfN_9 ?_
      refine V_iload_n (i := 1) F dN_turnAbout_19 rfl rfl ?_
      refine V_iald F dN_turnAbout_20 hr rfl (by omega) ?_
      rw [hI.2.2 i (by omega)]
      refine V_callSi F dN_turnAbout_21 lmN_64 miS_placeOf msS_placeOf (ctS_placeOf (by omega)) (by decide) rfl (Nat.le_of_ble_eq_true rfl) (fun r u hr => ?_)
      obtain ⟨rfl, rfl⟩ := hr
      refine V_aload_n (i := 0) F dN_turnAbout_24 rfl rfl ?_
      refine V_getr (ci := 3) (C := R_N) (T := T_N) (N := 10) F dN_turnAbout_25 (by first | rfl | assumption) rfl (j := 0) (by decide) rfl lfN_9 ?_
      refine V_iload_n (i := 1) F dN_turnAbout_28 rfl rfl ?_
      refine V_iald F dN_turnAbout_29 hr rfl (by omega) ?_
      rw [hI.2.2 i (by omega)]
      refine V_callSi F dN_turnAbout_30 lmN_70 miS_entryOf msS_entryOf (ctS_entryOf (by omega) (by omega)) (by decide) rfl (Nat.le_of_ble_eq_true rfl) (fun r u hr => ?_)
      obtain ⟨rfl, rfl⟩ := hr
      refine V_callSi F dN_turnAbout_33 lmN_73 miS_run msS_run (ctS_run (by omega)) (by decide) rfl (Nat.le_of_ble_eq_true rfl) (fun r u hr => ?_)
      obtain ⟨rfl, rfl⟩ := hr
      refine V_iast F dN_turnAbout_36 (by first | rfl | assumption) rfl (by omega) ?_
      refine V_iinc F dN_turnAbout_37 (by decide) rfl (by omega) (by simp only [List.set_cons_zero, List.set_cons_succ]; exact rfl) ?_
      refine V_goto F 2 dN_turnAbout_40 (by decide) ?_
      refine ih (i + 1) _ (by omega) (by omega) (by omega) ⟨fun j j1 => ?_, fun j j1 j2 => ?_, fun j hj => ?_⟩
      · rw [upw_f j1]; exact hI.1 j j1
      · by_cases hj : j = i
        · rw [hj, upw_s]; rfl
        · rw [upw_i hj]; exact hI.2.1 j j1 (by omega)
      · rw [upw_i (by omega)]; exact hI.2.2 j (by omega)
theorem ctN_turnAbout {G : vG} {l : Launch} {w : RW} {k r o : Nat} (hk : shp[k]? = some (.inr (.inl (3, [some r, none, none, none, none, none, some o, none, none, none])))) (hr : shp[r]? = some (.inl (0, 96))) (ho : shp[o]? = some (.inl (0, 6))) (hkr : r ≠ k) (hn : 0 ≤ w k 1 ∧ w k 1 ≤ 96) (hx : ∀ i, 0 ≤ i → i < w k 1 → okR (w r i)) : CTv G l yN_turnAbout cN_turnAbout 3 2 [.inr k] w (fun u => (∀ j, j ≠ k → j ≠ r → u j = w j) ∧ (u k 9 = 0 ∧ ∀ f, f ≠ 9 → u k f = w k f) ∧ (∀ i, 0 ≤ i → i < w k 1 → u r i = flp (w r (w k 1 - 1 - i))) ∧ ∀ i, ¬ (0 ≤ i ∧ i < w k 1) → u r i = w r i) := by
  refine CTv.intro (by decide) (Nat.le_of_ble_eq_true rfl) ?_
  intro X Q F hX hR
  subst hX
  show V G X 3 Q 0 [some (.inr k), none, none] [] w
  refine V_iconst F dN_turnAbout_0 (by decide) ?_
  refine V_istore_n (i := 1) F dN_turnAbout_1 rfl (by decide) (by simp only [List.set_cons_zero, List.set_cons_succ]; exact rfl) ?_
  exact lpN_turn1 hk hr ho hkr hn hx F hR ((w k 1).toNat + 1) 0 _ (by omega) (by omega) (by omega) ⟨fun j _ => rfl, fun j j1 j2 => by omega, fun j _ => rfl⟩
theorem ctW_rest {G : vG} {l : Launch} {w : RW} {x s g : Int} (hx : 0 ≤ x ∧ x < 2048) (hs : 0 ≤ s ∧ s < 6) : CTi G l yW_rest cW_rest 4 .int 1 [.inr 63, .inl x, .inl s, .inl g] w (fun z u => z = (if x % 512 = g then 0 else w (65 + s.toNat) (x % 64 + 64 * (x / 512))) ∧ w = u) := by
  refine CTi.int (by decide) (Nat.le_of_ble_eq_true rfl) ?_
  intro X Q F hX hR
  subst hX
  show V G X 4 Q 0 [some (.inr 63), some (.inl x), some (.inl s), some (.inl g)] [] w
  refine V_iload_n (i := 1) F dW_rest_0 rfl rfl ?_
  refine V_callSi F dW_rest_1 lmW_27 miS_placeOf msS_placeOf (ctS_placeOf (by omega)) (by decide) rfl (Nat.le_of_ble_eq_true rfl) (fun r u hr => ?_)
  obtain ⟨rfl, rfl⟩ := hr
  refine V_iload_n (i := 3) F dW_rest_4 rfl rfl ?_
  refine V_icmp_ne F 10 dW_rest_5 (by decide) (fun h5 => ?_) (fun h5 => ?_)
  · have a1 := ls65_at hs
    have a2 := ls65_sh hs
    refine V_aload_n (i := 0) F dW_rest_10 rfl rfl ?_
    refine V_getr (ci := 4) (C := R_W) (T := T_W) (N := 6) F dW_rest_11 (by first | rfl | assumption) rfl (j := 0) (by decide) rfl lfW_11 ?_
    refine V_iload_n (i := 2) F dW_rest_14 rfl rfl ?_
    first
      | refine V_aald F dW_rest_15 (by first | rfl | assumption) rfl (by omega) (by first | rfl | assumption) ?_
      | refine V_aaldA F dW_rest_15 (by first | rfl | assumption) rfl (by omega) (by first | rfl | assumption) ?_
    refine V_iload_n (i := 1) F dW_rest_16 rfl rfl ?_
    refine V_callSi F dW_rest_17 lmW_33 miS_tileOf msS_tileOf (ctS_tileOf (by omega)) (by decide) rfl (Nat.le_of_ble_eq_true rfl) (fun r u hr => ?_)
    obtain ⟨rfl, rfl⟩ := hr
    refine V_iload_n (i := 1) F dW_rest_20 rfl rfl ?_
    refine V_callSi F dW_rest_21 lmW_36 miS_edgeOf msS_edgeOf (ctS_edgeOf (by omega)) (by decide) rfl (Nat.le_of_ble_eq_true rfl) (fun r u hr => ?_)
    obtain ⟨rfl, rfl⟩ := hr
    refine V_callSi F dW_rest_24 lmW_39 miS_exit msS_exit (ctS_exit (by omega)) (by decide) rfl (Nat.le_of_ble_eq_true rfl) (fun r u hr => ?_)
    obtain ⟨rfl, rfl⟩ := hr
    first
      | refine V_sald F dW_rest_27 (by decide) (by omega) (stt_in _ _) ?_
      | refine V_iald F dW_rest_27 (by first | rfl | assumption) rfl (by omega) ?_
    exact hR _ _ _ _ dW_rest_28 (by first | exact ⟨(if_pos h5).symm, rfl⟩ | exact ⟨(if_neg h5).symm, rfl⟩)
  · refine V_iconst F dW_rest_8 (by decide) ?_
    exact hR _ _ _ _ dW_rest_9 (by first | exact ⟨(if_pos h5).symm, rfl⟩ | exact ⟨(if_neg h5).symm, rfl⟩)
def putQ (w : RW) (e : Int) (u : RW) : Prop := (w 72 e = 0 ∧ w 63 5 < 256 ∧ upw (upw (upw w 72 e 1) 71 ((w 63 4 + w 63 5) % 256) e) 63 5 (w 63 5 + 1) = u) ∨ (¬ (w 72 e = 0 ∧ w 63 5 < 256) ∧ w = u)
theorem ctW_putInQueue {G : vG} {l : Launch} {w : RW} {e : Int} (he : 0 ≤ e ∧ e < 256) (hq : 0 ≤ w 63 4 ∧ w 63 4 < 256 ∧ 0 ≤ w 63 5 ∧ w 63 5 ≤ 256) : CTv G l yW_putInQueue cW_putInQueue 2 0 [.inr 63, .inl e] w (fun u => putQ w e u) := by
  refine CTv.intro (by decide) (Nat.le_of_ble_eq_true rfl) ?_
  intro X Q F hX hR
  subst hX
  show V G X 2 Q 0 [some (.inr 63), some (.inl e)] [] w
  refine V_aload_n (i := 0) F dW_putInQueue_0 rfl rfl ?_
  refine V_getr (ci := 4) (C := R_W) (T := T_W) (N := 6) F dW_putInQueue_1 (by first | rfl | assumption) rfl (j := 3) (by decide) rfl lfW_20 ?_
  refine V_iload_n (i := 1) F dW_putInQueue_4 rfl rfl ?_
  first
    | refine V_sald F dW_putInQueue_5 (by decide) (by omega) (stt_in _ _) ?_
    | refine V_iald F dW_putInQueue_5 (by first | rfl | assumption) rfl (by omega) ?_
  refine V_if_ne F 55 dW_putInQueue_6 (by decide) (fun h6 => ?_) (fun h6 => ?_)
  · exact hR _ _ _ dW_putInQueue_55 (by first | exact Or.inr ⟨by omega, rfl⟩ | exact Or.inl ⟨by omega, by omega, rfl⟩)
  · refine V_aload_n (i := 0) F dW_putInQueue_9 rfl rfl ?_
    refine V_geti (ci := 4) (C := R_W) (T := T_W) (N := 6) F dW_putInQueue_10 (by first | rfl | assumption) rfl (j := 5) 5 rfl (by decide) rfl lfW_91 ?_
    refine V_sipush F dW_putInQueue_13 (by decide) ?_
    refine V_icmp_ge F 55 dW_putInQueue_16 (by decide) (fun h16 => ?_) (fun h16 => ?_)
    · exact hR _ _ _ dW_putInQueue_55 (by first | exact Or.inr ⟨by omega, rfl⟩ | exact Or.inl ⟨by omega, by omega, rfl⟩)
    · refine V_aload_n (i := 0) F dW_putInQueue_19 rfl rfl ?_
      refine V_getr (ci := 4) (C := R_W) (T := T_W) (N := 6) F dW_putInQueue_20 (by first | rfl | assumption) rfl (j := 3) (by decide) rfl lfW_20 ?_
      refine V_iload_n (i := 1) F dW_putInQueue_23 rfl rfl ?_
      refine V_iconst F dW_putInQueue_24 (by decide) ?_
      refine V_iast F dW_putInQueue_25 (by first | rfl | assumption) rfl (by omega) ?_
      refine V_aload_n (i := 0) F dW_putInQueue_26 rfl rfl ?_
      refine V_getr (ci := 4) (C := R_W) (T := T_W) (N := 6) F dW_putInQueue_27 (by first | rfl | assumption) rfl (j := 2) (by decide) rfl lfW_16 ?_
      refine V_aload_n (i := 0) F dW_putInQueue_30 rfl rfl ?_
      refine V_geti (ci := 4) (C := R_W) (T := T_W) (N := 6) F dW_putInQueue_31 (by first | rfl | assumption) rfl (j := 4) 4 rfl (by decide) rfl lfW_106 ?_
      rw [upw_k (by decide)]
      refine V_aload_n (i := 0) F dW_putInQueue_34 rfl rfl ?_
      refine V_geti (ci := 4) (C := R_W) (T := T_W) (N := 6) F dW_putInQueue_35 (by first | rfl | assumption) rfl (j := 5) 5 rfl (by decide) rfl lfW_91 ?_
      rw [upw_k (by decide)]
      refine V_iadd F dW_putInQueue_38 (by omega) ?_
      refine V_sipush F dW_putInQueue_39 (by decide) ?_
      refine V_irem F dW_putInQueue_42 (by omega) ?_
      refine V_iload_n (i := 1) F dW_putInQueue_43 rfl rfl ?_
      refine V_iast F dW_putInQueue_44 (by first | rfl | assumption) rfl (by omega) ?_
      refine V_aload_n (i := 0) F dW_putInQueue_45 rfl rfl ?_
      refine V_dup F dW_putInQueue_46 ?_
      refine V_geti (ci := 4) (C := R_W) (T := T_W) (N := 6) F dW_putInQueue_47 (by first | rfl | assumption) rfl (j := 5) 5 rfl (by decide) rfl lfW_91 ?_
      rw [upw_k (by decide), upw_k (by decide)]
      refine V_iconst F dW_putInQueue_50 (by decide) ?_
      refine V_iadd F dW_putInQueue_51 (by omega) ?_
      refine V_puti (ci := 4) (C := R_W) (T := T_W) (N := 6) F dW_putInQueue_52 (by first | rfl | assumption) rfl (j := 5) 5 rfl (by decide) rfl rfl rfl lfW_91 ?_
      exact hR _ _ _ dW_putInQueue_55 (by first | exact Or.inr ⟨by omega, rfl⟩ | exact Or.inl ⟨by omega, by omega, rfl⟩)
theorem ctW_takeFromQueue {G : vG} {l : Launch} {w : RW} (hq : 0 ≤ w 63 4 ∧ w 63 4 < 256 ∧ 0 < w 63 5 ∧ w 63 5 ≤ 256) (he : 0 ≤ w 71 (w 63 4) ∧ w 71 (w 63 4) < 256) : CTi G l yW_takeFromQueue cW_takeFromQueue 2 .int 0 [.inr 63] w (fun z u => z = w 71 (w 63 4) ∧ upw (upw (upw w 63 4 ((w 63 4 + 1) % 256)) 63 5 (w 63 5 - 1)) 72 (w 71 (w 63 4)) 0 = u) := by
  refine CTi.int (by decide) (Nat.le_of_ble_eq_true rfl) ?_
  intro X Q F hX hR
  subst hX
  show V G X 2 Q 0 [some (.inr 63), none] [] w
  refine V_aload_n (i := 0) F dW_takeFromQueue_0 rfl rfl ?_
  refine V_getr (ci := 4) (C := R_W) (T := T_W) (N := 6) F dW_takeFromQueue_1 (by first | rfl | assumption) rfl (j := 2) (by decide) rfl lfW_16 ?_
  refine V_aload_n (i := 0) F dW_takeFromQueue_4 rfl rfl ?_
  refine V_geti (ci := 4) (C := R_W) (T := T_W) (N := 6) F dW_takeFromQueue_5 (by first | rfl | assumption) rfl (j := 4) 4 rfl (by decide) rfl lfW_106 ?_
  first
    | refine V_sald F dW_takeFromQueue_8 (by decide) (by omega) (stt_in _ _) ?_
    | refine V_iald F dW_takeFromQueue_8 (by first | rfl | assumption) rfl (by omega) ?_
  refine V_istore_n (i := 1) F dW_takeFromQueue_9 rfl (by decide) (by simp only [List.set_cons_zero, List.set_cons_succ]; exact rfl) ?_
  refine V_aload_n (i := 0) F dW_takeFromQueue_10 rfl rfl ?_
  refine V_aload_n (i := 0) F dW_takeFromQueue_11 rfl rfl ?_
  refine V_geti (ci := 4) (C := R_W) (T := T_W) (N := 6) F dW_takeFromQueue_12 (by first | rfl | assumption) rfl (j := 4) 4 rfl (by decide) rfl lfW_106 ?_
  refine V_iconst F dW_takeFromQueue_15 (by decide) ?_
  refine V_iadd F dW_takeFromQueue_16 (by omega) ?_
  refine V_sipush F dW_takeFromQueue_17 (by decide) ?_
  refine V_irem F dW_takeFromQueue_20 (by omega) ?_
  refine V_puti (ci := 4) (C := R_W) (T := T_W) (N := 6) F dW_takeFromQueue_21 (by first | rfl | assumption) rfl (j := 4) 4 rfl (by decide) rfl rfl rfl lfW_106 ?_
  refine V_aload_n (i := 0) F dW_takeFromQueue_24 rfl rfl ?_
  refine V_dup F dW_takeFromQueue_25 ?_
  refine V_geti (ci := 4) (C := R_W) (T := T_W) (N := 6) F dW_takeFromQueue_26 (by first | rfl | assumption) rfl (j := 5) 5 rfl (by decide) rfl lfW_91 ?_
  rw [upw_i (by decide)]
  refine V_iconst F dW_takeFromQueue_29 (by decide) ?_
  refine V_isub F dW_takeFromQueue_30 (by omega) ?_
  refine V_puti (ci := 4) (C := R_W) (T := T_W) (N := 6) F dW_takeFromQueue_31 (by first | rfl | assumption) rfl (j := 5) 5 rfl (by decide) rfl rfl rfl lfW_91 ?_
  refine V_aload_n (i := 0) F dW_takeFromQueue_34 rfl rfl ?_
  refine V_getr (ci := 4) (C := R_W) (T := T_W) (N := 6) F dW_takeFromQueue_35 (by first | rfl | assumption) rfl (j := 3) (by decide) rfl lfW_20 ?_
  refine V_iload_n (i := 1) F dW_takeFromQueue_38 rfl rfl ?_
  refine V_iconst F dW_takeFromQueue_39 (by decide) ?_
  refine V_iast F dW_takeFromQueue_40 (by first | rfl | assumption) rfl (by omega) ?_
  refine V_iload_n (i := 1) F dW_takeFromQueue_41 rfl rfl ?_
  exact hR _ _ _ _ dW_takeFromQueue_42 (⟨rfl, rfl⟩)
theorem gco_rng {lit x : Int} : 7 ≤ gco lit x ∧ gco lit x ≤ 1048576 := by
  unfold gco
  by_cases h : lit = 0
  · rw [if_pos h]; split <;> omega
  · rw [if_neg h]
    by_cases h2 : tb lit (x / 512)
    · rw [cif_t h2]; split <;> omega
    · rw [cif_f h2]; omega
noncomputable def ofS (w : RW) (x z : Int) : Int := gco (w 4 (x % 512)) x + z
noncomputable def ofX (w : RW) (x : Int) : Int := fbT w x + 64 * fbE x
/-- what a run with z to go behind it does to the sums -/
def ofR (w : RW) (s x z : Int) (u : RW) : Prop := ((fbT w x = -1 ∨ ¬ ofS w x z < w (65 + s.toNat) (ofX w x)) ∧ w = u) ∨ (¬ fbT w x = -1 ∧ ofS w x z < w (65 + s.toNat) (ofX w x) ∧ putQ (upw w (65 + s.toNat) (ofX w x) (ofS w x z)) (ofX w x) u)
theorem ctW_offer {G : vG} {l : Launch} {w : RW} {s x z : Int} (hx : okR x) (hz : 0 ≤ z ∧ z ≤ 1048576) (hb : w 2 0 ≤ 8 ∧ w 2 1 ≤ 6) (hl : ∀ p, 0 ≤ p → p < 384 → 0 ≤ w 4 p) (hs : 0 ≤ s ∧ s < 6) (hq : 0 ≤ w 63 4 ∧ w 63 4 < 256 ∧ 0 ≤ w 63 5 ∧ w 63 5 ≤ 256) : CTv G l yW_offer cW_offer 9 2 [.inr 63, .inr 2, .inl s, .inl x, .inl z] w (fun u => ofR w s x z u) := by
  refine CTv.intro (by decide) (Nat.le_of_ble_eq_true rfl) ?_
  intro X Q F hX hR
  subst hX
  show V G X 9 Q 0 [some (.inr 63), some (.inr 2), some (.inl s), some (.inl x), some (.inl z), none, none, none, none] [] w
  obtain ⟨x1, x2, x3, x4, x5⟩ := hx
  have hO := otE_rng (by omega) x5
  have a1 := ls65_at hs
  have a2 := ls65_sh hs
  have hg := gco_rng (lit := w 4 (x % 512)) (x := x)
  have hT : fbT w x = -1 ∨ (0 ≤ fbT w x ∧ fbT w x < 48) := acr_rng (by omega) (by omega)
  have hE : 0 ≤ fbE x ∧ fbE x < 4 := by unfold fbE; omega
  have hX : ofX w x = fbT w x + 64 * fbE x := rfl
  refine V_aload_n (i := 1) F dW_offer_0 rfl rfl ?_
  refine V_iload_n (i := 3) F dW_offer_1 rfl rfl ?_
  refine V_callVi F dW_offer_2 lmW_65 miG_cost mvG_cost (ctG_cost (by omega) (by omega) (hl _ (by omega) (by omega))) (by decide) (by first | rfl | assumption) rfl rfl (Nat.le_of_ble_eq_true rfl) (fun r u hr => ?_)
  obtain ⟨rfl, rfl⟩ := hr
  refine V_iload F dW_offer_5 rfl ?_
  refine V_iadd F dW_offer_7 (by omega) ?_
  refine V_istore F dW_offer_8 (by decide) (by simp only [List.set_cons_zero, List.set_cons_succ]; exact rfl) ?_
  refine V_iload_n (i := 3) F dW_offer_10 rfl rfl ?_
  refine V_callSi F dW_offer_11 lmW_99 miS_entryOf msS_entryOf (ctS_entryOf (by omega) (by omega)) (by decide) rfl (Nat.le_of_ble_eq_true rfl) (fun r u hr => ?_)
  obtain ⟨rfl, rfl⟩ := hr
  refine V_istore F dW_offer_14 (by decide) (by simp only [List.set_cons_zero, List.set_cons_succ]; exact rfl) ?_
  refine V_aload_n (i := 1) F dW_offer_16 rfl rfl ?_
  refine V_iload_n (i := 3) F dW_offer_17 rfl rfl ?_
  refine V_callSi F dW_offer_18 lmW_33 miS_tileOf msS_tileOf (ctS_tileOf (by omega)) (by decide) rfl (Nat.le_of_ble_eq_true rfl) (fun r u hr => ?_)
  obtain ⟨rfl, rfl⟩ := hr
  refine V_iload F dW_offer_21 rfl ?_
  refine V_callVi F dW_offer_23 lmW_43 miG_across mvG_across (ctG_across (by omega) hO) (by decide) (by first | rfl | assumption) rfl rfl (Nat.le_of_ble_eq_true rfl) (fun r u hr => ?_)
  obtain ⟨rfl, rfl⟩ := hr
  show V _ _ _ _ _ _ (.inl (fbT w x) :: _) _
  refine V_istore F dW_offer_26 (by decide) (by simp only [List.set_cons_zero, List.set_cons_succ]; exact rfl) ?_
  refine V_iload F dW_offer_28 rfl ?_
  refine V_iconst F dW_offer_30 (by decide) ?_
  refine V_icmp_ne F 35 dW_offer_31 (by decide) (fun h31 => ?_) (fun h31 => ?_)
  · refine V_iload F dW_offer_35 rfl ?_
    refine V_iload F dW_offer_37 rfl ?_
    refine V_callSi F dW_offer_39 lmW_48 miS_opposite msS_opposite (ctS_opposite hO) (by decide) rfl (Nat.le_of_ble_eq_true rfl) (fun r u hr => ?_)
    obtain ⟨rfl, rfl⟩ := hr
    show V _ _ _ _ _ _ (.inl (fbE x) :: _) _
    refine V_callSi F dW_offer_42 lmW_39 miS_exit msS_exit (ctS_exit (by omega)) (by decide) rfl (Nat.le_of_ble_eq_true rfl) (fun r u hr => ?_)
    obtain ⟨rfl, rfl⟩ := hr
    show V _ _ _ _ _ _ (.inl (ofX w x) :: _) _
    refine V_istore F dW_offer_45 (by decide) (by simp only [List.set_cons_zero, List.set_cons_succ]; exact rfl) ?_
    refine V_iload F dW_offer_47 rfl ?_
    refine V_aload_n (i := 0) F dW_offer_49 rfl rfl ?_
    refine V_getr (ci := 4) (C := R_W) (T := T_W) (N := 6) F dW_offer_50 (by first | rfl | assumption) rfl (j := 0) (by decide) rfl lfW_11 ?_
    refine V_iload_n (i := 2) F dW_offer_53 rfl rfl ?_
    first
      | refine V_aald F dW_offer_54 (by first | rfl | assumption) rfl (by omega) (by first | rfl | assumption) ?_
      | refine V_aaldA F dW_offer_54 (by first | rfl | assumption) rfl (by omega) (by first | rfl | assumption) ?_
    refine V_iload F dW_offer_55 rfl ?_
    first
      | refine V_sald F dW_offer_57 (by decide) (by omega) (stt_in _ _) ?_
      | refine V_iald F dW_offer_57 (by first | rfl | assumption) rfl (by omega) ?_
    refine V_icmp_ge F 78 dW_offer_58 (by decide) (fun h58 => ?_) (fun h58 => ?_)
    · exact hR _ _ _ dW_offer_78 (by first | exact Or.inl ⟨Or.inl h31, rfl⟩ | exact Or.inr ⟨h31, by unfold ofS; omega, hr⟩ | exact Or.inl ⟨Or.inr (by unfold ofS; omega), rfl⟩)
    · refine V_aload_n (i := 0) F dW_offer_61 rfl rfl ?_
      refine V_getr (ci := 4) (C := R_W) (T := T_W) (N := 6) F dW_offer_62 (by first | rfl | assumption) rfl (j := 0) (by decide) rfl lfW_11 ?_
      refine V_iload_n (i := 2) F dW_offer_65 rfl rfl ?_
      first
        | refine V_aald F dW_offer_66 (by first | rfl | assumption) rfl (by omega) (by first | rfl | assumption) ?_
        | refine V_aaldA F dW_offer_66 (by first | rfl | assumption) rfl (by omega) (by first | rfl | assumption) ?_
      refine V_iload F dW_offer_67 rfl ?_
      refine V_iload F dW_offer_69 rfl ?_
      refine V_iast F dW_offer_71 (by first | rfl | assumption) rfl (by omega) ?_
      refine V_aload_n (i := 0) F dW_offer_72 rfl rfl ?_
      refine V_iload F dW_offer_73 rfl ?_
      refine V_callVv F dW_offer_75 lmW_102 miW_putInQueue mvW_putInQueue (ctW_putInQueue (w := upw w (65 + s.toNat) (ofX w x) (ofS w x z)) (by omega) (by rw [upw_k (by omega), upw_k (by omega)]; exact hq)) (by decide) (by first | rfl | assumption) rfl rfl (Nat.le_of_ble_eq_true rfl) (fun u hr => ?_)
      skip
      exact hR _ _ _ dW_offer_78 (by first | exact Or.inl ⟨Or.inl h31, rfl⟩ | exact Or.inr ⟨h31, by unfold ofS; omega, hr⟩ | exact Or.inl ⟨Or.inr (by unfold ofS; omega), rfl⟩)
  · exact hR _ _ _ dW_offer_34 (by first | exact Or.inl ⟨Or.inl h31, rfl⟩ | exact Or.inr ⟨h31, by unfold ofS; omega, hr⟩ | exact Or.inl ⟨Or.inr (by unfold ofS; omega), rfl⟩)

theorem dY_isStation_0 : decode cY_isStation 0 = .ok (.iload_n 1, 1) := by decide +kernel
theorem dY_isStation_1 : decode cY_isStation 1 = .ok (.ifCond .lt 15, 3) := by decide +kernel
theorem dY_isStation_4 : decode cY_isStation 4 = .ok (.iload_n 1, 1) := by decide +kernel
theorem dY_isStation_5 : decode cY_isStation 5 = .ok (.aload_n 0, 1) := by decide +kernel
theorem dY_isStation_6 : decode cY_isStation 6 = .ok (.getfield 38, 3) := by decide +kernel
theorem dY_isStation_9 : decode cY_isStation 9 = .ok (.if_icmp .ge 7, 3) := by decide +kernel
theorem dY_isStation_12 : decode cY_isStation 12 = .ok (.iconst 1, 1) := by decide +kernel
theorem dY_isStation_13 : decode cY_isStation 13 = .ok (.goto 4, 3) := by decide +kernel
theorem dY_isStation_16 : decode cY_isStation 16 = .ok (.iconst 0, 1) := by decide +kernel
theorem dY_isStation_17 : decode cY_isStation 17 = .ok (.ireturn, 1) := by decide +kernel
theorem dY_hasTrain_0 : decode cY_hasTrain 0 = .ok (.iload_n 1, 1) := by decide +kernel
theorem dY_hasTrain_1 : decode cY_hasTrain 1 = .ok (.ifCond .lt 15, 3) := by decide +kernel
theorem dY_hasTrain_4 : decode cY_hasTrain 4 = .ok (.iload_n 1, 1) := by decide +kernel
theorem dY_hasTrain_5 : decode cY_hasTrain 5 = .ok (.aload_n 0, 1) := by decide +kernel
theorem dY_hasTrain_6 : decode cY_hasTrain 6 = .ok (.getfield 45, 3) := by decide +kernel
theorem dY_hasTrain_9 : decode cY_hasTrain 9 = .ok (.if_icmp .ge 7, 3) := by decide +kernel
theorem dY_hasTrain_12 : decode cY_hasTrain 12 = .ok (.iconst 1, 1) := by decide +kernel
theorem dY_hasTrain_13 : decode cY_hasTrain 13 = .ok (.goto 4, 3) := by decide +kernel
theorem dY_hasTrain_16 : decode cY_hasTrain 16 = .ok (.iconst 0, 1) := by decide +kernel
theorem dY_hasTrain_17 : decode cY_hasTrain 17 = .ok (.ireturn, 1) := by decide +kernel
theorem dY_stationOn_0 : decode cY_stationOn 0 = .ok (.iconst 0, 1) := by decide +kernel
theorem dY_stationOn_1 : decode cY_stationOn 1 = .ok (.istore_n 2, 1) := by decide +kernel
theorem dY_stationOn_2 : decode cY_stationOn 2 = .ok (.iload_n 2, 1) := by decide +kernel
theorem dY_stationOn_3 : decode cY_stationOn 3 = .ok (.aload_n 0, 1) := by decide +kernel
theorem dY_stationOn_4 : decode cY_stationOn 4 = .ok (.getfield 38, 3) := by decide +kernel
theorem dY_stationOn_7 : decode cY_stationOn 7 = .ok (.if_icmp .ge 24, 3) := by decide +kernel
theorem dY_stationOn_10 : decode cY_stationOn 10 = .ok (.aload_n 0, 1) := by decide +kernel
theorem dY_stationOn_11 : decode cY_stationOn 11 = .ok (.getfield 11, 3) := by decide +kernel
theorem dY_stationOn_14 : decode cY_stationOn 14 = .ok (.iload_n 2, 1) := by decide +kernel
theorem dY_stationOn_15 : decode cY_stationOn 15 = .ok (.aaload, 1) := by decide +kernel
theorem dY_stationOn_16 : decode cY_stationOn 16 = .ok (.getfield 60, 3) := by decide +kernel
theorem dY_stationOn_19 : decode cY_stationOn 19 = .ok (.iload_n 1, 1) := by decide +kernel
theorem dY_stationOn_20 : decode cY_stationOn 20 = .ok (.if_icmp .ne 5, 3) := by decide +kernel
theorem dY_stationOn_23 : decode cY_stationOn 23 = .ok (.iload_n 2, 1) := by decide +kernel
theorem dY_stationOn_24 : decode cY_stationOn 24 = .ok (.ireturn, 1) := by decide +kernel
theorem dY_stationOn_25 : decode cY_stationOn 25 = .ok (.iinc 2 1, 3) := by decide +kernel
theorem dY_stationOn_28 : decode cY_stationOn 28 = .ok (.goto (-26), 3) := by decide +kernel
theorem dY_stationOn_31 : decode cY_stationOn 31 = .ok (.iconst (-1), 1) := by decide +kernel
theorem dY_stationOn_32 : decode cY_stationOn 32 = .ok (.ireturn, 1) := by decide +kernel
theorem dY_hasStation_0 : decode cY_hasStation 0 = .ok (.aload_n 0, 1) := by decide +kernel
theorem dY_hasStation_1 : decode cY_hasStation 1 = .ok (.iload_n 1, 1) := by decide +kernel
theorem dY_hasStation_2 : decode cY_hasStation 2 = .ok (.iconst 0, 1) := by decide +kernel
theorem dY_hasStation_3 : decode cY_hasStation 3 = .ok (.invokestatic 63, 3) := by decide +kernel
theorem dY_hasStation_6 : decode cY_hasStation 6 = .ok (.invokevirtual 68, 3) := by decide +kernel
theorem dY_hasStation_9 : decode cY_hasStation 9 = .ok (.iconst (-1), 1) := by decide +kernel
theorem dY_hasStation_10 : decode cY_hasStation 10 = .ok (.if_icmp .ne 16, 3) := by decide +kernel
theorem dY_hasStation_13 : decode cY_hasStation 13 = .ok (.aload_n 0, 1) := by decide +kernel
theorem dY_hasStation_14 : decode cY_hasStation 14 = .ok (.iload_n 1, 1) := by decide +kernel
theorem dY_hasStation_15 : decode cY_hasStation 15 = .ok (.iconst 1, 1) := by decide +kernel
theorem dY_hasStation_16 : decode cY_hasStation 16 = .ok (.invokestatic 63, 3) := by decide +kernel
theorem dY_hasStation_19 : decode cY_hasStation 19 = .ok (.invokevirtual 68, 3) := by decide +kernel
theorem dY_hasStation_22 : decode cY_hasStation 22 = .ok (.iconst (-1), 1) := by decide +kernel
theorem dY_hasStation_23 : decode cY_hasStation 23 = .ok (.if_icmp .eq 7, 3) := by decide +kernel
theorem dY_hasStation_26 : decode cY_hasStation 26 = .ok (.iconst 1, 1) := by decide +kernel
theorem dY_hasStation_27 : decode cY_hasStation 27 = .ok (.goto 4, 3) := by decide +kernel
theorem dY_hasStation_30 : decode cY_hasStation 30 = .ok (.iconst 0, 1) := by decide +kernel
theorem dY_hasStation_31 : decode cY_hasStation 31 = .ok (.ireturn, 1) := by decide +kernel
theorem dT_open_0 : decode cT_open 0 = .ok (.aload_n 0, 1) := by decide +kernel
theorem dT_open_1 : decode cT_open 1 = .ok (.iload_n 1, 1) := by decide +kernel
theorem dT_open_2 : decode cT_open 2 = .ok (.putfield 9, 3) := by decide +kernel
theorem dT_open_5 : decode cT_open 5 = .ok (.aload_n 0, 1) := by decide +kernel
theorem dT_open_6 : decode cT_open 6 = .ok (.iload_n 2, 1) := by decide +kernel
theorem dT_open_7 : decode cT_open 7 = .ok (.putfield 15, 3) := by decide +kernel
theorem dT_open_10 : decode cT_open 10 = .ok (.aload_n 0, 1) := by decide +kernel
theorem dT_open_11 : decode cT_open 11 = .ok (.iconst 0, 1) := by decide +kernel
theorem dT_open_12 : decode cT_open 12 = .ok (.putfield 18, 3) := by decide +kernel
theorem dT_open_15 : decode cT_open 15 = .ok (.return_, 1) := by decide +kernel
theorem dT_grow_0 : decode cT_grow 0 = .ok (.aload_n 0, 1) := by decide +kernel
theorem dT_grow_1 : decode cT_grow 1 = .ok (.getfield 15, 3) := by decide +kernel
theorem dT_grow_4 : decode cT_grow 4 = .ok (.sipush 500, 3) := by decide +kernel
theorem dT_grow_7 : decode cT_grow 7 = .ok (.aload_n 0, 1) := by decide +kernel
theorem dT_grow_8 : decode cT_grow 8 = .ok (.getfield 18, 3) := by decide +kernel
theorem dT_grow_11 : decode cT_grow 11 = .ok (.isub, 1) := by decide +kernel
theorem dT_grow_12 : decode cT_grow 12 = .ok (.invokestatic 21, 3) := by decide +kernel
theorem dT_grow_15 : decode cT_grow 15 = .ok (.istore_n 1, 1) := by decide +kernel
theorem dT_grow_16 : decode cT_grow 16 = .ok (.aload_n 0, 1) := by decide +kernel
theorem dT_grow_17 : decode cT_grow 17 = .ok (.dup, 1) := by decide +kernel
theorem dT_grow_18 : decode cT_grow 18 = .ok (.getfield 18, 3) := by decide +kernel
theorem dT_grow_21 : decode cT_grow 21 = .ok (.iload_n 1, 1) := by decide +kernel
theorem dT_grow_22 : decode cT_grow 22 = .ok (.iadd, 1) := by decide +kernel
theorem dT_grow_23 : decode cT_grow 23 = .ok (.putfield 18, 3) := by decide +kernel
theorem dT_grow_26 : decode cT_grow 26 = .ok (.iload_n 1, 1) := by decide +kernel
theorem dT_grow_27 : decode cT_grow 27 = .ok (.ireturn, 1) := by decide +kernel
theorem dT_take_0 : decode cT_take 0 = .ok (.aload_n 0, 1) := by decide +kernel
theorem dT_take_1 : decode cT_take 1 = .ok (.getfield 18, 3) := by decide +kernel
theorem dT_take_4 : decode cT_take 4 = .ok (.iload_n 1, 1) := by decide +kernel
theorem dT_take_5 : decode cT_take 5 = .ok (.invokestatic 21, 3) := by decide +kernel
theorem dT_take_8 : decode cT_take 8 = .ok (.istore_n 2, 1) := by decide +kernel
theorem dT_take_9 : decode cT_take 9 = .ok (.aload_n 0, 1) := by decide +kernel
theorem dT_take_10 : decode cT_take 10 = .ok (.dup, 1) := by decide +kernel
theorem dT_take_11 : decode cT_take 11 = .ok (.getfield 18, 3) := by decide +kernel
theorem dT_take_14 : decode cT_take 14 = .ok (.iload_n 2, 1) := by decide +kernel
theorem dT_take_15 : decode cT_take 15 = .ok (.isub, 1) := by decide +kernel
theorem dT_take_16 : decode cT_take 16 = .ok (.putfield 18, 3) := by decide +kernel
theorem dT_take_19 : decode cT_take 19 = .ok (.iload_n 2, 1) := by decide +kernel
theorem dT_take_20 : decode cT_take 20 = .ok (.ireturn, 1) := by decide +kernel
theorem dT_copyFrom_0 : decode cT_copyFrom 0 = .ok (.aload_n 0, 1) := by decide +kernel
theorem dT_copyFrom_1 : decode cT_copyFrom 1 = .ok (.aload_n 1, 1) := by decide +kernel
theorem dT_copyFrom_2 : decode cT_copyFrom 2 = .ok (.getfield 9, 3) := by decide +kernel
theorem dT_copyFrom_5 : decode cT_copyFrom 5 = .ok (.putfield 9, 3) := by decide +kernel
theorem dT_copyFrom_8 : decode cT_copyFrom 8 = .ok (.aload_n 0, 1) := by decide +kernel
theorem dT_copyFrom_9 : decode cT_copyFrom 9 = .ok (.aload_n 1, 1) := by decide +kernel
theorem dT_copyFrom_10 : decode cT_copyFrom 10 = .ok (.getfield 15, 3) := by decide +kernel
theorem dT_copyFrom_13 : decode cT_copyFrom 13 = .ok (.putfield 15, 3) := by decide +kernel
theorem dT_copyFrom_16 : decode cT_copyFrom 16 = .ok (.aload_n 0, 1) := by decide +kernel
theorem dT_copyFrom_17 : decode cT_copyFrom 17 = .ok (.aload_n 1, 1) := by decide +kernel
theorem dT_copyFrom_18 : decode cT_copyFrom 18 = .ok (.getfield 18, 3) := by decide +kernel
theorem dT_copyFrom_21 : decode cT_copyFrom 21 = .ok (.putfield 18, 3) := by decide +kernel
theorem dT_copyFrom_24 : decode cT_copyFrom 24 = .ok (.return_, 1) := by decide +kernel
theorem dN_ahead_0 : decode cN_ahead 0 = .ok (.aload_n 0, 1) := by decide +kernel
theorem dN_ahead_1 : decode cN_ahead 1 = .ok (.getfield 27, 3) := by decide +kernel
theorem dN_ahead_4 : decode cN_ahead 4 = .ok (.aload_n 0, 1) := by decide +kernel
theorem dN_ahead_5 : decode cN_ahead 5 = .ok (.getfield 24, 3) := by decide +kernel
theorem dN_ahead_8 : decode cN_ahead 8 = .ok (.isub, 1) := by decide +kernel
theorem dN_ahead_9 : decode cN_ahead 9 = .ok (.ireturn, 1) := by decide +kernel
theorem dN_last_0 : decode cN_last 0 = .ok (.aload_n 0, 1) := by decide +kernel
theorem dN_last_1 : decode cN_last 1 = .ok (.getfield 9, 3) := by decide +kernel
theorem dN_last_4 : decode cN_last 4 = .ok (.aload_n 0, 1) := by decide +kernel
theorem dN_last_5 : decode cN_last 5 = .ok (.getfield 27, 3) := by decide +kernel
theorem dN_last_8 : decode cN_last 8 = .ok (.iconst 1, 1) := by decide +kernel
theorem dN_last_9 : decode cN_last 9 = .ok (.isub, 1) := by decide +kernel
theorem dN_last_10 : decode cN_last 10 = .ok (.iaload, 1) := by decide +kernel
theorem dN_last_11 : decode cN_last 11 = .ok (.ireturn, 1) := by decide +kernel
theorem dN_goesFor_0 : decode cN_goesFor 0 = .ok (.aload_n 0, 1) := by decide +kernel
theorem dN_goesFor_1 : decode cN_goesFor 1 = .ok (.getfield 38, 3) := by decide +kernel
theorem dN_goesFor_4 : decode cN_goesFor 4 = .ok (.ifCond .le 15, 3) := by decide +kernel
theorem dN_goesFor_7 : decode cN_goesFor 7 = .ok (.aload_n 0, 1) := by decide +kernel
theorem dN_goesFor_8 : decode cN_goesFor 8 = .ok (.getfield 15, 3) := by decide +kernel
theorem dN_goesFor_11 : decode cN_goesFor 11 = .ok (.aload_n 0, 1) := by decide +kernel
theorem dN_goesFor_12 : decode cN_goesFor 12 = .ok (.getfield 41, 3) := by decide +kernel
theorem dN_goesFor_15 : decode cN_goesFor 15 = .ok (.iaload, 1) := by decide +kernel
theorem dN_goesFor_16 : decode cN_goesFor 16 = .ok (.goto 4, 3) := by decide +kernel
theorem dN_goesFor_19 : decode cN_goesFor 19 = .ok (.iconst (-1), 1) := by decide +kernel
theorem dN_goesFor_20 : decode cN_goesFor 20 = .ok (.ireturn, 1) := by decide +kernel
theorem dN_takeNextOrder_0 : decode cN_takeNextOrder 0 = .ok (.aload_n 0, 1) := by decide +kernel
theorem dN_takeNextOrder_1 : decode cN_takeNextOrder 1 = .ok (.aload_n 0, 1) := by decide +kernel
theorem dN_takeNextOrder_2 : decode cN_takeNextOrder 2 = .ok (.getfield 41, 3) := by decide +kernel
theorem dN_takeNextOrder_5 : decode cN_takeNextOrder 5 = .ok (.iconst 1, 1) := by decide +kernel
theorem dN_takeNextOrder_6 : decode cN_takeNextOrder 6 = .ok (.iadd, 1) := by decide +kernel
theorem dN_takeNextOrder_7 : decode cN_takeNextOrder 7 = .ok (.aload_n 0, 1) := by decide +kernel
theorem dN_takeNextOrder_8 : decode cN_takeNextOrder 8 = .ok (.getfield 38, 3) := by decide +kernel
theorem dN_takeNextOrder_11 : decode cN_takeNextOrder 11 = .ok (.if_icmp .ge 12, 3) := by decide +kernel
theorem dN_takeNextOrder_14 : decode cN_takeNextOrder 14 = .ok (.aload_n 0, 1) := by decide +kernel
theorem dN_takeNextOrder_15 : decode cN_takeNextOrder 15 = .ok (.getfield 41, 3) := by decide +kernel
theorem dN_takeNextOrder_18 : decode cN_takeNextOrder 18 = .ok (.iconst 1, 1) := by decide +kernel
theorem dN_takeNextOrder_19 : decode cN_takeNextOrder 19 = .ok (.iadd, 1) := by decide +kernel
theorem dN_takeNextOrder_20 : decode cN_takeNextOrder 20 = .ok (.goto 4, 3) := by decide +kernel
theorem dN_takeNextOrder_23 : decode cN_takeNextOrder 23 = .ok (.iconst 0, 1) := by decide +kernel
theorem dN_takeNextOrder_24 : decode cN_takeNextOrder 24 = .ok (.putfield 41, 3) := by decide +kernel
theorem dN_takeNextOrder_27 : decode cN_takeNextOrder 27 = .ok (.return_, 1) := by decide +kernel
theorem dN_nextSpeed_0 : decode cN_nextSpeed 0 = .ok (.aload_n 0, 1) := by decide +kernel
theorem dN_nextSpeed_1 : decode cN_nextSpeed 1 = .ok (.getfield 29, 3) := by decide +kernel
theorem dN_nextSpeed_4 : decode cN_nextSpeed 4 = .ok (.iconst 1, 1) := by decide +kernel
theorem dN_nextSpeed_5 : decode cN_nextSpeed 5 = .ok (.iadd, 1) := by decide +kernel
theorem dN_nextSpeed_6 : decode cN_nextSpeed 6 = .ok (.iconst 3, 1) := by decide +kernel
theorem dN_nextSpeed_7 : decode cN_nextSpeed 7 = .ok (.invokestatic 54, 3) := by decide +kernel
theorem dN_nextSpeed_10 : decode cN_nextSpeed 10 = .ok (.istore_n 1, 1) := by decide +kernel
theorem dN_nextSpeed_11 : decode cN_nextSpeed 11 = .ok (.iload_n 1, 1) := by decide +kernel
theorem dN_nextSpeed_12 : decode cN_nextSpeed 12 = .ok (.ifCond .le 23, 3) := by decide +kernel
theorem dN_nextSpeed_15 : decode cN_nextSpeed 15 = .ok (.iload_n 1, 1) := by decide +kernel
theorem dN_nextSpeed_16 : decode cN_nextSpeed 16 = .ok (.iload_n 1, 1) := by decide +kernel
theorem dN_nextSpeed_17 : decode cN_nextSpeed 17 = .ok (.iconst 1, 1) := by decide +kernel
theorem dN_nextSpeed_18 : decode cN_nextSpeed 18 = .ok (.iadd, 1) := by decide +kernel
theorem dN_nextSpeed_19 : decode cN_nextSpeed 19 = .ok (.imul, 1) := by decide +kernel
theorem dN_nextSpeed_20 : decode cN_nextSpeed 20 = .ok (.iconst 2, 1) := by decide +kernel
theorem dN_nextSpeed_21 : decode cN_nextSpeed 21 = .ok (.idiv, 1) := by decide +kernel
theorem dN_nextSpeed_22 : decode cN_nextSpeed 22 = .ok (.aload_n 0, 1) := by decide +kernel
theorem dN_nextSpeed_23 : decode cN_nextSpeed 23 = .ok (.invokevirtual 60, 3) := by decide +kernel
theorem dN_nextSpeed_26 : decode cN_nextSpeed 26 = .ok (.if_icmp .le 9, 3) := by decide +kernel
theorem dN_nextSpeed_29 : decode cN_nextSpeed 29 = .ok (.iinc 1 (-1), 3) := by decide +kernel
theorem dN_nextSpeed_32 : decode cN_nextSpeed 32 = .ok (.goto (-21), 3) := by decide +kernel
theorem dN_nextSpeed_35 : decode cN_nextSpeed 35 = .ok (.iload_n 1, 1) := by decide +kernel
theorem dN_nextSpeed_36 : decode cN_nextSpeed 36 = .ok (.ireturn, 1) := by decide +kernel
theorem dN_moveOn_0 : decode cN_moveOn 0 = .ok (.aload_n 0, 1) := by decide +kernel
theorem dN_moveOn_1 : decode cN_moveOn 1 = .ok (.dup, 1) := by decide +kernel
theorem dN_moveOn_2 : decode cN_moveOn 2 = .ok (.getfield 27, 3) := by decide +kernel
theorem dN_moveOn_5 : decode cN_moveOn 5 = .ok (.iconst 1, 1) := by decide +kernel
theorem dN_moveOn_6 : decode cN_moveOn 6 = .ok (.isub, 1) := by decide +kernel
theorem dN_moveOn_7 : decode cN_moveOn 7 = .ok (.putfield 27, 3) := by decide +kernel
theorem dN_moveOn_10 : decode cN_moveOn 10 = .ok (.aload_n 0, 1) := by decide +kernel
theorem dN_moveOn_11 : decode cN_moveOn 11 = .ok (.getfield 9, 3) := by decide +kernel
theorem dN_moveOn_14 : decode cN_moveOn 14 = .ok (.iconst 1, 1) := by decide +kernel
theorem dN_moveOn_15 : decode cN_moveOn 15 = .ok (.aload_n 0, 1) := by decide +kernel
theorem dN_moveOn_16 : decode cN_moveOn 16 = .ok (.getfield 9, 3) := by decide +kernel
theorem dN_moveOn_19 : decode cN_moveOn 19 = .ok (.iconst 0, 1) := by decide +kernel
theorem dN_moveOn_20 : decode cN_moveOn 20 = .ok (.aload_n 0, 1) := by decide +kernel
theorem dN_moveOn_21 : decode cN_moveOn 21 = .ok (.getfield 27, 3) := by decide +kernel
theorem dN_moveOn_24 : decode cN_moveOn 24 = .ok (.invokestatic 48, 3) := by decide +kernel
theorem dN_moveOn_27 : decode cN_moveOn 27 = .ok (.aload_n 0, 1) := by decide +kernel
theorem dN_moveOn_28 : decode cN_moveOn 28 = .ok (.iconst 0, 1) := by decide +kernel
theorem dN_moveOn_29 : decode cN_moveOn 29 = .ok (.putfield 44, 3) := by decide +kernel
theorem dN_moveOn_32 : decode cN_moveOn 32 = .ok (.return_, 1) := by decide +kernel
theorem dW_forget_0 : decode cW_forget 0 = .ok (.aload_n 0, 1) := by decide +kernel
theorem dW_forget_1 : decode cW_forget 1 = .ok (.iconst 0, 1) := by decide +kernel
theorem dW_forget_2 : decode cW_forget 2 = .ok (.putfield 23, 3) := by decide +kernel
theorem dW_forget_5 : decode cW_forget 5 = .ok (.return_, 1) := by decide +kernel
theorem lfY_38 : Cond.fieldLink R_Y 38 "RailYard$Yard" "stationCount" "I" ∈ bigW := bw 220 (by decide +kernel) rfl
theorem lfY_45 : Cond.fieldLink R_Y 45 "RailYard$Yard" "trainCount" "I" ∈ bigW := bw 222 (by decide +kernel) rfl
theorem lfY_11 : Cond.fieldLink R_Y 11 "RailYard$Yard" "stations" "[LRailYard$Station;" ∈ bigW := bw 216 (by decide +kernel) rfl
theorem lfY_60 : Cond.fieldLinkNest R_Y 60 "RailYard$Station" "place" "I" hostN ∈ nestW := nw 157 (by decide +kernel) rfl
theorem lmY_63 : Cond.methodLink R_Y 63 yS_place ∈ bigW := bw 333 (by decide +kernel) rfl
theorem lmY_68 : Cond.methodLink R_Y 68 yY_stationOn ∈ bigW := bw 334 (by decide +kernel) rfl
theorem lfT_9 : Cond.fieldLink R_T 9 "RailYard$Station" "place" "I" ∈ bigW := bw 156 (by decide +kernel) rfl
theorem lfT_15 : Cond.fieldLink R_T 15 "RailYard$Station" "rate" "I" ∈ bigW := bw 159 (by decide +kernel) rfl
theorem lfT_18 : Cond.fieldLink R_T 18 "RailYard$Station" "cargo" "I" ∈ bigW := bw 160 (by decide +kernel) rfl
theorem lmT_21 : Cond.methodLink R_T 21 Lib.Math.min.name ∈ bigW := bw 438 (by decide +kernel) rfl
theorem lw_mmin1 : Cond.static Lib.Math.min.name ∈ bigW := bw 107 (by decide +kernel) rfl
theorem lw_mmin2 : Cond.initialized "java/lang/Math" ∈ bigW := bw 42 (by decide +kernel) rfl
theorem lw_mmin3 : Cond.code Lib.Math.min.name Lib.Math.min.code 2 (some .int) ∈ bigW := bw 108 (by decide +kernel) rfl
theorem lfN_27 : Cond.fieldLink R_N 27 "RailYard$Train" "count" "I" ∈ bigW := bw 176 (by decide +kernel) rfl
theorem lfN_24 : Cond.fieldLink R_N 24 "RailYard$Train" "length" "I" ∈ bigW := bw 178 (by decide +kernel) rfl
theorem lfN_9 : Cond.fieldLink R_N 9 "RailYard$Train" "runs" "[I" ∈ bigW := bw 174 (by decide +kernel) rfl
theorem lfN_38 : Cond.fieldLink R_N 38 "RailYard$Train" "orderCount" "I" ∈ bigW := bw 188 (by decide +kernel) rfl
theorem lfN_15 : Cond.fieldLink R_N 15 "RailYard$Train" "orders" "[I" ∈ bigW := bw 186 (by decide +kernel) rfl
theorem lfN_41 : Cond.fieldLink R_N 41 "RailYard$Train" "turn" "I" ∈ bigW := bw 190 (by decide +kernel) rfl
theorem lmN_60 : Cond.methodLink R_N 60 yN_ahead ∈ bigW := bw 530 (by decide +kernel) rfl
theorem lfN_29 : Cond.fieldLink R_N 29 "RailYard$Train" "speed" "I" ∈ bigW := bw 180 (by decide +kernel) rfl
theorem lmN_54 : Cond.methodLink R_N 54 Lib.Math.min.name ∈ bigW := bw 529 (by decide +kernel) rfl
theorem lmN_48 : Cond.methodLink R_N 48 arraycopyName ∈ bigW := bw 535 (by decide +kernel) rfl
theorem lw_ac1 : Cond.native arraycopyName ∈ bigW := bw 537 (by decide +kernel) rfl
theorem lw_ac2 : Cond.static arraycopyName ∈ bigW := bw 536 (by decide +kernel) rfl
theorem lw_ac3 : Cond.initialized "java/lang/System" ∈ bigW := bw 50 (by decide +kernel) rfl
theorem lfN_44 : Cond.fieldLink R_N 44 "RailYard$Train" "hasLoaded" "Z" ∈ bigW := bw 191 (by decide +kernel) rfl
theorem lfW_23 : Cond.fieldLink R_W 23 "RailYard$Ways" "known" "I" ∈ bigW := bw 68 (by decide +kernel) rfl
theorem miY_stationOn : MI yY_stationOn cY_stationOn 3 (some .int) 1 := ⟨bw 289 (by decide +kernel) rfl, bw 43 (by decide +kernel) rfl, ⟨by decide +kernel, by decide +kernel⟩, by decide +kernel, by decide⟩
theorem mvY_stationOn : MV yY_stationOn := ⟨bw 287 (by decide +kernel) rfl, bw 288 (by decide +kernel) rfl⟩
theorem miN_ahead : MI yN_ahead cN_ahead 1 (some .int) 0 := ⟨bw 417 (by decide +kernel) rfl, bw 47 (by decide +kernel) rfl, ⟨by decide +kernel, by decide +kernel⟩, by decide +kernel, by decide⟩
theorem mvN_ahead : MV yN_ahead := ⟨bw 415 (by decide +kernel) rfl, bw 416 (by decide +kernel) rfl⟩
theorem st7_at {i : Int} (h : 0 ≤ i ∧ i < 6) : [7, 8, 9, 10, 11, 12][i.toNat]? = some (7 + i.toNat) := by
  rcases (show i = 0 ∨ i = 1 ∨ i = 2 ∨ i = 3 ∨ i = 4 ∨ i = 5 by omega) with rfl | rfl | rfl | rfl | rfl | rfl <;> rfl
theorem st7_sh {i : Int} (h : 0 ≤ i ∧ i < 6) : shp[7 + i.toNat]? = some (.inr (.inl (1, [none, none, none]))) := by
  rcases (show i = 0 ∨ i = 1 ∨ i = 2 ∨ i = 3 ∨ i = 4 ∨ i = 5 by omega) with rfl | rfl | rfl | rfl | rfl | rfl <;> rfl
theorem st38_at {i : Int} (h : 0 ≤ i ∧ i < 6) : [38, 39, 40, 41, 42, 43][i.toNat]? = some (38 + i.toNat) := by
  rcases (show i = 0 ∨ i = 1 ∨ i = 2 ∨ i = 3 ∨ i = 4 ∨ i = 5 by omega) with rfl | rfl | rfl | rfl | rfl | rfl <;> rfl
theorem st38_sh {i : Int} (h : 0 ≤ i ∧ i < 6) : shp[38 + i.toNat]? = some (.inr (.inl (1, [none, none, none]))) := by
  rcases (show i = 0 ∨ i = 1 ∨ i = 2 ∨ i = 3 ∨ i = 4 ∨ i = 5 by omega) with rfl | rfl | rfl | rfl | rfl | rfl <;> rfl
theorem tr14_at {i : Int} (h : 0 ≤ i ∧ i < 6) : [14, 15, 16, 17, 18, 19][i.toNat]? = some (14 + i.toNat) := by
  rcases (show i = 0 ∨ i = 1 ∨ i = 2 ∨ i = 3 ∨ i = 4 ∨ i = 5 by omega) with rfl | rfl | rfl | rfl | rfl | rfl <;> rfl
theorem tr14_sh {i : Int} (h : 0 ≤ i ∧ i < 6) : shp[14 + i.toNat]? = some (.inr (.inl (3, [some (20 + i.toNat), none, none, none, none, none, some (26 + i.toNat), none, none, none]))) := by
  rcases (show i = 0 ∨ i = 1 ∨ i = 2 ∨ i = 3 ∨ i = 4 ∨ i = 5 by omega) with rfl | rfl | rfl | rfl | rfl | rfl <;> rfl
theorem tr45_at {i : Int} (h : 0 ≤ i ∧ i < 6) : [45, 46, 47, 48, 49, 50][i.toNat]? = some (45 + i.toNat) := by
  rcases (show i = 0 ∨ i = 1 ∨ i = 2 ∨ i = 3 ∨ i = 4 ∨ i = 5 by omega) with rfl | rfl | rfl | rfl | rfl | rfl <;> rfl
theorem tr45_sh {i : Int} (h : 0 ≤ i ∧ i < 6) : shp[45 + i.toNat]? = some (.inr (.inl (3, [some (51 + i.toNat), none, none, none, none, none, some (57 + i.toNat), none, none, none]))) := by
  rcases (show i = 0 ∨ i = 1 ∨ i = 2 ∨ i = 3 ∨ i = 4 ∨ i = 5 by omega) with rfl | rfl | rfl | rfl | rfl | rfl <;> rfl
theorem ls65_at {i : Int} (h : 0 ≤ i ∧ i < 6) : [65, 66, 67, 68, 69, 70][i.toNat]? = some (65 + i.toNat) := by
  rcases (show i = 0 ∨ i = 1 ∨ i = 2 ∨ i = 3 ∨ i = 4 ∨ i = 5 by omega) with rfl | rfl | rfl | rfl | rfl | rfl <;> rfl
theorem ls65_sh {i : Int} (h : 0 ≤ i ∧ i < 6) : shp[65 + i.toNat]? = some (.inl (0, 256)) := by
  rcases (show i = 0 ∨ i = 1 ∨ i = 2 ∨ i = 3 ∨ i = 4 ∨ i = 5 by omega) with rfl | rfl | rfl | rfl | rfl | rfl <;> rfl
theorem rn20_sh {i : Int} (h : 0 ≤ i ∧ i < 6) : shp[20 + i.toNat]? = some (.inl (0, 96)) := by
  rcases (show i = 0 ∨ i = 1 ∨ i = 2 ∨ i = 3 ∨ i = 4 ∨ i = 5 by omega) with rfl | rfl | rfl | rfl | rfl | rfl <;> rfl
theorem od26_sh {i : Int} (h : 0 ≤ i ∧ i < 6) : shp[26 + i.toNat]? = some (.inl (0, 6)) := by
  rcases (show i = 0 ∨ i = 1 ∨ i = 2 ∨ i = 3 ∨ i = 4 ∨ i = 5 by omega) with rfl | rfl | rfl | rfl | rfl | rfl <;> rfl
theorem rn51_sh {i : Int} (h : 0 ≤ i ∧ i < 6) : shp[51 + i.toNat]? = some (.inl (0, 96)) := by
  rcases (show i = 0 ∨ i = 1 ∨ i = 2 ∨ i = 3 ∨ i = 4 ∨ i = 5 by omega) with rfl | rfl | rfl | rfl | rfl | rfl <;> rfl
theorem od57_sh {i : Int} (h : 0 ≤ i ∧ i < 6) : shp[57 + i.toNat]? = some (.inl (0, 6)) := by
  rcases (show i = 0 ∨ i = 1 ∨ i = 2 ∨ i = 3 ∨ i = 4 ∨ i = 5 by omega) with rfl | rfl | rfl | rfl | rfl | rfl <;> rfl

theorem ctY_isStation {G : vG} {l : Launch} {w : RW} {s : Int} : CTi G l yY_isStation cY_isStation 2 .boolean 0 [.inr 1, .inl s] w (fun r u => r = bz (0 ≤ s ∧ s < w 1 3) ∧ w = u) := by
  refine CTi.bool (by decide) (Nat.le_of_ble_eq_true rfl) ?_
  intro X Q F hX hR
  subst hX
  show V G X 2 Q 0 [some (.inr 1), some (.inl s)] [] w
  refine V_iload_n (i := 1) F dY_isStation_0 rfl rfl ?_
  refine V_if_lt F 16 dY_isStation_1 (by decide) (fun h1 => ?_) (fun h1 => ?_)
  · refine V_iconst F dY_isStation_16 (by decide) ?_
    exact hR _ _ _ _ dY_isStation_17 (by first | exact Or.inl rfl | exact Or.inr rfl | exact bz_01 _ | assumption) (by first | exact ⟨(bz_t (by omega)).symm, rfl⟩ | exact ⟨(bz_f (by omega)).symm, rfl⟩)
  · refine V_iload_n (i := 1) F dY_isStation_4 rfl rfl ?_
    refine V_aload_n (i := 0) F dY_isStation_5 rfl rfl ?_
    refine V_geti (ci := 5) (C := R_Y) (T := T_Y) (N := 8) F dY_isStation_6 (by first | rfl | assumption) rfl (j := 3) 3 rfl (by decide) rfl lfY_38 ?_
    refine V_icmp_ge F 16 dY_isStation_9 (by decide) (fun h9 => ?_) (fun h9 => ?_)
    · refine V_iconst F dY_isStation_16 (by decide) ?_
      exact hR _ _ _ _ dY_isStation_17 (by first | exact Or.inl rfl | exact Or.inr rfl | exact bz_01 _ | assumption) (by first | exact ⟨(bz_t (by omega)).symm, rfl⟩ | exact ⟨(bz_f (by omega)).symm, rfl⟩)
    · refine V_iconst F dY_isStation_12 (by decide) ?_
      refine V_goto F 17 dY_isStation_13 (by decide) ?_
      exact hR _ _ _ _ dY_isStation_17 (by first | exact Or.inl rfl | exact Or.inr rfl | exact bz_01 _ | assumption) (by first | exact ⟨(bz_t (by omega)).symm, rfl⟩ | exact ⟨(bz_f (by omega)).symm, rfl⟩)
theorem ctY_hasTrain {G : vG} {l : Launch} {w : RW} {t : Int} : CTi G l yY_hasTrain cY_hasTrain 2 .boolean 0 [.inr 1, .inl t] w (fun r u => r = bz (0 ≤ t ∧ t < w 1 4) ∧ w = u) := by
  refine CTi.bool (by decide) (Nat.le_of_ble_eq_true rfl) ?_
  intro X Q F hX hR
  subst hX
  show V G X 2 Q 0 [some (.inr 1), some (.inl t)] [] w
  refine V_iload_n (i := 1) F dY_hasTrain_0 rfl rfl ?_
  refine V_if_lt F 16 dY_hasTrain_1 (by decide) (fun h1 => ?_) (fun h1 => ?_)
  · refine V_iconst F dY_hasTrain_16 (by decide) ?_
    exact hR _ _ _ _ dY_hasTrain_17 (by first | exact Or.inl rfl | exact Or.inr rfl | exact bz_01 _ | assumption) (by first | exact ⟨(bz_t (by omega)).symm, rfl⟩ | exact ⟨(bz_f (by omega)).symm, rfl⟩)
  · refine V_iload_n (i := 1) F dY_hasTrain_4 rfl rfl ?_
    refine V_aload_n (i := 0) F dY_hasTrain_5 rfl rfl ?_
    refine V_geti (ci := 5) (C := R_Y) (T := T_Y) (N := 8) F dY_hasTrain_6 (by first | rfl | assumption) rfl (j := 4) 4 rfl (by decide) rfl lfY_45 ?_
    refine V_icmp_ge F 16 dY_hasTrain_9 (by decide) (fun h9 => ?_) (fun h9 => ?_)
    · refine V_iconst F dY_hasTrain_16 (by decide) ?_
      exact hR _ _ _ _ dY_hasTrain_17 (by first | exact Or.inl rfl | exact Or.inr rfl | exact bz_01 _ | assumption) (by first | exact ⟨(bz_t (by omega)).symm, rfl⟩ | exact ⟨(bz_f (by omega)).symm, rfl⟩)
    · refine V_iconst F dY_hasTrain_12 (by decide) ?_
      refine V_goto F 17 dY_hasTrain_13 (by decide) ?_
      exact hR _ _ _ _ dY_hasTrain_17 (by first | exact Or.inl rfl | exact Or.inr rfl | exact bz_01 _ | assumption) (by first | exact ⟨(bz_t (by omega)).symm, rfl⟩ | exact ⟨(bz_f (by omega)).symm, rfl⟩)
/-- a station stands on place p -/
def onS (w : RW) (p : Int) : Prop := ∃ s, 0 ≤ s ∧ s < w 1 3 ∧ w (7 + s.toNat) 0 = p
theorem lpY_stationOn {G : vG} {X : vX} {Q : State → Prop} {w : RW} {p : Int} (hc : w 1 3 ≤ 6) (F : FX G X cY_stationOn yY_stationOn.cls 3 0) (hR : RetI G X cY_stationOn 3 Q (fun r u => (r = -1 ↔ ¬ onS w p) ∧ w = u)) : ∀ (m : Nat) (i : Int), 0 ≤ i → i ≤ 6 → 6 - i < m → (∀ j, 0 ≤ j → j < i → ¬ w (7 + j.toNat) 0 = p) → V G X 3 Q 2 [some (.inr 1), some (.inl p), some (.inl i)] [] w := by
  intro m
  induction m with
  | zero => intro i h1 h2 h3; omega
  | succ m ih =>
    intro i h1 h2 h3 hn
    refine V_iload_n (i := 2) F dY_stationOn_2 rfl rfl ?_
    refine V_aload_n (i := 0) F dY_stationOn_3 rfl rfl ?_
    refine V_geti (ci := 5) (C := R_Y) (T := T_Y) (N := 8) F dY_stationOn_4 (by first | rfl | assumption) rfl (j := 3) 3 rfl (by decide) rfl lfY_38 ?_
    refine V_icmp_ge F 31 dY_stationOn_7 (by decide) (fun h7 => ?_) (fun h7 => ?_)
    · refine V_iconst F dY_stationOn_31 (by decide) ?_
      exact hR _ _ _ _ dY_stationOn_32 (by first | exact ⟨⟨fun q => by omega, fun q => absurd ⟨i, by omega, by omega, by assumption⟩ q⟩, rfl⟩ | exact ⟨⟨fun _ q => by obtain ⟨j, h1, h2, h3⟩ := q; exact hn j h1 (by omega) h3, fun _ => rfl⟩, rfl⟩)
    · have a1 := st7_at (i := i) (by omega)
      have a2 := st7_sh (i := i) (by omega)
      refine V_aload_n (i := 0) F dY_stationOn_10 rfl rfl ?_
      refine V_getr (ci := 5) (C := R_Y) (T := T_Y) (N := 8) F dY_stationOn_11 (by first | rfl | assumption) rfl (j := 1) (by decide) rfl lfY_11 ?_
      refine V_iload_n (i := 2) F dY_stationOn_14 rfl rfl ?_
      first
        | refine V_aald F dY_stationOn_15 (by first | rfl | assumption) rfl (by omega) (by first | rfl | assumption) ?_
        | refine V_aaldA F dY_stationOn_15 (by first | rfl | assumption) rfl (by omega) (by first | rfl | assumption) ?_
      refine V_getiN (ci := 1) (C := R_T) (T := T_T) (N := 3) F dY_stationOn_16 (by first | rfl | assumption) rfl (j := 0) 0 rfl (by decide) rfl lfY_60 ?_
      refine V_iload_n (i := 1) F dY_stationOn_19 rfl rfl ?_
      refine V_icmp_ne F 25 dY_stationOn_20 (by decide) (fun h20 => ?_) (fun h20 => ?_)
      · refine V_iinc F dY_stationOn_25 (by decide) rfl (by omega) (by simp only [List.set_cons_zero, List.set_cons_succ]; exact rfl) ?_
        refine V_goto F 2 dY_stationOn_28 (by decide) ?_
        exact ih (i + 1) (by omega) (by omega) (by omega) (fun j h1 h2 => by
          by_cases hj : j = i
          · rw [hj]; assumption
          · exact hn j h1 (by omega))
      · refine V_iload_n (i := 2) F dY_stationOn_23 rfl rfl ?_
        exact hR _ _ _ _ dY_stationOn_24 (by first | exact ⟨⟨fun q => by omega, fun q => absurd ⟨i, by omega, by omega, by assumption⟩ q⟩, rfl⟩ | exact ⟨⟨fun _ q => by obtain ⟨j, h1, h2, h3⟩ := q; exact hn j h1 (by omega) h3, fun _ => rfl⟩, rfl⟩)
theorem ctY_stationOn {G : vG} {l : Launch} {w : RW} {p : Int} (hc : w 1 3 ≤ 6) : CTi G l yY_stationOn cY_stationOn 3 .int 0 [.inr 1, .inl p] w (fun r u => (r = -1 ↔ ¬ onS w p) ∧ w = u) := by
  refine CTi.int (by decide) (Nat.le_of_ble_eq_true rfl) ?_
  intro X Q F hX hR
  subst hX
  show V G X 3 Q 0 [some (.inr 1), some (.inl p), none] [] w
  refine V_iconst F dY_stationOn_0 (by decide) ?_
  refine V_istore_n (i := 2) F dY_stationOn_1 rfl (by decide) (by simp only [List.set_cons_zero, List.set_cons_succ]; exact rfl) ?_
  exact lpY_stationOn hc F hR 7 0 (by omega) (by omega) (by omega) (fun j h1 h2 => by omega)
theorem ctY_hasStation {G : vG} {l : Launch} {w : RW} {t : Int} (hc : w 1 3 ≤ 6) (ht : 0 ≤ t ∧ t < 64) : CTi G l yY_hasStation cY_hasStation 2 .boolean 1 [.inr 1, .inl t] w (fun r u => r = bz (onS w t ∨ onS w (t + 64)) ∧ w = u) := by
  refine CTi.bool (by decide) (Nat.le_of_ble_eq_true rfl) ?_
  intro X Q F hX hR
  subst hX
  show V G X 2 Q 0 [some (.inr 1), some (.inl t)] [] w
  refine V_aload_n (i := 0) F dY_hasStation_0 rfl rfl ?_
  refine V_iload_n (i := 1) F dY_hasStation_1 rfl rfl ?_
  refine V_iconst F dY_hasStation_2 (by decide) ?_
  refine V_callSi F dY_hasStation_3 lmY_63 miS_place msS_place (ctS_place (by omega)) (by decide) rfl (Nat.le_of_ble_eq_true rfl) (fun r u hr => ?_)
  obtain ⟨rfl, rfl⟩ := hr
  refine V_callVi F dY_hasStation_6 lmY_68 miY_stationOn mvY_stationOn (ctY_stationOn hc) (by decide) (by first | rfl | assumption) rfl rfl (Nat.le_of_ble_eq_true rfl) (fun r u hr => ?_)
  obtain ⟨hr1, rfl⟩ := hr
  rw [show t + 64 * 0 = t by omega] at hr1
  refine V_iconst F dY_hasStation_9 (by decide) ?_
  refine V_icmp_ne F 26 dY_hasStation_10 (by decide) (fun h10 => ?_) (fun h10 => ?_)
  · refine V_iconst F dY_hasStation_26 (by decide) ?_
    refine V_goto F 31 dY_hasStation_27 (by decide) ?_
    exact hR _ _ _ _ dY_hasStation_31 (by first | exact Or.inl rfl | exact Or.inr rfl | exact bz_01 _ | assumption) (by first | exact ⟨(bz_t (Or.inl (Classical.byContradiction (fun q => h10 (hr1.mpr q))))).symm, rfl⟩ | exact ⟨(bz_t (Or.inr (Classical.byContradiction (fun q => h23 (hr2.mpr q))))).symm, rfl⟩ | exact ⟨(bz_f (fun q => q.elim (hr1.mp h10) (hr2.mp h23))).symm, rfl⟩)
  · refine V_aload_n (i := 0) F dY_hasStation_13 rfl rfl ?_
    refine V_iload_n (i := 1) F dY_hasStation_14 rfl rfl ?_
    refine V_iconst F dY_hasStation_15 (by decide) ?_
    refine V_callSi F dY_hasStation_16 lmY_63 miS_place msS_place (ctS_place (by omega)) (by decide) rfl (Nat.le_of_ble_eq_true rfl) (fun r u hr => ?_)
    obtain ⟨rfl, rfl⟩ := hr
    refine V_callVi F dY_hasStation_19 lmY_68 miY_stationOn mvY_stationOn (ctY_stationOn hc) (by decide) (by first | rfl | assumption) rfl rfl (Nat.le_of_ble_eq_true rfl) (fun r u hr => ?_)
    obtain ⟨hr2, rfl⟩ := hr
    rw [show t + 64 * 1 = t + 64 by omega] at hr2
    refine V_iconst F dY_hasStation_22 (by decide) ?_
    refine V_icmp_eq F 30 dY_hasStation_23 (by decide) (fun h23 => ?_) (fun h23 => ?_)
    · refine V_iconst F dY_hasStation_30 (by decide) ?_
      exact hR _ _ _ _ dY_hasStation_31 (by first | exact Or.inl rfl | exact Or.inr rfl | exact bz_01 _ | assumption) (by first | exact ⟨(bz_t (Or.inl (Classical.byContradiction (fun q => h10 (hr1.mpr q))))).symm, rfl⟩ | exact ⟨(bz_t (Or.inr (Classical.byContradiction (fun q => h23 (hr2.mpr q))))).symm, rfl⟩ | exact ⟨(bz_f (fun q => q.elim (hr1.mp h10) (hr2.mp h23))).symm, rfl⟩)
    · refine V_iconst F dY_hasStation_26 (by decide) ?_
      refine V_goto F 31 dY_hasStation_27 (by decide) ?_
      exact hR _ _ _ _ dY_hasStation_31 (by first | exact Or.inl rfl | exact Or.inr rfl | exact bz_01 _ | assumption) (by first | exact ⟨(bz_t (Or.inl (Classical.byContradiction (fun q => h10 (hr1.mpr q))))).symm, rfl⟩ | exact ⟨(bz_t (Or.inr (Classical.byContradiction (fun q => h23 (hr2.mpr q))))).symm, rfl⟩ | exact ⟨(bz_f (fun q => q.elim (hr1.mp h10) (hr2.mp h23))).symm, rfl⟩)
theorem ctT_open {G : vG} {l : Launch} {w : RW} {k : Nat} (hk : shp[k]? = some (.inr (.inl (1, [none, none, none])))) {p c : Int} : CTv G l yT_open cT_open 3 0 [.inr k, .inl p, .inl c] w (fun u => upw (upw (upw w k 0 p) k 1 c) k 2 0 = u) := by
  refine CTv.intro (by decide) (Nat.le_of_ble_eq_true rfl) ?_
  intro X Q F hX hR
  subst hX
  show V G X 3 Q 0 [some (.inr k), some (.inl p), some (.inl c)] [] w
  refine V_aload_n (i := 0) F dT_open_0 rfl rfl ?_
  refine V_iload_n (i := 1) F dT_open_1 rfl rfl ?_
  refine V_puti (ci := 1) (C := R_T) (T := T_T) (N := 3) F dT_open_2 (by first | rfl | assumption) rfl (j := 0) 0 rfl (by decide) rfl rfl rfl lfT_9 ?_
  refine V_aload_n (i := 0) F dT_open_5 rfl rfl ?_
  refine V_iload_n (i := 2) F dT_open_6 rfl rfl ?_
  refine V_puti (ci := 1) (C := R_T) (T := T_T) (N := 3) F dT_open_7 (by first | rfl | assumption) rfl (j := 1) 1 rfl (by decide) rfl rfl rfl lfT_15 ?_
  refine V_aload_n (i := 0) F dT_open_10 rfl rfl ?_
  refine V_iconst F dT_open_11 (by decide) ?_
  refine V_puti (ci := 1) (C := R_T) (T := T_T) (N := 3) F dT_open_12 (by first | rfl | assumption) rfl (j := 2) 2 rfl (by decide) rfl rfl rfl lfT_18 ?_
  exact hR _ _ _ dT_open_15 (rfl)
theorem ctT_grow {G : vG} {l : Launch} {w : RW} {k : Nat} (hk : shp[k]? = some (.inr (.inl (1, [none, none, none])))) (h : 0 ≤ w k 2 ∧ w k 2 ≤ 500 ∧ 0 ≤ w k 1 ∧ w k 1 ≤ 50) : CTi G l yT_grow cT_grow 2 .int 1 [.inr k] w (fun r u => r = (if 500 - w k 2 < w k 1 then 500 - w k 2 else w k 1) ∧ upw w k 2 (w k 2 + (if 500 - w k 2 < w k 1 then 500 - w k 2 else w k 1)) = u) := by
  refine CTi.int (by decide) (Nat.le_of_ble_eq_true rfl) ?_
  intro X Q F hX hR
  subst hX
  show V G X 2 Q 0 [some (.inr k), none] [] w
  refine V_aload_n (i := 0) F dT_grow_0 rfl rfl ?_
  refine V_geti (ci := 1) (C := R_T) (T := T_T) (N := 3) F dT_grow_1 (by first | rfl | assumption) rfl (j := 1) 1 rfl (by decide) rfl lfT_15 ?_
  refine V_sipush F dT_grow_4 (by decide) ?_
  refine V_aload_n (i := 0) F dT_grow_7 rfl rfl ?_
  refine V_geti (ci := 1) (C := R_T) (T := T_T) (N := 3) F dT_grow_8 (by first | rfl | assumption) rfl (j := 2) 2 rfl (by decide) rfl lfT_18 ?_
  refine V_isub F dT_grow_11 (by omega) ?_
  refine V_mmin F dT_grow_12 (by decide) (Nat.le_of_ble_eq_true rfl) lmT_21 lw_mmin1 lw_mmin2 lw_mmin3 ?_
  refine V_istore_n (i := 1) F dT_grow_15 rfl (by decide) (by simp only [List.set_cons_zero, List.set_cons_succ]; exact rfl) ?_
  refine V_aload_n (i := 0) F dT_grow_16 rfl rfl ?_
  refine V_dup F dT_grow_17 ?_
  refine V_geti (ci := 1) (C := R_T) (T := T_T) (N := 3) F dT_grow_18 (by first | rfl | assumption) rfl (j := 2) 2 rfl (by decide) rfl lfT_18 ?_
  refine V_iload_n (i := 1) F dT_grow_21 rfl rfl ?_
  have hsp : 0 ≤ (if 500 - w k 2 < w k 1 then 500 - w k 2 else w k 1) ∧ (if 500 - w k 2 < w k 1 then 500 - w k 2 else w k 1) ≤ 500 := by split <;> omega
  refine V_iadd F dT_grow_22 (by omega) ?_
  refine V_puti (ci := 1) (C := R_T) (T := T_T) (N := 3) F dT_grow_23 (by first | rfl | assumption) rfl (j := 2) 2 rfl (by decide) rfl rfl rfl lfT_18 ?_
  refine V_iload_n (i := 1) F dT_grow_26 rfl rfl ?_
  exact hR _ _ _ _ dT_grow_27 (⟨rfl, rfl⟩)
theorem ctT_take {G : vG} {l : Launch} {w : RW} {k : Nat} (hk : shp[k]? = some (.inr (.inl (1, [none, none, none])))) {z : Int} (h : 0 ≤ w k 2 ∧ w k 2 ≤ 500 ∧ 0 ≤ z ∧ z ≤ 100) : CTi G l yT_take cT_take 3 .int 1 [.inr k, .inl z] w (fun r u => r = (if z < w k 2 then z else w k 2) ∧ upw w k 2 (w k 2 - (if z < w k 2 then z else w k 2)) = u) := by
  refine CTi.int (by decide) (Nat.le_of_ble_eq_true rfl) ?_
  intro X Q F hX hR
  subst hX
  show V G X 3 Q 0 [some (.inr k), some (.inl z), none] [] w
  refine V_aload_n (i := 0) F dT_take_0 rfl rfl ?_
  refine V_geti (ci := 1) (C := R_T) (T := T_T) (N := 3) F dT_take_1 (by first | rfl | assumption) rfl (j := 2) 2 rfl (by decide) rfl lfT_18 ?_
  refine V_iload_n (i := 1) F dT_take_4 rfl rfl ?_
  refine V_mmin F dT_take_5 (by decide) (Nat.le_of_ble_eq_true rfl) lmT_21 lw_mmin1 lw_mmin2 lw_mmin3 ?_
  refine V_istore_n (i := 2) F dT_take_8 rfl (by decide) (by simp only [List.set_cons_zero, List.set_cons_succ]; exact rfl) ?_
  refine V_aload_n (i := 0) F dT_take_9 rfl rfl ?_
  refine V_dup F dT_take_10 ?_
  refine V_geti (ci := 1) (C := R_T) (T := T_T) (N := 3) F dT_take_11 (by first | rfl | assumption) rfl (j := 2) 2 rfl (by decide) rfl lfT_18 ?_
  refine V_iload_n (i := 2) F dT_take_14 rfl rfl ?_
  have hsp : 0 ≤ (if z < w k 2 then z else w k 2) ∧ (if z < w k 2 then z else w k 2) ≤ 500 := by split <;> omega
  refine V_isub F dT_take_15 (by omega) ?_
  refine V_puti (ci := 1) (C := R_T) (T := T_T) (N := 3) F dT_take_16 (by first | rfl | assumption) rfl (j := 2) 2 rfl (by decide) rfl rfl rfl lfT_18 ?_
  refine V_iload_n (i := 2) F dT_take_19 rfl rfl ?_
  exact hR _ _ _ _ dT_take_20 (⟨rfl, rfl⟩)
theorem ctT_copyFrom {G : vG} {l : Launch} {w : RW} {k o : Nat} (hk : shp[k]? = some (.inr (.inl (1, [none, none, none])))) (ho : shp[o]? = some (.inr (.inl (1, [none, none, none])))) (hne : o ≠ k) : CTv G l yT_copyFrom cT_copyFrom 2 0 [.inr k, .inr o] w (fun u => (∀ j, j ≠ k → u j = w j) ∧ u k 0 = w o 0 ∧ u k 1 = w o 1 ∧ u k 2 = w o 2) := by
  refine CTv.intro (by decide) (Nat.le_of_ble_eq_true rfl) ?_
  intro X Q F hX hR
  subst hX
  show V G X 2 Q 0 [some (.inr k), some (.inr o)] [] w
  refine V_aload_n (i := 0) F dT_copyFrom_0 rfl rfl ?_
  refine V_aload_n (i := 1) F dT_copyFrom_1 rfl rfl ?_
  refine V_geti (ci := 1) (C := R_T) (T := T_T) (N := 3) F dT_copyFrom_2 (by first | rfl | assumption) rfl (j := 0) 0 rfl (by decide) rfl lfT_9 ?_
  refine V_puti (ci := 1) (C := R_T) (T := T_T) (N := 3) F dT_copyFrom_5 (by first | rfl | assumption) rfl (j := 0) 0 rfl (by decide) rfl rfl rfl lfT_9 ?_
  refine V_aload_n (i := 0) F dT_copyFrom_8 rfl rfl ?_
  refine V_aload_n (i := 1) F dT_copyFrom_9 rfl rfl ?_
  refine V_geti (ci := 1) (C := R_T) (T := T_T) (N := 3) F dT_copyFrom_10 (by first | rfl | assumption) rfl (j := 1) 1 rfl (by decide) rfl lfT_15 ?_
  refine V_puti (ci := 1) (C := R_T) (T := T_T) (N := 3) F dT_copyFrom_13 (by first | rfl | assumption) rfl (j := 1) 1 rfl (by decide) rfl rfl rfl lfT_15 ?_
  refine V_aload_n (i := 0) F dT_copyFrom_16 rfl rfl ?_
  refine V_aload_n (i := 1) F dT_copyFrom_17 rfl rfl ?_
  refine V_geti (ci := 1) (C := R_T) (T := T_T) (N := 3) F dT_copyFrom_18 (by first | rfl | assumption) rfl (j := 2) 2 rfl (by decide) rfl lfT_18 ?_
  refine V_puti (ci := 1) (C := R_T) (T := T_T) (N := 3) F dT_copyFrom_21 (by first | rfl | assumption) rfl (j := 2) 2 rfl (by decide) rfl rfl rfl lfT_18 ?_
  exact hR _ _ _ dT_copyFrom_24 (⟨fun j hj => by funext i; simp [upw, hj], by simp [upw, hne], by simp [upw, hne], by simp [upw, hne]⟩)
theorem ctN_ahead {G : vG} {l : Launch} {w : RW} {k r o : Nat} (hk : shp[k]? = some (.inr (.inl (3, [some r, none, none, none, none, none, some o, none, none, none])))) (hr : shp[r]? = some (.inl (0, 96))) (ho : shp[o]? = some (.inl (0, 6))) (h : 0 ≤ w k 1 ∧ w k 1 ≤ 96 ∧ 0 ≤ w k 2 ∧ w k 2 ≤ 96) : CTi G l yN_ahead cN_ahead 1 .int 0 [.inr k] w (fun z u => z = w k 1 - w k 2 ∧ w = u) := by
  refine CTi.int (by decide) (Nat.le_of_ble_eq_true rfl) ?_
  intro X Q F hX hR
  subst hX
  show V G X 1 Q 0 [some (.inr k)] [] w
  refine V_aload_n (i := 0) F dN_ahead_0 rfl rfl ?_
  refine V_geti (ci := 3) (C := R_N) (T := T_N) (N := 10) F dN_ahead_1 (by first | rfl | assumption) rfl (j := 1) 1 rfl (by decide) rfl lfN_27 ?_
  refine V_aload_n (i := 0) F dN_ahead_4 rfl rfl ?_
  refine V_geti (ci := 3) (C := R_N) (T := T_N) (N := 10) F dN_ahead_5 (by first | rfl | assumption) rfl (j := 2) 2 rfl (by decide) rfl lfN_24 ?_
  refine V_isub F dN_ahead_8 (by omega) ?_
  exact hR _ _ _ _ dN_ahead_9 (⟨rfl, rfl⟩)
theorem ctN_last {G : vG} {l : Launch} {w : RW} {k r o : Nat} (hk : shp[k]? = some (.inr (.inl (3, [some r, none, none, none, none, none, some o, none, none, none])))) (hr : shp[r]? = some (.inl (0, 96))) (ho : shp[o]? = some (.inl (0, 6))) (h : 1 ≤ w k 1 ∧ w k 1 ≤ 96) : CTi G l yN_last cN_last 1 .int 0 [.inr k] w (fun z u => z = w r (w k 1 - 1) ∧ w = u) := by
  refine CTi.int (by decide) (Nat.le_of_ble_eq_true rfl) ?_
  intro X Q F hX hR
  subst hX
  show V G X 1 Q 0 [some (.inr k)] [] w
  refine V_aload_n (i := 0) F dN_last_0 rfl rfl ?_
  refine V_getr (ci := 3) (C := R_N) (T := T_N) (N := 10) F dN_last_1 (by first | rfl | assumption) rfl (j := 0) (by decide) rfl lfN_9 ?_
  refine V_aload_n (i := 0) F dN_last_4 rfl rfl ?_
  refine V_geti (ci := 3) (C := R_N) (T := T_N) (N := 10) F dN_last_5 (by first | rfl | assumption) rfl (j := 1) 1 rfl (by decide) rfl lfN_27 ?_
  refine V_iconst F dN_last_8 (by decide) ?_
  refine V_isub F dN_last_9 (by omega) ?_
  first
    | refine V_sald F dN_last_10 (by decide) (by omega) (stt_in _ _) ?_
    | refine V_iald F dN_last_10 (by first | rfl | assumption) rfl (by omega) ?_
  exact hR _ _ _ _ dN_last_11 (⟨rfl, rfl⟩)
theorem ctN_goesFor {G : vG} {l : Launch} {w : RW} {k r o : Nat} (hk : shp[k]? = some (.inr (.inl (3, [some r, none, none, none, none, none, some o, none, none, none])))) (hr : shp[r]? = some (.inl (0, 96))) (ho : shp[o]? = some (.inl (0, 6))) (h : 0 < w k 7 → 0 ≤ w k 8 ∧ w k 8 < 6) : CTi G l yN_goesFor cN_goesFor 1 .int 0 [.inr k] w (fun z u => z = (if 0 < w k 7 then w o (w k 8) else -1) ∧ w = u) := by
  refine CTi.int (by decide) (Nat.le_of_ble_eq_true rfl) ?_
  intro X Q F hX hR
  subst hX
  show V G X 1 Q 0 [some (.inr k)] [] w
  refine V_aload_n (i := 0) F dN_goesFor_0 rfl rfl ?_
  refine V_geti (ci := 3) (C := R_N) (T := T_N) (N := 10) F dN_goesFor_1 (by first | rfl | assumption) rfl (j := 7) 7 rfl (by decide) rfl lfN_38 ?_
  refine V_if_le F 19 dN_goesFor_4 (by decide) (fun h4 => ?_) (fun h4 => ?_)
  · refine V_iconst F dN_goesFor_19 (by decide) ?_
    exact hR _ _ _ _ dN_goesFor_20 (by first | exact ⟨(if_pos (by omega)).symm, rfl⟩ | exact ⟨(if_neg (by omega)).symm, rfl⟩)
  · have hh := h (by omega)
    refine V_aload_n (i := 0) F dN_goesFor_7 rfl rfl ?_
    refine V_getr (ci := 3) (C := R_N) (T := T_N) (N := 10) F dN_goesFor_8 (by first | rfl | assumption) rfl (j := 6) (by decide) rfl lfN_15 ?_
    refine V_aload_n (i := 0) F dN_goesFor_11 rfl rfl ?_
    refine V_geti (ci := 3) (C := R_N) (T := T_N) (N := 10) F dN_goesFor_12 (by first | rfl | assumption) rfl (j := 8) 8 rfl (by decide) rfl lfN_41 ?_
    first
      | refine V_sald F dN_goesFor_15 (by decide) (by omega) (stt_in _ _) ?_
      | refine V_iald F dN_goesFor_15 (by first | rfl | assumption) rfl (by omega) ?_
    refine V_goto F 20 dN_goesFor_16 (by decide) ?_
    exact hR _ _ _ _ dN_goesFor_20 (by first | exact ⟨(if_pos (by omega)).symm, rfl⟩ | exact ⟨(if_neg (by omega)).symm, rfl⟩)
theorem ctN_takeNextOrder {G : vG} {l : Launch} {w : RW} {k r o : Nat} (hk : shp[k]? = some (.inr (.inl (3, [some r, none, none, none, none, none, some o, none, none, none])))) (hr : shp[r]? = some (.inl (0, 96))) (ho : shp[o]? = some (.inl (0, 6))) (h : 0 ≤ w k 8 ∧ w k 8 < 6) : CTv G l yN_takeNextOrder cN_takeNextOrder 1 0 [.inr k] w (fun u => upw w k 8 (if w k 8 + 1 < w k 7 then w k 8 + 1 else 0) = u) := by
  refine CTv.intro (by decide) (Nat.le_of_ble_eq_true rfl) ?_
  intro X Q F hX hR
  subst hX
  show V G X 1 Q 0 [some (.inr k)] [] w
  refine V_aload_n (i := 0) F dN_takeNextOrder_0 rfl rfl ?_
  refine V_aload_n (i := 0) F dN_takeNextOrder_1 rfl rfl ?_
  refine V_geti (ci := 3) (C := R_N) (T := T_N) (N := 10) F dN_takeNextOrder_2 (by first | rfl | assumption) rfl (j := 8) 8 rfl (by decide) rfl lfN_41 ?_
  refine V_iconst F dN_takeNextOrder_5 (by decide) ?_
  refine V_iadd F dN_takeNextOrder_6 (by omega) ?_
  refine V_aload_n (i := 0) F dN_takeNextOrder_7 rfl rfl ?_
  refine V_geti (ci := 3) (C := R_N) (T := T_N) (N := 10) F dN_takeNextOrder_8 (by first | rfl | assumption) rfl (j := 7) 7 rfl (by decide) rfl lfN_38 ?_
  refine V_icmp_ge F 23 dN_takeNextOrder_11 (by decide) (fun h11 => ?_) (fun h11 => ?_)
  · refine V_iconst F dN_takeNextOrder_23 (by decide) ?_
    refine V_puti (ci := 3) (C := R_N) (T := T_N) (N := 10) F dN_takeNextOrder_24 (by first | rfl | assumption) rfl (j := 8) 8 rfl (by decide) rfl rfl rfl lfN_41 ?_
    exact hR _ _ _ dN_takeNextOrder_27 (by first | rw [if_pos (by omega)] | rw [if_neg (by omega)])
  · refine V_aload_n (i := 0) F dN_takeNextOrder_14 rfl rfl ?_
    refine V_geti (ci := 3) (C := R_N) (T := T_N) (N := 10) F dN_takeNextOrder_15 (by first | rfl | assumption) rfl (j := 8) 8 rfl (by decide) rfl lfN_41 ?_
    refine V_iconst F dN_takeNextOrder_18 (by decide) ?_
    refine V_iadd F dN_takeNextOrder_19 (by omega) ?_
    refine V_goto F 24 dN_takeNextOrder_20 (by decide) ?_
    refine V_puti (ci := 3) (C := R_N) (T := T_N) (N := 10) F dN_takeNextOrder_24 (by first | rfl | assumption) rfl (j := 8) 8 rfl (by decide) rfl rfl rfl lfN_41 ?_
    exact hR _ _ _ dN_takeNextOrder_27 (by first | rw [if_pos (by omega)] | rw [if_neg (by omega)])
/-- the greatest speed up to v that can still stop on a pieces -/
def nsp (v a : Int) : Int := if 3 ≤ v ∧ 6 ≤ a then 3 else if 2 ≤ v ∧ 3 ≤ a then 2 else if 1 ≤ v ∧ 1 ≤ a then 1 else 0
theorem nsp_dec {v a : Int} (h : 0 < v ∧ v ≤ 3) (h2 : a < v * (v + 1) / 2) : nsp v a = nsp (v + -1) a := by
  unfold nsp
  rcases (show v = 1 ∨ v = 2 ∨ v = 3 by omega) with rfl | rfl | rfl <;> (repeat' split) <;> omega
theorem nsp_ok {v a : Int} (h : 0 < v ∧ v ≤ 3) (h2 : v * (v + 1) / 2 ≤ a) : nsp v a = v := by
  unfold nsp
  rcases (show v = 1 ∨ v = 2 ∨ v = 3 by omega) with rfl | rfl | rfl <;> (repeat' split) <;> omega
theorem nsp_0 {a : Int} : nsp 0 a = 0 := by
  unfold nsp
  (repeat' split) <;> omega
theorem lpN_nextSpeed {G : vG} {X : vX} {Q : State → Prop} {w : RW} {k r o : Nat} (hk : shp[k]? = some (.inr (.inl (3, [some r, none, none, none, none, none, some o, none, none, none])))) (hr : shp[r]? = some (.inl (0, 96))) (ho : shp[o]? = some (.inl (0, 6))) (h : 0 ≤ w k 1 ∧ w k 1 ≤ 96 ∧ 0 ≤ w k 2 ∧ w k 2 ≤ 96) {z : Int} (F : FX G X cN_nextSpeed yN_nextSpeed.cls 2 1) (hR : RetI G X cN_nextSpeed 2 Q (fun q u => q = z ∧ w = u)) : ∀ (m : Nat) (v : Int), 0 ≤ v → v ≤ 3 → v < m → z = nsp v (w k 1 - w k 2) → V G X 2 Q 11 [some (.inr k), some (.inl v)] [] w := by
  intro m
  induction m with
  | zero => intro v h1 h2 h3; omega
  | succ m ih =>
    intro v h1 h2 h3 he
    refine V_iload_n (i := 1) F dN_nextSpeed_11 rfl rfl ?_
    refine V_if_le F 35 dN_nextSpeed_12 (by decide) (fun h12 => ?_) (fun h12 => ?_)
    · refine V_iload_n (i := 1) F dN_nextSpeed_35 rfl rfl ?_
      exact hR _ _ _ _ dN_nextSpeed_36 (by first | exact ⟨by rw [he, show v = 0 by omega, nsp_0], rfl⟩ | exact ⟨by rw [he, nsp_ok (by omega) (by omega)], rfl⟩)
    · refine V_iload_n (i := 1) F dN_nextSpeed_15 rfl rfl ?_
      refine V_iload_n (i := 1) F dN_nextSpeed_16 rfl rfl ?_
      refine V_iconst F dN_nextSpeed_17 (by decide) ?_
      refine V_iadd F dN_nextSpeed_18 (by omega) ?_
      have hq : 0 ≤ v * (v + 1) ∧ v * (v + 1) ≤ 12 := by rcases (show v = 1 ∨ v = 2 ∨ v = 3 by omega) with rfl | rfl | rfl <;> omega
      refine V_imul F dN_nextSpeed_19 (by omega) ?_
      refine V_iconst F dN_nextSpeed_20 (by decide) ?_
      refine V_idiv F dN_nextSpeed_21 (by omega) ?_
      refine V_aload_n (i := 0) F dN_nextSpeed_22 rfl rfl ?_
      refine V_callVi F dN_nextSpeed_23 lmN_60 miN_ahead mvN_ahead (ctN_ahead hk hr ho h) (by decide) (by first | rfl | assumption) rfl rfl (Nat.le_of_ble_eq_true rfl) (fun r u hr => ?_)
      obtain ⟨rfl, rfl⟩ := hr
      refine V_icmp_le F 35 dN_nextSpeed_26 (by decide) (fun h26 => ?_) (fun h26 => ?_)
      · refine V_iload_n (i := 1) F dN_nextSpeed_35 rfl rfl ?_
        exact hR _ _ _ _ dN_nextSpeed_36 (by first | exact ⟨by rw [he, show v = 0 by omega, nsp_0], rfl⟩ | exact ⟨by rw [he, nsp_ok (by omega) (by omega)], rfl⟩)
      · refine V_iinc F dN_nextSpeed_29 (by decide) rfl (by omega) (by simp only [List.set_cons_zero, List.set_cons_succ]; exact rfl) ?_
        refine V_goto F 11 dN_nextSpeed_32 (by decide) ?_
        exact ih (v + -1) (by omega) (by omega) (by omega) (by rw [he]; exact nsp_dec (by omega) (by omega))
theorem ctN_nextSpeed {G : vG} {l : Launch} {w : RW} {k r o : Nat} (hk : shp[k]? = some (.inr (.inl (3, [some r, none, none, none, none, none, some o, none, none, none])))) (hr : shp[r]? = some (.inl (0, 96))) (ho : shp[o]? = some (.inl (0, 6))) (h : 0 ≤ w k 1 ∧ w k 1 ≤ 96 ∧ 0 ≤ w k 2 ∧ w k 2 ≤ 96) (hs : 0 ≤ w k 3 ∧ w k 3 ≤ 3) : CTi G l yN_nextSpeed cN_nextSpeed 2 .int 1 [.inr k] w (fun z u => z = nsp (if 3 < w k 3 + 1 then 3 else w k 3 + 1) (w k 1 - w k 2) ∧ w = u) := by
  refine CTi.int (by decide) (Nat.le_of_ble_eq_true rfl) ?_
  intro X Q F hX hR
  subst hX
  show V G X 2 Q 0 [some (.inr k), none] [] w
  refine V_aload_n (i := 0) F dN_nextSpeed_0 rfl rfl ?_
  refine V_geti (ci := 3) (C := R_N) (T := T_N) (N := 10) F dN_nextSpeed_1 (by first | rfl | assumption) rfl (j := 3) 3 rfl (by decide) rfl lfN_29 ?_
  refine V_iconst F dN_nextSpeed_4 (by decide) ?_
  refine V_iadd F dN_nextSpeed_5 (by omega) ?_
  refine V_iconst F dN_nextSpeed_6 (by decide) ?_
  refine V_mmin F dN_nextSpeed_7 (by decide) (Nat.le_of_ble_eq_true rfl) lmN_54 lw_mmin1 lw_mmin2 lw_mmin3 ?_
  refine V_istore_n (i := 1) F dN_nextSpeed_10 rfl (by decide) (by simp only [List.set_cons_zero, List.set_cons_succ]; exact rfl) ?_
  exact lpN_nextSpeed hk hr ho h F hR 4 _ (by split <;> omega) (by split <;> omega) (by split <;> omega) rfl
theorem ctN_moveOn {G : vG} {l : Launch} {w : RW} {k r o : Nat} (hk : shp[k]? = some (.inr (.inl (3, [some r, none, none, none, none, none, some o, none, none, none])))) (hr : shp[r]? = some (.inl (0, 96))) (ho : shp[o]? = some (.inl (0, 6))) (hkr : r ≠ k) (h : 1 ≤ w k 1 ∧ w k 1 ≤ 96) : CTv G l yN_moveOn cN_moveOn 1 1 [.inr k] w (fun u => upw (cpw (upw w k 1 (w k 1 - 1)) r r 1 0 (w k 1 - 1)) k 9 0 = u) := by
  refine CTv.intro (by decide) (Nat.le_of_ble_eq_true rfl) ?_
  intro X Q F hX hR
  subst hX
  show V G X 1 Q 0 [some (.inr k)] [] w
  refine V_aload_n (i := 0) F dN_moveOn_0 rfl rfl ?_
  refine V_dup F dN_moveOn_1 ?_
  refine V_geti (ci := 3) (C := R_N) (T := T_N) (N := 10) F dN_moveOn_2 (by first | rfl | assumption) rfl (j := 1) 1 rfl (by decide) rfl lfN_27 ?_
  refine V_iconst F dN_moveOn_5 (by decide) ?_
  refine V_isub F dN_moveOn_6 (by omega) ?_
  refine V_puti (ci := 3) (C := R_N) (T := T_N) (N := 10) F dN_moveOn_7 (by first | rfl | assumption) rfl (j := 1) 1 rfl (by decide) rfl rfl rfl lfN_27 ?_
  refine V_aload_n (i := 0) F dN_moveOn_10 rfl rfl ?_
  refine V_getr (ci := 3) (C := R_N) (T := T_N) (N := 10) F dN_moveOn_11 (by first | rfl | assumption) rfl (j := 0) (by decide) rfl lfN_9 ?_
  refine V_iconst F dN_moveOn_14 (by decide) ?_
  refine V_aload_n (i := 0) F dN_moveOn_15 rfl rfl ?_
  refine V_getr (ci := 3) (C := R_N) (T := T_N) (N := 10) F dN_moveOn_16 (by first | rfl | assumption) rfl (j := 0) (by decide) rfl lfN_9 ?_
  refine V_iconst F dN_moveOn_19 (by decide) ?_
  refine V_aload_n (i := 0) F dN_moveOn_20 rfl rfl ?_
  refine V_geti (ci := 3) (C := R_N) (T := T_N) (N := 10) F dN_moveOn_21 (by first | rfl | assumption) rfl (j := 1) 1 rfl (by decide) rfl lfN_27 ?_
  rw [upw_s]
  refine V_acopy F dN_moveOn_24 (by decide) (Nat.le_of_ble_eq_true rfl) (by first | rfl | assumption) (by first | rfl | assumption) rfl (by omega) lmN_48 lw_ac1 lw_ac2 lw_ac3 ?_
  refine V_aload_n (i := 0) F dN_moveOn_27 rfl rfl ?_
  refine V_iconst F dN_moveOn_28 (by decide) ?_
  refine V_putz (ci := 3) (C := R_N) (T := T_N) (N := 10) F dN_moveOn_29 (by first | rfl | assumption) rfl (j := 9) 9 rfl (by decide) rfl rfl rfl (by first | exact Or.inl rfl | exact Or.inr rfl | exact bz_01 _ | assumption) lfN_44 ?_
  exact hR _ _ _ dN_moveOn_32 (rfl)
theorem ctW_forget {G : vG} {l : Launch} {w : RW}  : CTv G l yW_forget cW_forget 1 0 [.inr 63] w (fun u => upw w 63 1 0 = u) := by
  refine CTv.intro (by decide) (Nat.le_of_ble_eq_true rfl) ?_
  intro X Q F hX hR
  subst hX
  show V G X 1 Q 0 [some (.inr 63)] [] w
  refine V_aload_n (i := 0) F dW_forget_0 rfl rfl ?_
  refine V_iconst F dW_forget_1 (by decide) ?_
  refine V_puti (ci := 4) (C := R_W) (T := T_W) (N := 6) F dW_forget_2 (by first | rfl | assumption) rfl (j := 1) 1 rfl (by decide) rfl rfl rfl lfW_23 ?_
  exact hR _ _ _ dW_forget_5 (rfl)

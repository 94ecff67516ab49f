theorem dX0_init_0 : decode cX0_init 0 = .ok (.aload_n 0, 1) := by decide +kernel
theorem dX0_init_1 : decode cX0_init 1 = .ok (.invokespecial 1, 3) := by decide +kernel
theorem dX0_init_4 : decode cX0_init 4 = .ok (.return_, 1) := by decide +kernel
theorem dX0_trim_0 : decode cX0_trim 0 = .ok (.aload_n 0, 1) := by decide +kernel
theorem dX0_trim_1 : decode cX0_trim 1 = .ok (.getfield 7, 3) := by decide +kernel
theorem dX0_trim_4 : decode cX0_trim 4 = .ok (.aload_n 0, 1) := by decide +kernel
theorem dX0_trim_5 : decode cX0_trim 5 = .ok (.getfield 13, 3) := by decide +kernel
theorem dX0_trim_8 : decode cX0_trim 8 = .ok (.isub, 1) := by decide +kernel
theorem dX0_trim_9 : decode cX0_trim 9 = .ok (.ireturn, 1) := by decide +kernel
set_option maxRecDepth 20000 in
theorem ggX0_depth_X3_depthOf : GoodIn wsX0_depth wsX3_depthOf := goodIn_r _ [5, 6, 7, 8, 9] (by decide +kernel) (by decide +kernel)
set_option maxRecDepth 20000 in
theorem gX0_depth_X3_depthOf_n16 : GoodIn wsX0_depth (wsX3_depthOf) := ggX0_depth_X3_depthOf
theorem dX0_depth_0 : decode cX0_depth 0 = .ok (.aload_n 0, 1) := by decide +kernel
theorem dX0_depth_1 : decode cX0_depth 1 = .ok (.getfield 7, 3) := by decide +kernel
theorem dX0_depth_4 : decode cX0_depth 4 = .ok (.aload_n 0, 1) := by decide +kernel
theorem dX0_depth_5 : decode cX0_depth 5 = .ok (.getfield 13, 3) := by decide +kernel
theorem dX0_depth_8 : decode cX0_depth 8 = .ok (.invokestatic 16, 3) := by decide +kernel
theorem dX0_depth_11 : decode cX0_depth 11 = .ok (.ireturn, 1) := by decide +kernel
set_option maxRecDepth 20000 in
theorem ggX0_canSail_X0_depth : GoodIn wsX0_canSail wsX0_depth := goodIn_r _ [5, 6, 7, 8, 9, 10, 11, 12, 13, 14, 21, 22, 23] (by decide +kernel) (by decide +kernel)
set_option maxRecDepth 20000 in
theorem gX0_canSail_X0_depth : GoodIn wsX0_canSail (wsV RX0 22 RX0 yX0_depth wsX0_depth) := goodIn_app (goodIn_of _ (by decide +kernel)) ggX0_canSail_X0_depth
set_option maxRecDepth 20000 in
theorem ggX0_canSail_X0_trim : GoodIn wsX0_canSail wsX0_trim := goodIn_r _ [18, 6, 7, 21, 22, 23] (by decide +kernel) (by decide +kernel)
set_option maxRecDepth 20000 in
theorem gX0_canSail_X0_trim : GoodIn wsX0_canSail (wsV RX0 26 RX0 yX0_trim wsX0_trim) := goodIn_app (goodIn_of _ (by decide +kernel)) ggX0_canSail_X0_trim
set_option maxRecDepth 20000 in
theorem ggX0_canSail_X3_isWithin : GoodIn wsX0_canSail wsX3_isWithin := goodIn_r _ [20] (by decide +kernel) (by decide +kernel)
set_option maxRecDepth 20000 in
theorem gX0_canSail_X3_isWithin_n29 : GoodIn wsX0_canSail (wsX3_isWithin) := ggX0_canSail_X3_isWithin
theorem dX0_canSail_0 : decode cX0_canSail 0 = .ok (.aload_n 0, 1) := by decide +kernel
theorem dX0_canSail_1 : decode cX0_canSail 1 = .ok (.invokevirtual 22, 3) := by decide +kernel
theorem dX0_canSail_4 : decode cX0_canSail 4 = .ok (.bipush 20, 2) := by decide +kernel
theorem dX0_canSail_6 : decode cX0_canSail 6 = .ok (.if_icmp .gt 21, 3) := by decide +kernel
theorem dX0_canSail_9 : decode cX0_canSail 9 = .ok (.aload_n 0, 1) := by decide +kernel
theorem dX0_canSail_10 : decode cX0_canSail 10 = .ok (.invokevirtual 26, 3) := by decide +kernel
theorem dX0_canSail_13 : decode cX0_canSail 13 = .ok (.bipush (-100), 2) := by decide +kernel
theorem dX0_canSail_15 : decode cX0_canSail 15 = .ok (.bipush 100, 2) := by decide +kernel
theorem dX0_canSail_17 : decode cX0_canSail 17 = .ok (.invokestatic 29, 3) := by decide +kernel
theorem dX0_canSail_20 : decode cX0_canSail 20 = .ok (.ifCond .eq 7, 3) := by decide +kernel
theorem dX0_canSail_23 : decode cX0_canSail 23 = .ok (.iconst 1, 1) := by decide +kernel
theorem dX0_canSail_24 : decode cX0_canSail 24 = .ok (.goto 4, 3) := by decide +kernel
theorem dX0_canSail_27 : decode cX0_canSail 27 = .ok (.iconst 0, 1) := by decide +kernel
theorem dX0_canSail_28 : decode cX0_canSail 28 = .ok (.ireturn, 1) := by decide +kernel
theorem dX0_room_0 : decode cX0_room 0 = .ok (.aload_n 0, 1) := by decide +kernel
theorem dX0_room_1 : decode cX0_room 1 = .ok (.getfield 33, 3) := by decide +kernel
theorem dX0_room_4 : decode cX0_room 4 = .ok (.aload_n 0, 1) := by decide +kernel
theorem dX0_room_5 : decode cX0_room 5 = .ok (.getfield 7, 3) := by decide +kernel
theorem dX0_room_8 : decode cX0_room 8 = .ok (.isub, 1) := by decide +kernel
theorem dX0_room_9 : decode cX0_room 9 = .ok (.aload_n 0, 1) := by decide +kernel
theorem dX0_room_10 : decode cX0_room 10 = .ok (.getfield 13, 3) := by decide +kernel
theorem dX0_room_13 : decode cX0_room 13 = .ok (.isub, 1) := by decide +kernel
theorem dX0_room_14 : decode cX0_room 14 = .ok (.ireturn, 1) := by decide +kernel
theorem dX0_worth_0 : decode cX0_worth 0 = .ok (.aload_n 0, 1) := by decide +kernel
theorem dX0_worth_1 : decode cX0_worth 1 = .ok (.getfield 7, 3) := by decide +kernel
theorem dX0_worth_4 : decode cX0_worth 4 = .ok (.aload_n 0, 1) := by decide +kernel
theorem dX0_worth_5 : decode cX0_worth 5 = .ok (.getfield 13, 3) := by decide +kernel
theorem dX0_worth_8 : decode cX0_worth 8 = .ok (.iadd, 1) := by decide +kernel
theorem dX0_worth_9 : decode cX0_worth 9 = .ok (.bipush 10, 2) := by decide +kernel
theorem dX0_worth_11 : decode cX0_worth 11 = .ok (.idiv, 1) := by decide +kernel
theorem dX0_worth_12 : decode cX0_worth 12 = .ok (.iconst 3, 1) := by decide +kernel
theorem dX0_worth_13 : decode cX0_worth 13 = .ok (.imul, 1) := by decide +kernel
theorem dX0_worth_14 : decode cX0_worth 14 = .ok (.ireturn, 1) := by decide +kernel
theorem dX1_init_0 : decode cX1_init 0 = .ok (.aload_n 0, 1) := by decide +kernel
theorem dX1_init_1 : decode cX1_init 1 = .ok (.invokespecial 3, 3) := by decide +kernel
theorem dX1_init_4 : decode cX1_init 4 = .ok (.aload_n 0, 1) := by decide +kernel
theorem dX1_init_5 : decode cX1_init 5 = .ok (.iconst 3, 1) := by decide +kernel
theorem dX1_init_6 : decode cX1_init 6 = .ok (.newarray .int, 2) := by decide +kernel
theorem dX1_init_8 : decode cX1_init 8 = .ok (.putfield 9, 3) := by decide +kernel
theorem dX1_init_11 : decode cX1_init 11 = .ok (.return_, 1) := by decide +kernel
theorem dX1_allSacks_0 : decode cX1_allSacks 0 = .ok (.aload_n 0, 1) := by decide +kernel
theorem dX1_allSacks_1 : decode cX1_allSacks 1 = .ok (.getfield 9, 3) := by decide +kernel
theorem dX1_allSacks_4 : decode cX1_allSacks 4 = .ok (.iconst 0, 1) := by decide +kernel
theorem dX1_allSacks_5 : decode cX1_allSacks 5 = .ok (.iaload, 1) := by decide +kernel
theorem dX1_allSacks_6 : decode cX1_allSacks 6 = .ok (.aload_n 0, 1) := by decide +kernel
theorem dX1_allSacks_7 : decode cX1_allSacks 7 = .ok (.getfield 9, 3) := by decide +kernel
theorem dX1_allSacks_10 : decode cX1_allSacks 10 = .ok (.iconst 1, 1) := by decide +kernel
theorem dX1_allSacks_11 : decode cX1_allSacks 11 = .ok (.iaload, 1) := by decide +kernel
theorem dX1_allSacks_12 : decode cX1_allSacks 12 = .ok (.iadd, 1) := by decide +kernel
theorem dX1_allSacks_13 : decode cX1_allSacks 13 = .ok (.aload_n 0, 1) := by decide +kernel
theorem dX1_allSacks_14 : decode cX1_allSacks 14 = .ok (.getfield 9, 3) := by decide +kernel
theorem dX1_allSacks_17 : decode cX1_allSacks 17 = .ok (.iconst 2, 1) := by decide +kernel
theorem dX1_allSacks_18 : decode cX1_allSacks 18 = .ok (.iaload, 1) := by decide +kernel
theorem dX1_allSacks_19 : decode cX1_allSacks 19 = .ok (.iadd, 1) := by decide +kernel
theorem dX1_allSacks_20 : decode cX1_allSacks 20 = .ok (.ireturn, 1) := by decide +kernel
theorem dX1_become_0 : decode cX1_become 0 = .ok (.aload_n 1, 1) := by decide +kernel
theorem dX1_become_1 : decode cX1_become 1 = .ok (.getfield 9, 3) := by decide +kernel
theorem dX1_become_4 : decode cX1_become 4 = .ok (.iconst 0, 1) := by decide +kernel
theorem dX1_become_5 : decode cX1_become 5 = .ok (.aload_n 0, 1) := by decide +kernel
theorem dX1_become_6 : decode cX1_become 6 = .ok (.getfield 9, 3) := by decide +kernel
theorem dX1_become_9 : decode cX1_become 9 = .ok (.iconst 0, 1) := by decide +kernel
theorem dX1_become_10 : decode cX1_become 10 = .ok (.iconst 3, 1) := by decide +kernel
theorem dX1_become_11 : decode cX1_become 11 = .ok (.invokestatic 15, 3) := by decide +kernel
theorem dX1_become_14 : decode cX1_become 14 = .ok (.aload_n 0, 1) := by decide +kernel
theorem dX1_become_15 : decode cX1_become 15 = .ok (.aload_n 1, 1) := by decide +kernel
theorem dX1_become_16 : decode cX1_become 16 = .ok (.getfield 21, 3) := by decide +kernel
theorem dX1_become_19 : decode cX1_become 19 = .ok (.putfield 21, 3) := by decide +kernel
theorem dX1_become_22 : decode cX1_become 22 = .ok (.return_, 1) := by decide +kernel
theorem dX2_init_0 : decode cX2_init 0 = .ok (.aload_n 0, 1) := by decide +kernel
theorem dX2_init_1 : decode cX2_init 1 = .ok (.invokespecial 3, 3) := by decide +kernel
theorem dX2_init_4 : decode cX2_init 4 = .ok (.aload_n 0, 1) := by decide +kernel
theorem dX2_init_5 : decode cX2_init 5 = .ok (.bipush 8, 2) := by decide +kernel
theorem dX2_init_7 : decode cX2_init 7 = .ok (.newarray .int, 2) := by decide +kernel
theorem dX2_init_9 : decode cX2_init 9 = .ok (.putfield 9, 3) := by decide +kernel
theorem dX2_init_12 : decode cX2_init 12 = .ok (.aload_n 0, 1) := by decide +kernel
theorem dX2_init_13 : decode cX2_init 13 = .ok (.bipush 20, 2) := by decide +kernel
theorem dX2_init_15 : decode cX2_init 15 = .ok (.putfield 15, 3) := by decide +kernel
theorem dX2_init_18 : decode cX2_init 18 = .ok (.aload_n 0, 1) := by decide +kernel
theorem dX2_init_19 : decode cX2_init 19 = .ok (.iconst 0, 1) := by decide +kernel
theorem dX2_init_20 : decode cX2_init 20 = .ok (.putfield 19, 3) := by decide +kernel
theorem dX2_init_23 : decode cX2_init 23 = .ok (.return_, 1) := by decide +kernel
theorem dX2_isFull_0 : decode cX2_isFull 0 = .ok (.aload_n 0, 1) := by decide +kernel
theorem dX2_isFull_1 : decode cX2_isFull 1 = .ok (.getfield 22, 3) := by decide +kernel
theorem dX2_isFull_4 : decode cX2_isFull 4 = .ok (.aload_n 0, 1) := by decide +kernel
theorem dX2_isFull_5 : decode cX2_isFull 5 = .ok (.getfield 25, 3) := by decide +kernel
theorem dX2_isFull_8 : decode cX2_isFull 8 = .ok (.if_icmp .ge 12, 3) := by decide +kernel
theorem dX2_isFull_11 : decode cX2_isFull 11 = .ok (.aload_n 0, 1) := by decide +kernel
theorem dX2_isFull_12 : decode cX2_isFull 12 = .ok (.getfield 22, 3) := by decide +kernel
theorem dX2_isFull_15 : decode cX2_isFull 15 = .ok (.bipush 8, 2) := by decide +kernel
theorem dX2_isFull_17 : decode cX2_isFull 17 = .ok (.if_icmp .lt 7, 3) := by decide +kernel
theorem dX2_isFull_20 : decode cX2_isFull 20 = .ok (.iconst 1, 1) := by decide +kernel
theorem dX2_isFull_21 : decode cX2_isFull 21 = .ok (.goto 4, 3) := by decide +kernel
theorem dX2_isFull_24 : decode cX2_isFull 24 = .ok (.iconst 0, 1) := by decide +kernel
theorem dX2_isFull_25 : decode cX2_isFull 25 = .ok (.ireturn, 1) := by decide +kernel
set_option maxRecDepth 20000 in
theorem ggX2_load_X2_isFull : GoodIn wsX2_load wsX2_isFull := goodIn_r _ [7, 2, 8, 9, 10, 11, 12, 13] (by decide +kernel) (by decide +kernel)
set_option maxRecDepth 20000 in
theorem gX2_load_X2_isFull : GoodIn wsX2_load (wsV RX2 28 RX2 yX2_isFull wsX2_isFull) := goodIn_app (goodIn_of _ (by decide +kernel)) ggX2_load_X2_isFull
theorem dX2_load_0 : decode cX2_load 0 = .ok (.aload_n 0, 1) := by decide +kernel
theorem dX2_load_1 : decode cX2_load 1 = .ok (.invokevirtual 28, 3) := by decide +kernel
theorem dX2_load_4 : decode cX2_load 4 = .ok (.ifCond .ne 23, 3) := by decide +kernel
theorem dX2_load_7 : decode cX2_load 7 = .ok (.aload_n 0, 1) := by decide +kernel
theorem dX2_load_8 : decode cX2_load 8 = .ok (.getfield 9, 3) := by decide +kernel
theorem dX2_load_11 : decode cX2_load 11 = .ok (.aload_n 0, 1) := by decide +kernel
theorem dX2_load_12 : decode cX2_load 12 = .ok (.getfield 22, 3) := by decide +kernel
theorem dX2_load_15 : decode cX2_load 15 = .ok (.iload_n 1, 1) := by decide +kernel
theorem dX2_load_16 : decode cX2_load 16 = .ok (.iastore, 1) := by decide +kernel
theorem dX2_load_17 : decode cX2_load 17 = .ok (.aload_n 0, 1) := by decide +kernel
theorem dX2_load_18 : decode cX2_load 18 = .ok (.dup, 1) := by decide +kernel
theorem dX2_load_19 : decode cX2_load 19 = .ok (.getfield 22, 3) := by decide +kernel
theorem dX2_load_22 : decode cX2_load 22 = .ok (.iconst 1, 1) := by decide +kernel
theorem dX2_load_23 : decode cX2_load 23 = .ok (.iadd, 1) := by decide +kernel
theorem dX2_load_24 : decode cX2_load 24 = .ok (.putfield 22, 3) := by decide +kernel
theorem dX2_load_27 : decode cX2_load 27 = .ok (.return_, 1) := by decide +kernel
theorem dX2_weightAboard_0 : decode cX2_weightAboard 0 = .ok (.iconst 0, 1) := by decide +kernel
theorem dX2_weightAboard_1 : decode cX2_weightAboard 1 = .ok (.istore_n 1, 1) := by decide +kernel
theorem dX2_weightAboard_2 : decode cX2_weightAboard 2 = .ok (.iconst 0, 1) := by decide +kernel
theorem dX2_weightAboard_3 : decode cX2_weightAboard 3 = .ok (.istore_n 2, 1) := by decide +kernel
theorem dX2_weightAboard_4 : decode cX2_weightAboard 4 = .ok (.iload_n 2, 1) := by decide +kernel
theorem dX2_weightAboard_5 : decode cX2_weightAboard 5 = .ok (.aload_n 0, 1) := by decide +kernel
theorem dX2_weightAboard_6 : decode cX2_weightAboard 6 = .ok (.getfield 22, 3) := by decide +kernel
theorem dX2_weightAboard_9 : decode cX2_weightAboard 9 = .ok (.if_icmp .ge 18, 3) := by decide +kernel
theorem dX2_weightAboard_12 : decode cX2_weightAboard 12 = .ok (.iload_n 1, 1) := by decide +kernel
theorem dX2_weightAboard_13 : decode cX2_weightAboard 13 = .ok (.aload_n 0, 1) := by decide +kernel
theorem dX2_weightAboard_14 : decode cX2_weightAboard 14 = .ok (.getfield 9, 3) := by decide +kernel
theorem dX2_weightAboard_17 : decode cX2_weightAboard 17 = .ok (.iload_n 2, 1) := by decide +kernel
theorem dX2_weightAboard_18 : decode cX2_weightAboard 18 = .ok (.iaload, 1) := by decide +kernel
theorem dX2_weightAboard_19 : decode cX2_weightAboard 19 = .ok (.iadd, 1) := by decide +kernel
theorem dX2_weightAboard_20 : decode cX2_weightAboard 20 = .ok (.istore_n 1, 1) := by decide +kernel
theorem dX2_weightAboard_21 : decode cX2_weightAboard 21 = .ok (.iinc 2 1, 3) := by decide +kernel
theorem dX2_weightAboard_24 : decode cX2_weightAboard 24 = .ok (.goto (-20), 3) := by decide +kernel
theorem dX2_weightAboard_27 : decode cX2_weightAboard 27 = .ok (.iload_n 1, 1) := by decide +kernel
theorem dX2_weightAboard_28 : decode cX2_weightAboard 28 = .ok (.ireturn, 1) := by decide +kernel
set_option maxRecDepth 20000 in
theorem ggX2_lastKind_X3_kindOf : GoodIn wsX2_lastKind wsX3_kindOf := goodIn_r _ [5] (by decide +kernel) (by decide +kernel)
set_option maxRecDepth 20000 in
theorem gX2_lastKind_X3_kindOf_n32 : GoodIn wsX2_lastKind (wsX3_kindOf) := ggX2_lastKind_X3_kindOf
theorem dX2_lastKind_0 : decode cX2_lastKind 0 = .ok (.aload_n 0, 1) := by decide +kernel
theorem dX2_lastKind_1 : decode cX2_lastKind 1 = .ok (.getfield 22, 3) := by decide +kernel
theorem dX2_lastKind_4 : decode cX2_lastKind 4 = .ok (.ifCond .le 20, 3) := by decide +kernel
theorem dX2_lastKind_7 : decode cX2_lastKind 7 = .ok (.aload_n 0, 1) := by decide +kernel
theorem dX2_lastKind_8 : decode cX2_lastKind 8 = .ok (.getfield 9, 3) := by decide +kernel
theorem dX2_lastKind_11 : decode cX2_lastKind 11 = .ok (.aload_n 0, 1) := by decide +kernel
theorem dX2_lastKind_12 : decode cX2_lastKind 12 = .ok (.getfield 22, 3) := by decide +kernel
theorem dX2_lastKind_15 : decode cX2_lastKind 15 = .ok (.iconst 1, 1) := by decide +kernel
theorem dX2_lastKind_16 : decode cX2_lastKind 16 = .ok (.isub, 1) := by decide +kernel
theorem dX2_lastKind_17 : decode cX2_lastKind 17 = .ok (.iaload, 1) := by decide +kernel
theorem dX2_lastKind_18 : decode cX2_lastKind 18 = .ok (.invokestatic 32, 3) := by decide +kernel
theorem dX2_lastKind_21 : decode cX2_lastKind 21 = .ok (.goto 4, 3) := by decide +kernel
theorem dX2_lastKind_24 : decode cX2_lastKind 24 = .ok (.iconst (-1), 1) := by decide +kernel
theorem dX2_lastKind_25 : decode cX2_lastKind 25 = .ok (.ireturn, 1) := by decide +kernel
theorem dX2_become_0 : decode cX2_become 0 = .ok (.aload_n 0, 1) := by decide +kernel
theorem dX2_become_1 : decode cX2_become 1 = .ok (.aload_n 1, 1) := by decide +kernel
theorem dX2_become_2 : decode cX2_become 2 = .ok (.getfield 25, 3) := by decide +kernel
theorem dX2_become_5 : decode cX2_become 5 = .ok (.putfield 25, 3) := by decide +kernel
theorem dX2_become_8 : decode cX2_become 8 = .ok (.aload_n 1, 1) := by decide +kernel
theorem dX2_become_9 : decode cX2_become 9 = .ok (.getfield 9, 3) := by decide +kernel
theorem dX2_become_12 : decode cX2_become 12 = .ok (.iconst 0, 1) := by decide +kernel
theorem dX2_become_13 : decode cX2_become 13 = .ok (.aload_n 0, 1) := by decide +kernel
theorem dX2_become_14 : decode cX2_become 14 = .ok (.getfield 9, 3) := by decide +kernel
theorem dX2_become_17 : decode cX2_become 17 = .ok (.iconst 0, 1) := by decide +kernel
theorem dX2_become_18 : decode cX2_become 18 = .ok (.bipush 8, 2) := by decide +kernel
theorem dX2_become_20 : decode cX2_become 20 = .ok (.invokestatic 36, 3) := by decide +kernel
theorem dX2_become_23 : decode cX2_become 23 = .ok (.aload_n 0, 1) := by decide +kernel
theorem dX2_become_24 : decode cX2_become 24 = .ok (.aload_n 1, 1) := by decide +kernel
theorem dX2_become_25 : decode cX2_become 25 = .ok (.getfield 22, 3) := by decide +kernel
theorem dX2_become_28 : decode cX2_become 28 = .ok (.putfield 22, 3) := by decide +kernel
theorem dX2_become_31 : decode cX2_become 31 = .ok (.aload_n 0, 1) := by decide +kernel
theorem dX2_become_32 : decode cX2_become 32 = .ok (.aload_n 1, 1) := by decide +kernel
theorem dX2_become_33 : decode cX2_become 33 = .ok (.getfield 15, 3) := by decide +kernel
theorem dX2_become_36 : decode cX2_become 36 = .ok (.putfield 15, 3) := by decide +kernel
theorem dX2_become_39 : decode cX2_become 39 = .ok (.aload_n 0, 1) := by decide +kernel
theorem dX2_become_40 : decode cX2_become 40 = .ok (.aload_n 1, 1) := by decide +kernel
theorem dX2_become_41 : decode cX2_become 41 = .ok (.getfield 19, 3) := by decide +kernel
theorem dX2_become_44 : decode cX2_become 44 = .ok (.putfield 19, 3) := by decide +kernel
theorem dX2_become_47 : decode cX2_become 47 = .ok (.return_, 1) := by decide +kernel
set_option maxRecDepth 20000 in
theorem ggX2_travel_X2_comeDown : GoodIn wsX2_travel wsX2_comeDown := goodIn_r _ [6, 7, 8, 9, 10, 11, 12, 1, 13, 14, 15, 5, 16, 17, 18, 19, 20, 28, 29, 30, 31, 32, 33, 34] (by decide +kernel) (by decide +kernel)
set_option maxRecDepth 20000 in
theorem gX2_travel_X2_comeDown : GoodIn wsX2_travel (wsV RX2 42 RX2 yX2_comeDown wsX2_comeDown) := goodIn_app (goodIn_of _ (by decide +kernel)) ggX2_travel_X2_comeDown
set_option maxRecDepth 20000 in
theorem ggX2_travel_X2_comeUp : GoodIn wsX2_travel wsX2_comeUp := goodIn_r _ [24, 8, 25, 26, 11, 27, 1, 28, 29, 30, 31, 32] (by decide +kernel) (by decide +kernel)
set_option maxRecDepth 20000 in
theorem gX2_travel_X2_comeUp : GoodIn wsX2_travel (wsV RX2 46 RX2 yX2_comeUp wsX2_comeUp) := goodIn_app (goodIn_of _ (by decide +kernel)) ggX2_travel_X2_comeUp
theorem dX2_travel_0 : decode cX2_travel 0 = .ok (.aload_n 0, 1) := by decide +kernel
theorem dX2_travel_1 : decode cX2_travel 1 = .ok (.getfield 19, 3) := by decide +kernel
theorem dX2_travel_4 : decode cX2_travel 4 = .ok (.iconst 1, 1) := by decide +kernel
theorem dX2_travel_5 : decode cX2_travel 5 = .ok (.if_icmp .ne 12, 3) := by decide +kernel
theorem dX2_travel_8 : decode cX2_travel 8 = .ok (.aload_n 0, 1) := by decide +kernel
theorem dX2_travel_9 : decode cX2_travel 9 = .ok (.iload_n 1, 1) := by decide +kernel
theorem dX2_travel_10 : decode cX2_travel 10 = .ok (.aload_n 2, 1) := by decide +kernel
theorem dX2_travel_11 : decode cX2_travel 11 = .ok (.invokevirtual 42, 3) := by decide +kernel
theorem dX2_travel_14 : decode cX2_travel 14 = .ok (.goto 15, 3) := by decide +kernel
theorem dX2_travel_17 : decode cX2_travel 17 = .ok (.aload_n 0, 1) := by decide +kernel
theorem dX2_travel_18 : decode cX2_travel 18 = .ok (.getfield 19, 3) := by decide +kernel
theorem dX2_travel_21 : decode cX2_travel 21 = .ok (.iconst 2, 1) := by decide +kernel
theorem dX2_travel_22 : decode cX2_travel 22 = .ok (.if_icmp .ne 7, 3) := by decide +kernel
theorem dX2_travel_25 : decode cX2_travel 25 = .ok (.aload_n 0, 1) := by decide +kernel
theorem dX2_travel_26 : decode cX2_travel 26 = .ok (.invokevirtual 46, 3) := by decide +kernel
theorem dX2_travel_29 : decode cX2_travel 29 = .ok (.return_, 1) := by decide +kernel
set_option maxRecDepth 20000 in
theorem ggX2_comeDown_X2_unload : GoodIn wsX2_comeDown wsX2_unload := goodIn_r _ [12, 1, 13, 14, 15, 16, 17, 18, 19, 20, 21, 22, 23] (by decide +kernel) (by decide +kernel)
set_option maxRecDepth 20000 in
theorem gX2_comeDown_X2_unload : GoodIn wsX2_comeDown (wsV RX2 60 RX2 yX2_unload wsX2_unload) := goodIn_app (goodIn_of _ (by decide +kernel)) ggX2_comeDown_X2_unload
theorem dX2_comeDown_0 : decode cX2_comeDown 0 = .ok (.aload_n 0, 1) := by decide +kernel
theorem dX2_comeDown_1 : decode cX2_comeDown 1 = .ok (.getfield 22, 3) := by decide +kernel
theorem dX2_comeDown_4 : decode cX2_comeDown 4 = .ok (.ifCond .le 35, 3) := by decide +kernel
theorem dX2_comeDown_7 : decode cX2_comeDown 7 = .ok (.iload_n 1, 1) := by decide +kernel
theorem dX2_comeDown_8 : decode cX2_comeDown 8 = .ok (.iconst 4, 1) := by decide +kernel
theorem dX2_comeDown_9 : decode cX2_comeDown 9 = .ok (.iconst 2, 1) := by decide +kernel
theorem dX2_comeDown_10 : decode cX2_comeDown 10 = .ok (.aload_n 0, 1) := by decide +kernel
theorem dX2_comeDown_11 : decode cX2_comeDown 11 = .ok (.getfield 22, 3) := by decide +kernel
theorem dX2_comeDown_14 : decode cX2_comeDown 14 = .ok (.imul, 1) := by decide +kernel
theorem dX2_comeDown_15 : decode cX2_comeDown 15 = .ok (.iadd, 1) := by decide +kernel
theorem dX2_comeDown_16 : decode cX2_comeDown 16 = .ok (.if_icmp .le 23, 3) := by decide +kernel
theorem dX2_comeDown_19 : decode cX2_comeDown 19 = .ok (.aload_n 0, 1) := by decide +kernel
theorem dX2_comeDown_20 : decode cX2_comeDown 20 = .ok (.dup, 1) := by decide +kernel
theorem dX2_comeDown_21 : decode cX2_comeDown 21 = .ok (.getfield 22, 3) := by decide +kernel
theorem dX2_comeDown_24 : decode cX2_comeDown 24 = .ok (.iconst 1, 1) := by decide +kernel
theorem dX2_comeDown_25 : decode cX2_comeDown 25 = .ok (.isub, 1) := by decide +kernel
theorem dX2_comeDown_26 : decode cX2_comeDown 26 = .ok (.putfield 22, 3) := by decide +kernel
theorem dX2_comeDown_29 : decode cX2_comeDown 29 = .ok (.aload_n 2, 1) := by decide +kernel
theorem dX2_comeDown_30 : decode cX2_comeDown 30 = .ok (.dup, 1) := by decide +kernel
theorem dX2_comeDown_31 : decode cX2_comeDown 31 = .ok (.getfield 49, 3) := by decide +kernel
theorem dX2_comeDown_34 : decode cX2_comeDown 34 = .ok (.iconst 1, 1) := by decide +kernel
theorem dX2_comeDown_35 : decode cX2_comeDown 35 = .ok (.iadd, 1) := by decide +kernel
theorem dX2_comeDown_36 : decode cX2_comeDown 36 = .ok (.putfield 49, 3) := by decide +kernel
theorem dX2_comeDown_39 : decode cX2_comeDown 39 = .ok (.aload_n 0, 1) := by decide +kernel
theorem dX2_comeDown_40 : decode cX2_comeDown 40 = .ok (.iconst 0, 1) := by decide +kernel
theorem dX2_comeDown_41 : decode cX2_comeDown 41 = .ok (.aload_n 0, 1) := by decide +kernel
theorem dX2_comeDown_42 : decode cX2_comeDown 42 = .ok (.getfield 15, 3) := by decide +kernel
theorem dX2_comeDown_45 : decode cX2_comeDown 45 = .ok (.iconst 4, 1) := by decide +kernel
theorem dX2_comeDown_46 : decode cX2_comeDown 46 = .ok (.aload_n 0, 1) := by decide +kernel
theorem dX2_comeDown_47 : decode cX2_comeDown 47 = .ok (.getfield 22, 3) := by decide +kernel
theorem dX2_comeDown_50 : decode cX2_comeDown 50 = .ok (.iconst 3, 1) := by decide +kernel
theorem dX2_comeDown_51 : decode cX2_comeDown 51 = .ok (.idiv, 1) := by decide +kernel
theorem dX2_comeDown_52 : decode cX2_comeDown 52 = .ok (.isub, 1) := by decide +kernel
theorem dX2_comeDown_53 : decode cX2_comeDown 53 = .ok (.iload_n 1, 1) := by decide +kernel
theorem dX2_comeDown_54 : decode cX2_comeDown 54 = .ok (.iconst 2, 1) := by decide +kernel
theorem dX2_comeDown_55 : decode cX2_comeDown 55 = .ok (.idiv, 1) := by decide +kernel
theorem dX2_comeDown_56 : decode cX2_comeDown 56 = .ok (.iadd, 1) := by decide +kernel
theorem dX2_comeDown_57 : decode cX2_comeDown 57 = .ok (.isub, 1) := by decide +kernel
theorem dX2_comeDown_58 : decode cX2_comeDown 58 = .ok (.invokestatic 54, 3) := by decide +kernel
theorem dX2_comeDown_61 : decode cX2_comeDown 61 = .ok (.putfield 15, 3) := by decide +kernel
theorem dX2_comeDown_64 : decode cX2_comeDown 64 = .ok (.aload_n 0, 1) := by decide +kernel
theorem dX2_comeDown_65 : decode cX2_comeDown 65 = .ok (.getfield 15, 3) := by decide +kernel
theorem dX2_comeDown_68 : decode cX2_comeDown 68 = .ok (.ifCond .ne 13, 3) := by decide +kernel
theorem dX2_comeDown_71 : decode cX2_comeDown 71 = .ok (.aload_n 0, 1) := by decide +kernel
theorem dX2_comeDown_72 : decode cX2_comeDown 72 = .ok (.aload_n 2, 1) := by decide +kernel
theorem dX2_comeDown_73 : decode cX2_comeDown 73 = .ok (.invokevirtual 60, 3) := by decide +kernel
theorem dX2_comeDown_76 : decode cX2_comeDown 76 = .ok (.aload_n 0, 1) := by decide +kernel
theorem dX2_comeDown_77 : decode cX2_comeDown 77 = .ok (.iconst 2, 1) := by decide +kernel
theorem dX2_comeDown_78 : decode cX2_comeDown 78 = .ok (.putfield 19, 3) := by decide +kernel
theorem dX2_comeDown_81 : decode cX2_comeDown 81 = .ok (.return_, 1) := by decide +kernel
set_option maxRecDepth 20000 in
theorem ggX2_unload_X3_kindOf : GoodIn wsX2_unload wsX3_kindOf := goodIn_r _ [5] (by decide +kernel) (by decide +kernel)
set_option maxRecDepth 20000 in
theorem gX2_unload_X3_kindOf_n32 : GoodIn wsX2_unload (wsX3_kindOf) := ggX2_unload_X3_kindOf
theorem dX2_unload_0 : decode cX2_unload 0 = .ok (.iconst 0, 1) := by decide +kernel
theorem dX2_unload_1 : decode cX2_unload 1 = .ok (.istore_n 2, 1) := by decide +kernel
theorem dX2_unload_2 : decode cX2_unload 2 = .ok (.iload_n 2, 1) := by decide +kernel
theorem dX2_unload_3 : decode cX2_unload 3 = .ok (.aload_n 0, 1) := by decide +kernel
theorem dX2_unload_4 : decode cX2_unload 4 = .ok (.getfield 22, 3) := by decide +kernel
theorem dX2_unload_7 : decode cX2_unload 7 = .ok (.if_icmp .ge 27, 3) := by decide +kernel
theorem dX2_unload_10 : decode cX2_unload 10 = .ok (.aload_n 1, 1) := by decide +kernel
theorem dX2_unload_11 : decode cX2_unload 11 = .ok (.getfield 64, 3) := by decide +kernel
theorem dX2_unload_14 : decode cX2_unload 14 = .ok (.aload_n 0, 1) := by decide +kernel
theorem dX2_unload_15 : decode cX2_unload 15 = .ok (.getfield 9, 3) := by decide +kernel
theorem dX2_unload_18 : decode cX2_unload 18 = .ok (.iload_n 2, 1) := by decide +kernel
theorem dX2_unload_19 : decode cX2_unload 19 = .ok (.iaload, 1) := by decide +kernel
theorem dX2_unload_20 : decode cX2_unload 20 = .ok (.invokestatic 32, 3) := by decide +kernel
theorem dX2_unload_23 : decode cX2_unload 23 = .ok (.dup2, 1) := by decide +kernel
theorem dX2_unload_24 : decode cX2_unload 24 = .ok (.iaload, 1) := by decide +kernel
theorem dX2_unload_25 : decode cX2_unload 25 = .ok (.iconst 1, 1) := by decide +kernel
theorem dX2_unload_26 : decode cX2_unload 26 = .ok (.iadd, 1) := by decide +kernel
theorem dX2_unload_27 : decode cX2_unload 27 = .ok (.iastore, 1) := by decide +kernel
theorem dX2_unload_28 : decode cX2_unload 28 = .ok (.iinc 2 1, 3) := by decide +kernel
theorem dX2_unload_31 : decode cX2_unload 31 = .ok (.goto (-29), 3) := by decide +kernel
theorem dX2_unload_34 : decode cX2_unload 34 = .ok (.aload_n 0, 1) := by decide +kernel
theorem dX2_unload_35 : decode cX2_unload 35 = .ok (.iconst 0, 1) := by decide +kernel
theorem dX2_unload_36 : decode cX2_unload 36 = .ok (.putfield 22, 3) := by decide +kernel
theorem dX2_unload_39 : decode cX2_unload 39 = .ok (.return_, 1) := by decide +kernel
theorem dX2_comeUp_0 : decode cX2_comeUp 0 = .ok (.aload_n 0, 1) := by decide +kernel
theorem dX2_comeUp_1 : decode cX2_comeUp 1 = .ok (.bipush 20, 2) := by decide +kernel
theorem dX2_comeUp_3 : decode cX2_comeUp 3 = .ok (.aload_n 0, 1) := by decide +kernel
theorem dX2_comeUp_4 : decode cX2_comeUp 4 = .ok (.getfield 15, 3) := by decide +kernel
theorem dX2_comeUp_7 : decode cX2_comeUp 7 = .ok (.iconst 5, 1) := by decide +kernel
theorem dX2_comeUp_8 : decode cX2_comeUp 8 = .ok (.iadd, 1) := by decide +kernel
theorem dX2_comeUp_9 : decode cX2_comeUp 9 = .ok (.invokestatic 67, 3) := by decide +kernel
theorem dX2_comeUp_12 : decode cX2_comeUp 12 = .ok (.putfield 15, 3) := by decide +kernel
theorem dX2_comeUp_15 : decode cX2_comeUp 15 = .ok (.aload_n 0, 1) := by decide +kernel
theorem dX2_comeUp_16 : decode cX2_comeUp 16 = .ok (.getfield 15, 3) := by decide +kernel
theorem dX2_comeUp_19 : decode cX2_comeUp 19 = .ok (.bipush 20, 2) := by decide +kernel
theorem dX2_comeUp_21 : decode cX2_comeUp 21 = .ok (.if_icmp .ne 8, 3) := by decide +kernel
theorem dX2_comeUp_24 : decode cX2_comeUp 24 = .ok (.aload_n 0, 1) := by decide +kernel
theorem dX2_comeUp_25 : decode cX2_comeUp 25 = .ok (.iconst 0, 1) := by decide +kernel
theorem dX2_comeUp_26 : decode cX2_comeUp 26 = .ok (.putfield 19, 3) := by decide +kernel
theorem dX2_comeUp_29 : decode cX2_comeUp 29 = .ok (.return_, 1) := by decide +kernel
set_option maxRecDepth 20000 in
theorem ggX3_init_X1_init : GoodIn wsX3_init wsX1_init := goodIn_r _ [23, 24, 2, 3, 4, 25, 47, 48] (by decide +kernel) (by decide +kernel)
set_option maxRecDepth 20000 in
theorem gX3_init_X1_init_n33 : GoodIn wsX3_init (wsX1_init) := ggX3_init_X1_init
set_option maxRecDepth 20000 in
theorem ggX3_init_X2_init : GoodIn wsX3_init wsX2_init := goodIn_r _ [27, 28, 2, 3, 4, 29, 30, 31, 49, 50, 51, 52, 53] (by decide +kernel) (by decide +kernel)
set_option maxRecDepth 20000 in
theorem gX3_init_X2_init_n38 : GoodIn wsX3_init (wsX2_init) := ggX3_init_X2_init
set_option maxRecDepth 20000 in
theorem ggX3_init_X0_init : GoodIn wsX3_init wsX0_init := goodIn_r _ [33, 34, 2, 3] (by decide +kernel) (by decide +kernel)
set_option maxRecDepth 20000 in
theorem gX3_init_X0_init_n46 : GoodIn wsX3_init (wsX0_init) := ggX3_init_X0_init
theorem dX3_init_0 : decode cX3_init 0 = .ok (.aload_n 0, 1) := by decide +kernel
theorem dX3_init_1 : decode cX3_init 1 = .ok (.invokespecial 1, 3) := by decide +kernel
theorem dX3_init_4 : decode cX3_init 4 = .ok (.aload_n 0, 1) := by decide +kernel
theorem dX3_init_5 : decode cX3_init 5 = .ok (.iconst 5, 1) := by decide +kernel
theorem dX3_init_6 : decode cX3_init 6 = .ok (.newarray .int, 2) := by decide +kernel
theorem dX3_init_8 : decode cX3_init 8 = .ok (.putfield 9, 3) := by decide +kernel
theorem dX3_init_11 : decode cX3_init 11 = .ok (.aload_n 0, 1) := by decide +kernel
theorem dX3_init_12 : decode cX3_init 12 = .ok (.iconst 5, 1) := by decide +kernel
theorem dX3_init_13 : decode cX3_init 13 = .ok (.newarray .int, 2) := by decide +kernel
theorem dX3_init_15 : decode cX3_init 15 = .ok (.putfield 13, 3) := by decide +kernel
theorem dX3_init_18 : decode cX3_init 18 = .ok (.aload_n 0, 1) := by decide +kernel
theorem dX3_init_19 : decode cX3_init 19 = .ok (.bipush 8, 2) := by decide +kernel
theorem dX3_init_21 : decode cX3_init 21 = .ok (.newarray .int, 2) := by decide +kernel
theorem dX3_init_23 : decode cX3_init 23 = .ok (.putfield 16, 3) := by decide +kernel
theorem dX3_init_26 : decode cX3_init 26 = .ok (.aload_n 0, 1) := by decide +kernel
theorem dX3_init_27 : decode cX3_init 27 = .ok (.bipush 6, 2) := by decide +kernel
theorem dX3_init_29 : decode cX3_init 29 = .ok (.anewarray 19, 3) := by decide +kernel
theorem dX3_init_32 : decode cX3_init 32 = .ok (.putfield 21, 3) := by decide +kernel
theorem dX3_init_35 : decode cX3_init 35 = .ok (.aload_n 0, 1) := by decide +kernel
theorem dX3_init_36 : decode cX3_init 36 = .ok (.iconst 4, 1) := by decide +kernel
theorem dX3_init_37 : decode cX3_init 37 = .ok (.anewarray 25, 3) := by decide +kernel
theorem dX3_init_40 : decode cX3_init 40 = .ok (.putfield 27, 3) := by decide +kernel
theorem dX3_init_43 : decode cX3_init 43 = .ok (.aload_n 0, 1) := by decide +kernel
theorem dX3_init_44 : decode cX3_init 44 = .ok (.new 31, 3) := by decide +kernel
theorem dX3_init_47 : decode cX3_init 47 = .ok (.dup, 1) := by decide +kernel
theorem dX3_init_48 : decode cX3_init 48 = .ok (.invokespecial 33, 3) := by decide +kernel
theorem dX3_init_51 : decode cX3_init 51 = .ok (.putfield 34, 3) := by decide +kernel
theorem dX3_init_54 : decode cX3_init 54 = .ok (.aload_n 0, 1) := by decide +kernel
theorem dX3_init_55 : decode cX3_init 55 = .ok (.new 19, 3) := by decide +kernel
theorem dX3_init_58 : decode cX3_init 58 = .ok (.dup, 1) := by decide +kernel
theorem dX3_init_59 : decode cX3_init 59 = .ok (.invokespecial 38, 3) := by decide +kernel
theorem dX3_init_62 : decode cX3_init 62 = .ok (.putfield 39, 3) := by decide +kernel
theorem dX3_init_65 : decode cX3_init 65 = .ok (.aload_n 0, 1) := by decide +kernel
theorem dX3_init_66 : decode cX3_init 66 = .ok (.new 31, 3) := by decide +kernel
theorem dX3_init_69 : decode cX3_init 69 = .ok (.dup, 1) := by decide +kernel
theorem dX3_init_70 : decode cX3_init 70 = .ok (.invokespecial 33, 3) := by decide +kernel
theorem dX3_init_73 : decode cX3_init 73 = .ok (.putfield 43, 3) := by decide +kernel
theorem dX3_init_76 : decode cX3_init 76 = .ok (.iconst 0, 1) := by decide +kernel
theorem dX3_init_77 : decode cX3_init 77 = .ok (.istore_n 1, 1) := by decide +kernel
theorem dX3_init_78 : decode cX3_init 78 = .ok (.iload_n 1, 1) := by decide +kernel
theorem dX3_init_79 : decode cX3_init 79 = .ok (.iconst 5, 1) := by decide +kernel
theorem dX3_init_80 : decode cX3_init 80 = .ok (.if_icmp .ge 24, 3) := by decide +kernel
theorem dX3_init_83 : decode cX3_init 83 = .ok (.aload_n 0, 1) := by decide +kernel
theorem dX3_init_84 : decode cX3_init 84 = .ok (.getfield 9, 3) := by decide +kernel
theorem dX3_init_87 : decode cX3_init 87 = .ok (.iload_n 1, 1) := by decide +kernel
theorem dX3_init_88 : decode cX3_init 88 = .ok (.bipush 100, 2) := by decide +kernel
theorem dX3_init_90 : decode cX3_init 90 = .ok (.iastore, 1) := by decide +kernel
theorem dX3_init_91 : decode cX3_init 91 = .ok (.aload_n 0, 1) := by decide +kernel
theorem dX3_init_92 : decode cX3_init 92 = .ok (.getfield 13, 3) := by decide +kernel
theorem dX3_init_95 : decode cX3_init 95 = .ok (.iload_n 1, 1) := by decide +kernel
theorem dX3_init_96 : decode cX3_init 96 = .ok (.iconst 5, 1) := by decide +kernel
theorem dX3_init_97 : decode cX3_init 97 = .ok (.iastore, 1) := by decide +kernel
theorem dX3_init_98 : decode cX3_init 98 = .ok (.iinc 1 1, 3) := by decide +kernel
theorem dX3_init_101 : decode cX3_init 101 = .ok (.goto (-23), 3) := by decide +kernel
theorem dX3_init_104 : decode cX3_init 104 = .ok (.iconst 0, 1) := by decide +kernel
theorem dX3_init_105 : decode cX3_init 105 = .ok (.istore_n 1, 1) := by decide +kernel
theorem dX3_init_106 : decode cX3_init 106 = .ok (.iload_n 1, 1) := by decide +kernel
theorem dX3_init_107 : decode cX3_init 107 = .ok (.bipush 6, 2) := by decide +kernel
theorem dX3_init_109 : decode cX3_init 109 = .ok (.if_icmp .ge 22, 3) := by decide +kernel
theorem dX3_init_112 : decode cX3_init 112 = .ok (.aload_n 0, 1) := by decide +kernel
theorem dX3_init_113 : decode cX3_init 113 = .ok (.getfield 21, 3) := by decide +kernel
theorem dX3_init_116 : decode cX3_init 116 = .ok (.iload_n 1, 1) := by decide +kernel
theorem dX3_init_117 : decode cX3_init 117 = .ok (.new 19, 3) := by decide +kernel
theorem dX3_init_120 : decode cX3_init 120 = .ok (.dup, 1) := by decide +kernel
theorem dX3_init_121 : decode cX3_init 121 = .ok (.invokespecial 38, 3) := by decide +kernel
theorem dX3_init_124 : decode cX3_init 124 = .ok (.aastore, 1) := by decide +kernel
theorem dX3_init_125 : decode cX3_init 125 = .ok (.iinc 1 1, 3) := by decide +kernel
theorem dX3_init_128 : decode cX3_init 128 = .ok (.goto (-22), 3) := by decide +kernel
theorem dX3_init_131 : decode cX3_init 131 = .ok (.iconst 0, 1) := by decide +kernel
theorem dX3_init_132 : decode cX3_init 132 = .ok (.istore_n 1, 1) := by decide +kernel
theorem dX3_init_133 : decode cX3_init 133 = .ok (.iload_n 1, 1) := by decide +kernel
theorem dX3_init_134 : decode cX3_init 134 = .ok (.iconst 4, 1) := by decide +kernel
theorem dX3_init_135 : decode cX3_init 135 = .ok (.if_icmp .ge 22, 3) := by decide +kernel
theorem dX3_init_138 : decode cX3_init 138 = .ok (.aload_n 0, 1) := by decide +kernel
theorem dX3_init_139 : decode cX3_init 139 = .ok (.getfield 27, 3) := by decide +kernel
theorem dX3_init_142 : decode cX3_init 142 = .ok (.iload_n 1, 1) := by decide +kernel
theorem dX3_init_143 : decode cX3_init 143 = .ok (.new 25, 3) := by decide +kernel
theorem dX3_init_146 : decode cX3_init 146 = .ok (.dup, 1) := by decide +kernel
theorem dX3_init_147 : decode cX3_init 147 = .ok (.invokespecial 46, 3) := by decide +kernel
theorem dX3_init_150 : decode cX3_init 150 = .ok (.aastore, 1) := by decide +kernel
theorem dX3_init_151 : decode cX3_init 151 = .ok (.iinc 1 1, 3) := by decide +kernel
theorem dX3_init_154 : decode cX3_init 154 = .ok (.goto (-21), 3) := by decide +kernel
theorem dX3_init_157 : decode cX3_init 157 = .ok (.return_, 1) := by decide +kernel
set_option maxRecDepth 20000 in
theorem ggX3_set_X3_isLayer : GoodIn wsX3_set wsX3_isLayer := goodIn_r _ [10, 11, 12, 9, 13] (by decide +kernel) (by decide +kernel)
set_option maxRecDepth 20000 in
theorem gX3_set_X3_isLayer : GoodIn wsX3_set (va_wsS RX3 47 yX3_isLayer wsX3_isLayer) := goodIn_app (goodIn_of _ (by decide +kernel)) ggX3_set_X3_isLayer
set_option maxRecDepth 20000 in
theorem ggX3_set_X3_isWithin : GoodIn wsX3_set wsX3_isWithin := goodIn_r _ [13] (by decide +kernel) (by decide +kernel)
set_option maxRecDepth 20000 in
theorem gX3_set_X3_isWithin : GoodIn wsX3_set (va_wsS RX3 58 yX3_isWithin wsX3_isWithin) := goodIn_app (goodIn_of _ (by decide +kernel)) ggX3_set_X3_isWithin
theorem dX3_set_0 : decode cX3_set 0 = .ok (.iload_n 1, 1) := by decide +kernel
theorem dX3_set_1 : decode cX3_set 1 = .ok (.invokestatic 47, 3) := by decide +kernel
theorem dX3_set_4 : decode cX3_set 4 = .ok (.ifCond .ne 13, 3) := by decide +kernel
theorem dX3_set_7 : decode cX3_set 7 = .ok (.new 51, 3) := by decide +kernel
theorem dX3_set_10 : decode cX3_set 10 = .ok (.dup, 1) := by decide +kernel
theorem dX3_set_11 : decode cX3_set 11 = .ok (.ldc 53, 2) := by decide +kernel
theorem dX3_set_13 : decode cX3_set 13 = .ok (.invokespecial 55, 3) := by decide +kernel
theorem dX3_set_16 : decode cX3_set 16 = .ok (.athrow, 1) := by decide +kernel
theorem dX3_set_17 : decode cX3_set 17 = .ok (.iload_n 2, 1) := by decide +kernel
theorem dX3_set_18 : decode cX3_set 18 = .ok (.iconst 0, 1) := by decide +kernel
theorem dX3_set_19 : decode cX3_set 19 = .ok (.sipush 500, 3) := by decide +kernel
theorem dX3_set_22 : decode cX3_set 22 = .ok (.invokestatic 58, 3) := by decide +kernel
theorem dX3_set_25 : decode cX3_set 25 = .ok (.ifCond .ne 13, 3) := by decide +kernel
theorem dX3_set_28 : decode cX3_set 28 = .ok (.new 62, 3) := by decide +kernel
theorem dX3_set_31 : decode cX3_set 31 = .ok (.dup, 1) := by decide +kernel
theorem dX3_set_32 : decode cX3_set 32 = .ok (.ldc 64, 2) := by decide +kernel
theorem dX3_set_34 : decode cX3_set 34 = .ok (.invokespecial 66, 3) := by decide +kernel
theorem dX3_set_37 : decode cX3_set 37 = .ok (.athrow, 1) := by decide +kernel
theorem dX3_set_38 : decode cX3_set 38 = .ok (.iload_n 3, 1) := by decide +kernel
theorem dX3_set_39 : decode cX3_set 39 = .ok (.iconst 1, 1) := by decide +kernel
theorem dX3_set_40 : decode cX3_set 40 = .ok (.bipush 9, 2) := by decide +kernel
theorem dX3_set_42 : decode cX3_set 42 = .ok (.invokestatic 58, 3) := by decide +kernel
theorem dX3_set_45 : decode cX3_set 45 = .ok (.ifCond .ne 13, 3) := by decide +kernel
theorem dX3_set_48 : decode cX3_set 48 = .ok (.new 62, 3) := by decide +kernel
theorem dX3_set_51 : decode cX3_set 51 = .ok (.dup, 1) := by decide +kernel
theorem dX3_set_52 : decode cX3_set 52 = .ok (.ldc 67, 2) := by decide +kernel
theorem dX3_set_54 : decode cX3_set 54 = .ok (.invokespecial 66, 3) := by decide +kernel
theorem dX3_set_57 : decode cX3_set 57 = .ok (.athrow, 1) := by decide +kernel
theorem dX3_set_58 : decode cX3_set 58 = .ok (.bipush 10, 2) := by decide +kernel
theorem dX3_set_60 : decode cX3_set 60 = .ok (.aload_n 0, 1) := by decide +kernel
theorem dX3_set_61 : decode cX3_set 61 = .ok (.getfield 9, 3) := by decide +kernel
theorem dX3_set_64 : decode cX3_set 64 = .ok (.iload_n 1, 1) := by decide +kernel
theorem dX3_set_65 : decode cX3_set 65 = .ok (.iaload, 1) := by decide +kernel
theorem dX3_set_66 : decode cX3_set 66 = .ok (.imul, 1) := by decide +kernel
theorem dX3_set_67 : decode cX3_set 67 = .ok (.aload_n 0, 1) := by decide +kernel
theorem dX3_set_68 : decode cX3_set 68 = .ok (.getfield 13, 3) := by decide +kernel
theorem dX3_set_71 : decode cX3_set 71 = .ok (.iload_n 1, 1) := by decide +kernel
theorem dX3_set_72 : decode cX3_set 72 = .ok (.iaload, 1) := by decide +kernel
theorem dX3_set_73 : decode cX3_set 73 = .ok (.iadd, 1) := by decide +kernel
theorem dX3_set_74 : decode cX3_set 74 = .ok (.istore 4, 2) := by decide +kernel
theorem dX3_set_76 : decode cX3_set 76 = .ok (.aload_n 0, 1) := by decide +kernel
theorem dX3_set_77 : decode cX3_set 77 = .ok (.getfield 9, 3) := by decide +kernel
theorem dX3_set_80 : decode cX3_set 80 = .ok (.iload_n 1, 1) := by decide +kernel
theorem dX3_set_81 : decode cX3_set 81 = .ok (.iload_n 2, 1) := by decide +kernel
theorem dX3_set_82 : decode cX3_set 82 = .ok (.iastore, 1) := by decide +kernel
theorem dX3_set_83 : decode cX3_set 83 = .ok (.aload_n 0, 1) := by decide +kernel
theorem dX3_set_84 : decode cX3_set 84 = .ok (.getfield 13, 3) := by decide +kernel
theorem dX3_set_87 : decode cX3_set 87 = .ok (.iload_n 1, 1) := by decide +kernel
theorem dX3_set_88 : decode cX3_set 88 = .ok (.iload_n 3, 1) := by decide +kernel
theorem dX3_set_89 : decode cX3_set 89 = .ok (.iastore, 1) := by decide +kernel
theorem dX3_set_90 : decode cX3_set 90 = .ok (.iload 4, 2) := by decide +kernel
theorem dX3_set_92 : decode cX3_set 92 = .ok (.ireturn, 1) := by decide +kernel
set_option maxRecDepth 20000 in
theorem ggX3_setGust_X3_isWithin : GoodIn wsX3_setGust wsX3_isWithin := goodIn_r _ [9] (by decide +kernel) (by decide +kernel)
set_option maxRecDepth 20000 in
theorem gX3_setGust_X3_isWithin : GoodIn wsX3_setGust (va_wsS RX3 58 yX3_isWithin wsX3_isWithin) := goodIn_app (goodIn_of _ (by decide +kernel)) ggX3_setGust_X3_isWithin
theorem dX3_setGust_0 : decode cX3_setGust 0 = .ok (.iload_n 1, 1) := by decide +kernel
theorem dX3_setGust_1 : decode cX3_setGust 1 = .ok (.iconst 0, 1) := by decide +kernel
theorem dX3_setGust_2 : decode cX3_setGust 2 = .ok (.bipush 7, 2) := by decide +kernel
theorem dX3_setGust_4 : decode cX3_setGust 4 = .ok (.invokestatic 58, 3) := by decide +kernel
theorem dX3_setGust_7 : decode cX3_setGust 7 = .ok (.ifCond .ne 13, 3) := by decide +kernel
theorem dX3_setGust_10 : decode cX3_setGust 10 = .ok (.new 51, 3) := by decide +kernel
theorem dX3_setGust_13 : decode cX3_setGust 13 = .ok (.dup, 1) := by decide +kernel
theorem dX3_setGust_14 : decode cX3_setGust 14 = .ok (.ldc 69, 2) := by decide +kernel
theorem dX3_setGust_16 : decode cX3_setGust 16 = .ok (.invokespecial 55, 3) := by decide +kernel
theorem dX3_setGust_19 : decode cX3_setGust 19 = .ok (.athrow, 1) := by decide +kernel
theorem dX3_setGust_20 : decode cX3_setGust 20 = .ok (.iload_n 2, 1) := by decide +kernel
theorem dX3_setGust_21 : decode cX3_setGust 21 = .ok (.iconst 0, 1) := by decide +kernel
theorem dX3_setGust_22 : decode cX3_setGust 22 = .ok (.bipush 9, 2) := by decide +kernel
theorem dX3_setGust_24 : decode cX3_setGust 24 = .ok (.invokestatic 58, 3) := by decide +kernel
theorem dX3_setGust_27 : decode cX3_setGust 27 = .ok (.ifCond .ne 13, 3) := by decide +kernel
theorem dX3_setGust_30 : decode cX3_setGust 30 = .ok (.new 62, 3) := by decide +kernel
theorem dX3_setGust_33 : decode cX3_setGust 33 = .ok (.dup, 1) := by decide +kernel
theorem dX3_setGust_34 : decode cX3_setGust 34 = .ok (.ldc 71, 2) := by decide +kernel
theorem dX3_setGust_36 : decode cX3_setGust 36 = .ok (.invokespecial 66, 3) := by decide +kernel
theorem dX3_setGust_39 : decode cX3_setGust 39 = .ok (.athrow, 1) := by decide +kernel
theorem dX3_setGust_40 : decode cX3_setGust 40 = .ok (.aload_n 0, 1) := by decide +kernel
theorem dX3_setGust_41 : decode cX3_setGust 41 = .ok (.getfield 16, 3) := by decide +kernel
theorem dX3_setGust_44 : decode cX3_setGust 44 = .ok (.iload_n 1, 1) := by decide +kernel
theorem dX3_setGust_45 : decode cX3_setGust 45 = .ok (.iaload, 1) := by decide +kernel
theorem dX3_setGust_46 : decode cX3_setGust 46 = .ok (.istore_n 3, 1) := by decide +kernel
theorem dX3_setGust_47 : decode cX3_setGust 47 = .ok (.aload_n 0, 1) := by decide +kernel
theorem dX3_setGust_48 : decode cX3_setGust 48 = .ok (.getfield 16, 3) := by decide +kernel
theorem dX3_setGust_51 : decode cX3_setGust 51 = .ok (.iload_n 1, 1) := by decide +kernel
theorem dX3_setGust_52 : decode cX3_setGust 52 = .ok (.iload_n 2, 1) := by decide +kernel
theorem dX3_setGust_53 : decode cX3_setGust 53 = .ok (.iastore, 1) := by decide +kernel
theorem dX3_setGust_54 : decode cX3_setGust 54 = .ok (.iload_n 3, 1) := by decide +kernel
theorem dX3_setGust_55 : decode cX3_setGust 55 = .ok (.ireturn, 1) := by decide +kernel
set_option maxRecDepth 20000 in
theorem ggX3_build_X3_isWithin : GoodIn wsX3_build wsX3_isWithin := goodIn_r _ [10] (by decide +kernel) (by decide +kernel)
set_option maxRecDepth 20000 in
theorem gX3_build_X3_isWithin : GoodIn wsX3_build (va_wsS RX3 58 yX3_isWithin wsX3_isWithin) := goodIn_app (goodIn_of _ (by decide +kernel)) ggX3_build_X3_isWithin
theorem dX3_build_0 : decode cX3_build 0 = .ok (.iload_n 1, 1) := by decide +kernel
theorem dX3_build_1 : decode cX3_build 1 = .ok (.iconst 1, 1) := by decide +kernel
theorem dX3_build_2 : decode cX3_build 2 = .ok (.bipush 8, 2) := by decide +kernel
theorem dX3_build_4 : decode cX3_build 4 = .ok (.invokestatic 58, 3) := by decide +kernel
theorem dX3_build_7 : decode cX3_build 7 = .ok (.ifCond .ne 13, 3) := by decide +kernel
theorem dX3_build_10 : decode cX3_build 10 = .ok (.new 62, 3) := by decide +kernel
theorem dX3_build_13 : decode cX3_build 13 = .ok (.dup, 1) := by decide +kernel
theorem dX3_build_14 : decode cX3_build 14 = .ok (.ldc 73, 2) := by decide +kernel
theorem dX3_build_16 : decode cX3_build 16 = .ok (.invokespecial 66, 3) := by decide +kernel
theorem dX3_build_19 : decode cX3_build 19 = .ok (.athrow, 1) := by decide +kernel
theorem dX3_build_20 : decode cX3_build 20 = .ok (.aload_n 0, 1) := by decide +kernel
theorem dX3_build_21 : decode cX3_build 21 = .ok (.getfield 75, 3) := by decide +kernel
theorem dX3_build_24 : decode cX3_build 24 = .ok (.bipush 6, 2) := by decide +kernel
theorem dX3_build_26 : decode cX3_build 26 = .ok (.if_icmp .lt 13, 3) := by decide +kernel
theorem dX3_build_29 : decode cX3_build 29 = .ok (.new 79, 3) := by decide +kernel
theorem dX3_build_32 : decode cX3_build 32 = .ok (.dup, 1) := by decide +kernel
theorem dX3_build_33 : decode cX3_build 33 = .ok (.ldc 81, 2) := by decide +kernel
theorem dX3_build_35 : decode cX3_build 35 = .ok (.invokespecial 83, 3) := by decide +kernel
theorem dX3_build_38 : decode cX3_build 38 = .ok (.athrow, 1) := by decide +kernel
theorem dX3_build_39 : decode cX3_build 39 = .ok (.aload_n 0, 1) := by decide +kernel
theorem dX3_build_40 : decode cX3_build 40 = .ok (.getfield 21, 3) := by decide +kernel
theorem dX3_build_43 : decode cX3_build 43 = .ok (.aload_n 0, 1) := by decide +kernel
theorem dX3_build_44 : decode cX3_build 44 = .ok (.getfield 75, 3) := by decide +kernel
theorem dX3_build_47 : decode cX3_build 47 = .ok (.aaload, 1) := by decide +kernel
theorem dX3_build_48 : decode cX3_build 48 = .ok (.iload_n 1, 1) := by decide +kernel
theorem dX3_build_49 : decode cX3_build 49 = .ok (.putfield 84, 3) := by decide +kernel
theorem dX3_build_52 : decode cX3_build 52 = .ok (.aload_n 0, 1) := by decide +kernel
theorem dX3_build_53 : decode cX3_build 53 = .ok (.dup, 1) := by decide +kernel
theorem dX3_build_54 : decode cX3_build 54 = .ok (.getfield 75, 3) := by decide +kernel
theorem dX3_build_57 : decode cX3_build 57 = .ok (.iconst 1, 1) := by decide +kernel
theorem dX3_build_58 : decode cX3_build 58 = .ok (.iadd, 1) := by decide +kernel
theorem dX3_build_59 : decode cX3_build 59 = .ok (.putfield 75, 3) := by decide +kernel
theorem dX3_build_62 : decode cX3_build 62 = .ok (.aload_n 0, 1) := by decide +kernel
theorem dX3_build_63 : decode cX3_build 63 = .ok (.getfield 75, 3) := by decide +kernel
theorem dX3_build_66 : decode cX3_build 66 = .ok (.iconst 1, 1) := by decide +kernel
theorem dX3_build_67 : decode cX3_build 67 = .ok (.isub, 1) := by decide +kernel
theorem dX3_build_68 : decode cX3_build 68 = .ok (.ireturn, 1) := by decide +kernel
set_option maxRecDepth 20000 in
theorem ggX3_fill_X3_isSledge : GoodIn wsX3_fill wsX3_isSledge := goodIn_r _ [11, 12, 40, 41, 42, 43, 44, 45, 46, 47, 48, 49, 50, 51] (by decide +kernel) (by decide +kernel)
set_option maxRecDepth 20000 in
theorem gX3_fill_X3_isSledge : GoodIn wsX3_fill (wsV RX3 87 RX3 yX3_isSledge wsX3_isSledge) := goodIn_app (goodIn_of _ (by decide +kernel)) ggX3_fill_X3_isSledge
set_option maxRecDepth 20000 in
theorem ggX3_fill_X3_isLayer : GoodIn wsX3_fill wsX3_isLayer := goodIn_r _ [15, 16, 17, 10, 18] (by decide +kernel) (by decide +kernel)
set_option maxRecDepth 20000 in
theorem gX3_fill_X3_isLayer : GoodIn wsX3_fill (va_wsS RX3 47 yX3_isLayer wsX3_isLayer) := goodIn_app (goodIn_of _ (by decide +kernel)) ggX3_fill_X3_isLayer
set_option maxRecDepth 20000 in
theorem ggX3_fill_X2_isFull : GoodIn wsX3_fill wsX2_isFull := goodIn_r _ [23, 24, 25, 52, 53, 54, 55, 56] (by decide +kernel) (by decide +kernel)
set_option maxRecDepth 20000 in
theorem gX3_fill_X2_isFull : GoodIn wsX3_fill (wsV RX3 97 RX2 yX2_isFull wsX2_isFull) := goodIn_app (goodIn_of _ (by decide +kernel)) ggX3_fill_X2_isFull
set_option maxRecDepth 20000 in
theorem ggX3_fill_X3_sackWeight : GoodIn wsX3_fill wsX3_sackWeight := goodIn_r _ [29, 30, 40, 41, 42, 43, 44, 45, 46, 47, 48, 49, 50, 51] (by decide +kernel) (by decide +kernel)
set_option maxRecDepth 20000 in
theorem gX3_fill_X3_sackWeight : GoodIn wsX3_fill (wsV RX3 105 RX3 yX3_sackWeight wsX3_sackWeight) := goodIn_app (goodIn_of _ (by decide +kernel)) ggX3_fill_X3_sackWeight
set_option maxRecDepth 20000 in
theorem ggX3_fill_X2_load : GoodIn wsX3_fill wsX2_load := goodIn_r _ [34, 35, 24, 36, 20, 21, 22, 23, 25, 52, 53, 54, 55, 56] (by decide +kernel) (by decide +kernel)
set_option maxRecDepth 20000 in
theorem gX3_fill_X2_load : GoodIn wsX3_fill (wsV RX3 109 RX2 yX2_load wsX2_load) := goodIn_app (goodIn_of _ (by decide +kernel)) ggX3_fill_X2_load
set_option maxRecDepth 20000 in
theorem ggX3_fill_X3_kindOf : GoodIn wsX3_fill wsX3_kindOf := goodIn_r _ [39] (by decide +kernel) (by decide +kernel)
set_option maxRecDepth 20000 in
theorem gX3_fill_X3_kindOf : GoodIn wsX3_fill (va_wsS RX3 113 yX3_kindOf wsX3_kindOf) := goodIn_app (goodIn_of _ (by decide +kernel)) ggX3_fill_X3_kindOf
theorem dX3_fill_0 : decode cX3_fill 0 = .ok (.aload_n 0, 1) := by decide +kernel
theorem dX3_fill_1 : decode cX3_fill 1 = .ok (.iload_n 1, 1) := by decide +kernel
theorem dX3_fill_2 : decode cX3_fill 2 = .ok (.invokevirtual 87, 3) := by decide +kernel
theorem dX3_fill_5 : decode cX3_fill 5 = .ok (.ifCond .ne 13, 3) := by decide +kernel
theorem dX3_fill_8 : decode cX3_fill 8 = .ok (.new 51, 3) := by decide +kernel
theorem dX3_fill_11 : decode cX3_fill 11 = .ok (.dup, 1) := by decide +kernel
theorem dX3_fill_12 : decode cX3_fill 12 = .ok (.ldc 90, 2) := by decide +kernel
theorem dX3_fill_14 : decode cX3_fill 14 = .ok (.invokespecial 55, 3) := by decide +kernel
theorem dX3_fill_17 : decode cX3_fill 17 = .ok (.athrow, 1) := by decide +kernel
theorem dX3_fill_18 : decode cX3_fill 18 = .ok (.iload_n 2, 1) := by decide +kernel
theorem dX3_fill_19 : decode cX3_fill 19 = .ok (.invokestatic 47, 3) := by decide +kernel
theorem dX3_fill_22 : decode cX3_fill 22 = .ok (.ifCond .ne 13, 3) := by decide +kernel
theorem dX3_fill_25 : decode cX3_fill 25 = .ok (.new 51, 3) := by decide +kernel
theorem dX3_fill_28 : decode cX3_fill 28 = .ok (.dup, 1) := by decide +kernel
theorem dX3_fill_29 : decode cX3_fill 29 = .ok (.ldc 53, 2) := by decide +kernel
theorem dX3_fill_31 : decode cX3_fill 31 = .ok (.invokespecial 55, 3) := by decide +kernel
theorem dX3_fill_34 : decode cX3_fill 34 = .ok (.athrow, 1) := by decide +kernel
theorem dX3_fill_35 : decode cX3_fill 35 = .ok (.aload_n 0, 1) := by decide +kernel
theorem dX3_fill_36 : decode cX3_fill 36 = .ok (.getfield 21, 3) := by decide +kernel
theorem dX3_fill_39 : decode cX3_fill 39 = .ok (.iload_n 1, 1) := by decide +kernel
theorem dX3_fill_40 : decode cX3_fill 40 = .ok (.aaload, 1) := by decide +kernel
theorem dX3_fill_41 : decode cX3_fill 41 = .ok (.astore_n 3, 1) := by decide +kernel
theorem dX3_fill_42 : decode cX3_fill 42 = .ok (.aload_n 3, 1) := by decide +kernel
theorem dX3_fill_43 : decode cX3_fill 43 = .ok (.getfield 92, 3) := by decide +kernel
theorem dX3_fill_46 : decode cX3_fill 46 = .ok (.ifCond .eq 13, 3) := by decide +kernel
theorem dX3_fill_49 : decode cX3_fill 49 = .ok (.new 79, 3) := by decide +kernel
theorem dX3_fill_52 : decode cX3_fill 52 = .ok (.dup, 1) := by decide +kernel
theorem dX3_fill_53 : decode cX3_fill 53 = .ok (.ldc 95, 2) := by decide +kernel
theorem dX3_fill_55 : decode cX3_fill 55 = .ok (.invokespecial 83, 3) := by decide +kernel
theorem dX3_fill_58 : decode cX3_fill 58 = .ok (.athrow, 1) := by decide +kernel
theorem dX3_fill_59 : decode cX3_fill 59 = .ok (.aload_n 3, 1) := by decide +kernel
theorem dX3_fill_60 : decode cX3_fill 60 = .ok (.invokevirtual 97, 3) := by decide +kernel
theorem dX3_fill_63 : decode cX3_fill 63 = .ok (.ifCond .eq 13, 3) := by decide +kernel
theorem dX3_fill_66 : decode cX3_fill 66 = .ok (.new 79, 3) := by decide +kernel
theorem dX3_fill_69 : decode cX3_fill 69 = .ok (.dup, 1) := by decide +kernel
theorem dX3_fill_70 : decode cX3_fill 70 = .ok (.ldc 101, 2) := by decide +kernel
theorem dX3_fill_72 : decode cX3_fill 72 = .ok (.invokespecial 83, 3) := by decide +kernel
theorem dX3_fill_75 : decode cX3_fill 75 = .ok (.athrow, 1) := by decide +kernel
theorem dX3_fill_76 : decode cX3_fill 76 = .ok (.aload_n 0, 1) := by decide +kernel
theorem dX3_fill_77 : decode cX3_fill 77 = .ok (.getfield 9, 3) := by decide +kernel
theorem dX3_fill_80 : decode cX3_fill 80 = .ok (.iload_n 2, 1) := by decide +kernel
theorem dX3_fill_81 : decode cX3_fill 81 = .ok (.iaload, 1) := by decide +kernel
theorem dX3_fill_82 : decode cX3_fill 82 = .ok (.bipush 10, 2) := by decide +kernel
theorem dX3_fill_84 : decode cX3_fill 84 = .ok (.if_icmp .ge 13, 3) := by decide +kernel
theorem dX3_fill_87 : decode cX3_fill 87 = .ok (.new 79, 3) := by decide +kernel
theorem dX3_fill_90 : decode cX3_fill 90 = .ok (.dup, 1) := by decide +kernel
theorem dX3_fill_91 : decode cX3_fill 91 = .ok (.ldc 103, 2) := by decide +kernel
theorem dX3_fill_93 : decode cX3_fill 93 = .ok (.invokespecial 83, 3) := by decide +kernel
theorem dX3_fill_96 : decode cX3_fill 96 = .ok (.athrow, 1) := by decide +kernel
theorem dX3_fill_97 : decode cX3_fill 97 = .ok (.aload_n 0, 1) := by decide +kernel
theorem dX3_fill_98 : decode cX3_fill 98 = .ok (.getfield 9, 3) := by decide +kernel
theorem dX3_fill_101 : decode cX3_fill 101 = .ok (.iload_n 2, 1) := by decide +kernel
theorem dX3_fill_102 : decode cX3_fill 102 = .ok (.dup2, 1) := by decide +kernel
theorem dX3_fill_103 : decode cX3_fill 103 = .ok (.iaload, 1) := by decide +kernel
theorem dX3_fill_104 : decode cX3_fill 104 = .ok (.bipush 10, 2) := by decide +kernel
theorem dX3_fill_106 : decode cX3_fill 106 = .ok (.isub, 1) := by decide +kernel
theorem dX3_fill_107 : decode cX3_fill 107 = .ok (.iastore, 1) := by decide +kernel
theorem dX3_fill_108 : decode cX3_fill 108 = .ok (.aload_n 0, 1) := by decide +kernel
theorem dX3_fill_109 : decode cX3_fill 109 = .ok (.iload_n 2, 1) := by decide +kernel
theorem dX3_fill_110 : decode cX3_fill 110 = .ok (.invokevirtual 105, 3) := by decide +kernel
theorem dX3_fill_113 : decode cX3_fill 113 = .ok (.istore 4, 2) := by decide +kernel
theorem dX3_fill_115 : decode cX3_fill 115 = .ok (.aload_n 3, 1) := by decide +kernel
theorem dX3_fill_116 : decode cX3_fill 116 = .ok (.iload 4, 2) := by decide +kernel
theorem dX3_fill_118 : decode cX3_fill 118 = .ok (.invokevirtual 109, 3) := by decide +kernel
theorem dX3_fill_121 : decode cX3_fill 121 = .ok (.iload 4, 2) := by decide +kernel
theorem dX3_fill_123 : decode cX3_fill 123 = .ok (.invokestatic 113, 3) := by decide +kernel
theorem dX3_fill_126 : decode cX3_fill 126 = .ok (.ireturn, 1) := by decide +kernel
set_option maxRecDepth 20000 in
theorem ggX3_go_X3_isSledge : GoodIn wsX3_go wsX3_isSledge := goodIn_r _ [10, 11, 12, 13, 14, 15, 16, 17, 18, 19, 20, 21, 22, 23] (by decide +kernel) (by decide +kernel)
set_option maxRecDepth 20000 in
theorem gX3_go_X3_isSledge : GoodIn wsX3_go (wsV RX3 87 RX3 yX3_isSledge wsX3_isSledge) := goodIn_app (goodIn_of _ (by decide +kernel)) ggX3_go_X3_isSledge
theorem dX3_go_0 : decode cX3_go 0 = .ok (.aload_n 0, 1) := by decide +kernel
theorem dX3_go_1 : decode cX3_go 1 = .ok (.iload_n 1, 1) := by decide +kernel
theorem dX3_go_2 : decode cX3_go 2 = .ok (.invokevirtual 87, 3) := by decide +kernel
theorem dX3_go_5 : decode cX3_go 5 = .ok (.ifCond .ne 13, 3) := by decide +kernel
theorem dX3_go_8 : decode cX3_go 8 = .ok (.new 51, 3) := by decide +kernel
theorem dX3_go_11 : decode cX3_go 11 = .ok (.dup, 1) := by decide +kernel
theorem dX3_go_12 : decode cX3_go 12 = .ok (.ldc 90, 2) := by decide +kernel
theorem dX3_go_14 : decode cX3_go 14 = .ok (.invokespecial 55, 3) := by decide +kernel
theorem dX3_go_17 : decode cX3_go 17 = .ok (.athrow, 1) := by decide +kernel
theorem dX3_go_18 : decode cX3_go 18 = .ok (.aload_n 0, 1) := by decide +kernel
theorem dX3_go_19 : decode cX3_go 19 = .ok (.getfield 21, 3) := by decide +kernel
theorem dX3_go_22 : decode cX3_go 22 = .ok (.iload_n 1, 1) := by decide +kernel
theorem dX3_go_23 : decode cX3_go 23 = .ok (.aaload, 1) := by decide +kernel
theorem dX3_go_24 : decode cX3_go 24 = .ok (.astore_n 2, 1) := by decide +kernel
theorem dX3_go_25 : decode cX3_go 25 = .ok (.aload_n 2, 1) := by decide +kernel
theorem dX3_go_26 : decode cX3_go 26 = .ok (.getfield 92, 3) := by decide +kernel
theorem dX3_go_29 : decode cX3_go 29 = .ok (.ifCond .eq 13, 3) := by decide +kernel
theorem dX3_go_32 : decode cX3_go 32 = .ok (.new 79, 3) := by decide +kernel
theorem dX3_go_35 : decode cX3_go 35 = .ok (.dup, 1) := by decide +kernel
theorem dX3_go_36 : decode cX3_go 36 = .ok (.ldc 95, 2) := by decide +kernel
theorem dX3_go_38 : decode cX3_go 38 = .ok (.invokespecial 83, 3) := by decide +kernel
theorem dX3_go_41 : decode cX3_go 41 = .ok (.athrow, 1) := by decide +kernel
theorem dX3_go_42 : decode cX3_go 42 = .ok (.aload_n 2, 1) := by decide +kernel
theorem dX3_go_43 : decode cX3_go 43 = .ok (.iconst 1, 1) := by decide +kernel
theorem dX3_go_44 : decode cX3_go 44 = .ok (.putfield 92, 3) := by decide +kernel
theorem dX3_go_47 : decode cX3_go 47 = .ok (.aload_n 2, 1) := by decide +kernel
theorem dX3_go_48 : decode cX3_go 48 = .ok (.getfield 116, 3) := by decide +kernel
theorem dX3_go_51 : decode cX3_go 51 = .ok (.ireturn, 1) := by decide +kernel
set_option maxRecDepth 20000 in
theorem ggX3_launch_X3_isWithin : GoodIn wsX3_launch wsX3_isWithin := goodIn_r _ [10] (by decide +kernel) (by decide +kernel)
set_option maxRecDepth 20000 in
theorem gX3_launch_X3_isWithin : GoodIn wsX3_launch (va_wsS RX3 58 yX3_isWithin wsX3_isWithin) := goodIn_app (goodIn_of _ (by decide +kernel)) ggX3_launch_X3_isWithin
theorem dX3_launch_0 : decode cX3_launch 0 = .ok (.iload_n 1, 1) := by decide +kernel
theorem dX3_launch_1 : decode cX3_launch 1 = .ok (.bipush 100, 2) := by decide +kernel
theorem dX3_launch_3 : decode cX3_launch 3 = .ok (.sipush 900, 3) := by decide +kernel
theorem dX3_launch_6 : decode cX3_launch 6 = .ok (.invokestatic 58, 3) := by decide +kernel
theorem dX3_launch_9 : decode cX3_launch 9 = .ok (.ifCond .ne 13, 3) := by decide +kernel
theorem dX3_launch_12 : decode cX3_launch 12 = .ok (.new 62, 3) := by decide +kernel
theorem dX3_launch_15 : decode cX3_launch 15 = .ok (.dup, 1) := by decide +kernel
theorem dX3_launch_16 : decode cX3_launch 16 = .ok (.ldc 119, 2) := by decide +kernel
theorem dX3_launch_18 : decode cX3_launch 18 = .ok (.invokespecial 66, 3) := by decide +kernel
theorem dX3_launch_21 : decode cX3_launch 21 = .ok (.athrow, 1) := by decide +kernel
theorem dX3_launch_22 : decode cX3_launch 22 = .ok (.aload_n 0, 1) := by decide +kernel
theorem dX3_launch_23 : decode cX3_launch 23 = .ok (.getfield 121, 3) := by decide +kernel
theorem dX3_launch_26 : decode cX3_launch 26 = .ok (.iconst 4, 1) := by decide +kernel
theorem dX3_launch_27 : decode cX3_launch 27 = .ok (.if_icmp .lt 13, 3) := by decide +kernel
theorem dX3_launch_30 : decode cX3_launch 30 = .ok (.new 79, 3) := by decide +kernel
theorem dX3_launch_33 : decode cX3_launch 33 = .ok (.dup, 1) := by decide +kernel
theorem dX3_launch_34 : decode cX3_launch 34 = .ok (.ldc 124, 2) := by decide +kernel
theorem dX3_launch_36 : decode cX3_launch 36 = .ok (.invokespecial 83, 3) := by decide +kernel
theorem dX3_launch_39 : decode cX3_launch 39 = .ok (.athrow, 1) := by decide +kernel
theorem dX3_launch_40 : decode cX3_launch 40 = .ok (.aload_n 0, 1) := by decide +kernel
theorem dX3_launch_41 : decode cX3_launch 41 = .ok (.getfield 27, 3) := by decide +kernel
theorem dX3_launch_44 : decode cX3_launch 44 = .ok (.aload_n 0, 1) := by decide +kernel
theorem dX3_launch_45 : decode cX3_launch 45 = .ok (.getfield 121, 3) := by decide +kernel
theorem dX3_launch_48 : decode cX3_launch 48 = .ok (.aaload, 1) := by decide +kernel
theorem dX3_launch_49 : decode cX3_launch 49 = .ok (.iload_n 1, 1) := by decide +kernel
theorem dX3_launch_50 : decode cX3_launch 50 = .ok (.putfield 126, 3) := by decide +kernel
theorem dX3_launch_53 : decode cX3_launch 53 = .ok (.aload_n 0, 1) := by decide +kernel
theorem dX3_launch_54 : decode cX3_launch 54 = .ok (.dup, 1) := by decide +kernel
theorem dX3_launch_55 : decode cX3_launch 55 = .ok (.getfield 121, 3) := by decide +kernel
theorem dX3_launch_58 : decode cX3_launch 58 = .ok (.iconst 1, 1) := by decide +kernel
theorem dX3_launch_59 : decode cX3_launch 59 = .ok (.iadd, 1) := by decide +kernel
theorem dX3_launch_60 : decode cX3_launch 60 = .ok (.putfield 121, 3) := by decide +kernel
theorem dX3_launch_63 : decode cX3_launch 63 = .ok (.aload_n 0, 1) := by decide +kernel
theorem dX3_launch_64 : decode cX3_launch 64 = .ok (.getfield 121, 3) := by decide +kernel
theorem dX3_launch_67 : decode cX3_launch 67 = .ok (.iconst 1, 1) := by decide +kernel
theorem dX3_launch_68 : decode cX3_launch 68 = .ok (.isub, 1) := by decide +kernel
theorem dX3_launch_69 : decode cX3_launch 69 = .ok (.ireturn, 1) := by decide +kernel
set_option maxRecDepth 20000 in
theorem ggX3_stow_X3_isBoat : GoodIn wsX3_stow wsX3_isBoat := goodIn_r _ [11, 12, 34, 35, 36, 37, 38, 39, 40, 41, 42, 43, 44, 45] (by decide +kernel) (by decide +kernel)
set_option maxRecDepth 20000 in
theorem gX3_stow_X3_isBoat : GoodIn wsX3_stow (wsV RX3 129 RX3 yX3_isBoat wsX3_isBoat) := goodIn_app (goodIn_of _ (by decide +kernel)) ggX3_stow_X3_isBoat
set_option maxRecDepth 20000 in
theorem ggX3_stow_X3_isKind : GoodIn wsX3_stow wsX3_isKind := goodIn_r _ [15, 16, 17, 10, 18] (by decide +kernel) (by decide +kernel)
set_option maxRecDepth 20000 in
theorem gX3_stow_X3_isKind : GoodIn wsX3_stow (va_wsS RX3 134 yX3_isKind wsX3_isKind) := goodIn_app (goodIn_of _ (by decide +kernel)) ggX3_stow_X3_isKind
set_option maxRecDepth 20000 in
theorem ggX3_stow_X3_stowedWeight : GoodIn wsX3_stow wsX3_stowedWeight := goodIn_r _ [21] (by decide +kernel) (by decide +kernel)
set_option maxRecDepth 20000 in
theorem gX3_stow_X3_stowedWeight : GoodIn wsX3_stow (va_wsS RX3 139 yX3_stowedWeight wsX3_stowedWeight) := goodIn_app (goodIn_of _ (by decide +kernel)) ggX3_stow_X3_stowedWeight
set_option maxRecDepth 20000 in
theorem ggX3_stow_X0_room : GoodIn wsX3_stow wsX0_room := goodIn_r _ [26, 27, 28, 29, 48, 49, 50] (by decide +kernel) (by decide +kernel)
set_option maxRecDepth 20000 in
theorem gX3_stow_X0_room : GoodIn wsX3_stow (wsV RX3 147 RX0 yX0_room wsX0_room) := goodIn_app (goodIn_of _ (by decide +kernel)) ggX3_stow_X0_room
set_option maxRecDepth 20000 in
theorem ggX3_stow_X0_trim : GoodIn wsX3_stow wsX0_trim := goodIn_r _ [33, 28, 29, 48, 49, 50] (by decide +kernel) (by decide +kernel)
set_option maxRecDepth 20000 in
theorem gX3_stow_X0_trim : GoodIn wsX3_stow (wsV RX3 159 RX0 yX0_trim wsX0_trim) := goodIn_app (goodIn_of _ (by decide +kernel)) ggX3_stow_X0_trim
theorem dX3_stow_0 : decode cX3_stow 0 = .ok (.aload_n 0, 1) := by decide +kernel
theorem dX3_stow_1 : decode cX3_stow 1 = .ok (.iload_n 1, 1) := by decide +kernel
theorem dX3_stow_2 : decode cX3_stow 2 = .ok (.invokevirtual 129, 3) := by decide +kernel
theorem dX3_stow_5 : decode cX3_stow 5 = .ok (.ifCond .ne 13, 3) := by decide +kernel
theorem dX3_stow_8 : decode cX3_stow 8 = .ok (.new 51, 3) := by decide +kernel
theorem dX3_stow_11 : decode cX3_stow 11 = .ok (.dup, 1) := by decide +kernel
theorem dX3_stow_12 : decode cX3_stow 12 = .ok (.ldc 132, 2) := by decide +kernel
theorem dX3_stow_14 : decode cX3_stow 14 = .ok (.invokespecial 55, 3) := by decide +kernel
theorem dX3_stow_17 : decode cX3_stow 17 = .ok (.athrow, 1) := by decide +kernel
theorem dX3_stow_18 : decode cX3_stow 18 = .ok (.iload_n 2, 1) := by decide +kernel
theorem dX3_stow_19 : decode cX3_stow 19 = .ok (.invokestatic 134, 3) := by decide +kernel
theorem dX3_stow_22 : decode cX3_stow 22 = .ok (.ifCond .ne 13, 3) := by decide +kernel
theorem dX3_stow_25 : decode cX3_stow 25 = .ok (.new 51, 3) := by decide +kernel
theorem dX3_stow_28 : decode cX3_stow 28 = .ok (.dup, 1) := by decide +kernel
theorem dX3_stow_29 : decode cX3_stow 29 = .ok (.ldc 137, 2) := by decide +kernel
theorem dX3_stow_31 : decode cX3_stow 31 = .ok (.invokespecial 55, 3) := by decide +kernel
theorem dX3_stow_34 : decode cX3_stow 34 = .ok (.athrow, 1) := by decide +kernel
theorem dX3_stow_35 : decode cX3_stow 35 = .ok (.aload_n 0, 1) := by decide +kernel
theorem dX3_stow_36 : decode cX3_stow 36 = .ok (.getfield 27, 3) := by decide +kernel
theorem dX3_stow_39 : decode cX3_stow 39 = .ok (.iload_n 1, 1) := by decide +kernel
theorem dX3_stow_40 : decode cX3_stow 40 = .ok (.aaload, 1) := by decide +kernel
theorem dX3_stow_41 : decode cX3_stow 41 = .ok (.astore 4, 2) := by decide +kernel
theorem dX3_stow_43 : decode cX3_stow 43 = .ok (.iload_n 2, 1) := by decide +kernel
theorem dX3_stow_44 : decode cX3_stow 44 = .ok (.invokestatic 139, 3) := by decide +kernel
theorem dX3_stow_47 : decode cX3_stow 47 = .ok (.istore 5, 2) := by decide +kernel
theorem dX3_stow_49 : decode cX3_stow 49 = .ok (.aload_n 0, 1) := by decide +kernel
theorem dX3_stow_50 : decode cX3_stow 50 = .ok (.getfield 34, 3) := by decide +kernel
theorem dX3_stow_53 : decode cX3_stow 53 = .ok (.getfield 142, 3) := by decide +kernel
theorem dX3_stow_56 : decode cX3_stow 56 = .ok (.iload_n 2, 1) := by decide +kernel
theorem dX3_stow_57 : decode cX3_stow 57 = .ok (.iaload, 1) := by decide +kernel
theorem dX3_stow_58 : decode cX3_stow 58 = .ok (.iconst 1, 1) := by decide +kernel
theorem dX3_stow_59 : decode cX3_stow 59 = .ok (.if_icmp .ge 13, 3) := by decide +kernel
theorem dX3_stow_62 : decode cX3_stow 62 = .ok (.new 79, 3) := by decide +kernel
theorem dX3_stow_65 : decode cX3_stow 65 = .ok (.dup, 1) := by decide +kernel
theorem dX3_stow_66 : decode cX3_stow 66 = .ok (.ldc 145, 2) := by decide +kernel
theorem dX3_stow_68 : decode cX3_stow 68 = .ok (.invokespecial 83, 3) := by decide +kernel
theorem dX3_stow_71 : decode cX3_stow 71 = .ok (.athrow, 1) := by decide +kernel
theorem dX3_stow_72 : decode cX3_stow 72 = .ok (.iload 5, 2) := by decide +kernel
theorem dX3_stow_74 : decode cX3_stow 74 = .ok (.aload 4, 2) := by decide +kernel
theorem dX3_stow_76 : decode cX3_stow 76 = .ok (.invokevirtual 147, 3) := by decide +kernel
theorem dX3_stow_79 : decode cX3_stow 79 = .ok (.if_icmp .le 13, 3) := by decide +kernel
theorem dX3_stow_82 : decode cX3_stow 82 = .ok (.new 79, 3) := by decide +kernel
theorem dX3_stow_85 : decode cX3_stow 85 = .ok (.dup, 1) := by decide +kernel
theorem dX3_stow_86 : decode cX3_stow 86 = .ok (.ldc 151, 2) := by decide +kernel
theorem dX3_stow_88 : decode cX3_stow 88 = .ok (.invokespecial 83, 3) := by decide +kernel
theorem dX3_stow_91 : decode cX3_stow 91 = .ok (.athrow, 1) := by decide +kernel
theorem dX3_stow_92 : decode cX3_stow 92 = .ok (.aload_n 0, 1) := by decide +kernel
theorem dX3_stow_93 : decode cX3_stow 93 = .ok (.getfield 34, 3) := by decide +kernel
theorem dX3_stow_96 : decode cX3_stow 96 = .ok (.getfield 142, 3) := by decide +kernel
theorem dX3_stow_99 : decode cX3_stow 99 = .ok (.iload_n 2, 1) := by decide +kernel
theorem dX3_stow_100 : decode cX3_stow 100 = .ok (.dup2, 1) := by decide +kernel
theorem dX3_stow_101 : decode cX3_stow 101 = .ok (.iaload, 1) := by decide +kernel
theorem dX3_stow_102 : decode cX3_stow 102 = .ok (.iconst 1, 1) := by decide +kernel
theorem dX3_stow_103 : decode cX3_stow 103 = .ok (.isub, 1) := by decide +kernel
theorem dX3_stow_104 : decode cX3_stow 104 = .ok (.iastore, 1) := by decide +kernel
theorem dX3_stow_105 : decode cX3_stow 105 = .ok (.iload_n 3, 1) := by decide +kernel
theorem dX3_stow_106 : decode cX3_stow 106 = .ok (.ifCond .eq 18, 3) := by decide +kernel
theorem dX3_stow_109 : decode cX3_stow 109 = .ok (.aload 4, 2) := by decide +kernel
theorem dX3_stow_111 : decode cX3_stow 111 = .ok (.dup, 1) := by decide +kernel
theorem dX3_stow_112 : decode cX3_stow 112 = .ok (.getfield 153, 3) := by decide +kernel
theorem dX3_stow_115 : decode cX3_stow 115 = .ok (.iload 5, 2) := by decide +kernel
theorem dX3_stow_117 : decode cX3_stow 117 = .ok (.iadd, 1) := by decide +kernel
theorem dX3_stow_118 : decode cX3_stow 118 = .ok (.putfield 153, 3) := by decide +kernel
theorem dX3_stow_121 : decode cX3_stow 121 = .ok (.goto 15, 3) := by decide +kernel
theorem dX3_stow_124 : decode cX3_stow 124 = .ok (.aload 4, 2) := by decide +kernel
theorem dX3_stow_126 : decode cX3_stow 126 = .ok (.dup, 1) := by decide +kernel
theorem dX3_stow_127 : decode cX3_stow 127 = .ok (.getfield 156, 3) := by decide +kernel
theorem dX3_stow_130 : decode cX3_stow 130 = .ok (.iload 5, 2) := by decide +kernel
theorem dX3_stow_132 : decode cX3_stow 132 = .ok (.iadd, 1) := by decide +kernel
theorem dX3_stow_133 : decode cX3_stow 133 = .ok (.putfield 156, 3) := by decide +kernel
theorem dX3_stow_136 : decode cX3_stow 136 = .ok (.aload 4, 2) := by decide +kernel
theorem dX3_stow_138 : decode cX3_stow 138 = .ok (.invokevirtual 159, 3) := by decide +kernel
theorem dX3_stow_141 : decode cX3_stow 141 = .ok (.ireturn, 1) := by decide +kernel
set_option maxRecDepth 20000 in
theorem ggX3_sail_X3_isBoat : GoodIn wsX3_sail wsX3_isBoat := goodIn_r _ [11, 12, 40, 41, 42, 43, 44, 45, 46, 47, 48, 49, 50, 51] (by decide +kernel) (by decide +kernel)
set_option maxRecDepth 20000 in
theorem gX3_sail_X3_isBoat : GoodIn wsX3_sail (wsV RX3 129 RX3 yX3_isBoat wsX3_isBoat) := goodIn_app (goodIn_of _ (by decide +kernel)) ggX3_sail_X3_isBoat
set_option maxRecDepth 20000 in
theorem ggX3_sail_X0_canSail : GoodIn wsX3_sail wsX0_canSail := goodIn_r _ [17, 18, 19, 20, 16, 21, 22, 23, 24, 10, 25, 26, 27, 28, 29, 30, 31, 32, 33, 34, 35, 52, 53, 54] (by decide +kernel) (by decide +kernel)
set_option maxRecDepth 20000 in
theorem gX3_sail_X0_canSail : GoodIn wsX3_sail (wsV RX3 162 RX0 yX0_canSail wsX0_canSail) := goodIn_app (goodIn_of _ (by decide +kernel)) ggX3_sail_X0_canSail
set_option maxRecDepth 20000 in
theorem ggX3_sail_X0_worth : GoodIn wsX3_sail wsX0_worth := goodIn_r _ [39, 22, 23, 52, 53, 54] (by decide +kernel) (by decide +kernel)
set_option maxRecDepth 20000 in
theorem gX3_sail_X0_worth : GoodIn wsX3_sail (wsV RX3 167 RX0 yX0_worth wsX0_worth) := goodIn_app (goodIn_of _ (by decide +kernel)) ggX3_sail_X0_worth
theorem dX3_sail_0 : decode cX3_sail 0 = .ok (.aload_n 0, 1) := by decide +kernel
theorem dX3_sail_1 : decode cX3_sail 1 = .ok (.iload_n 1, 1) := by decide +kernel
theorem dX3_sail_2 : decode cX3_sail 2 = .ok (.invokevirtual 129, 3) := by decide +kernel
theorem dX3_sail_5 : decode cX3_sail 5 = .ok (.ifCond .ne 13, 3) := by decide +kernel
theorem dX3_sail_8 : decode cX3_sail 8 = .ok (.new 51, 3) := by decide +kernel
theorem dX3_sail_11 : decode cX3_sail 11 = .ok (.dup, 1) := by decide +kernel
theorem dX3_sail_12 : decode cX3_sail 12 = .ok (.ldc 132, 2) := by decide +kernel
theorem dX3_sail_14 : decode cX3_sail 14 = .ok (.invokespecial 55, 3) := by decide +kernel
theorem dX3_sail_17 : decode cX3_sail 17 = .ok (.athrow, 1) := by decide +kernel
theorem dX3_sail_18 : decode cX3_sail 18 = .ok (.aload_n 0, 1) := by decide +kernel
theorem dX3_sail_19 : decode cX3_sail 19 = .ok (.getfield 27, 3) := by decide +kernel
theorem dX3_sail_22 : decode cX3_sail 22 = .ok (.iload_n 1, 1) := by decide +kernel
theorem dX3_sail_23 : decode cX3_sail 23 = .ok (.aaload, 1) := by decide +kernel
theorem dX3_sail_24 : decode cX3_sail 24 = .ok (.astore_n 2, 1) := by decide +kernel
theorem dX3_sail_25 : decode cX3_sail 25 = .ok (.aload_n 2, 1) := by decide +kernel
theorem dX3_sail_26 : decode cX3_sail 26 = .ok (.invokevirtual 162, 3) := by decide +kernel
theorem dX3_sail_29 : decode cX3_sail 29 = .ok (.ifCond .ne 13, 3) := by decide +kernel
theorem dX3_sail_32 : decode cX3_sail 32 = .ok (.new 79, 3) := by decide +kernel
theorem dX3_sail_35 : decode cX3_sail 35 = .ok (.dup, 1) := by decide +kernel
theorem dX3_sail_36 : decode cX3_sail 36 = .ok (.ldc 165, 2) := by decide +kernel
theorem dX3_sail_38 : decode cX3_sail 38 = .ok (.invokespecial 83, 3) := by decide +kernel
theorem dX3_sail_41 : decode cX3_sail 41 = .ok (.athrow, 1) := by decide +kernel
theorem dX3_sail_42 : decode cX3_sail 42 = .ok (.aload_n 2, 1) := by decide +kernel
theorem dX3_sail_43 : decode cX3_sail 43 = .ok (.invokevirtual 167, 3) := by decide +kernel
theorem dX3_sail_46 : decode cX3_sail 46 = .ok (.istore_n 3, 1) := by decide +kernel
theorem dX3_sail_47 : decode cX3_sail 47 = .ok (.aload_n 2, 1) := by decide +kernel
theorem dX3_sail_48 : decode cX3_sail 48 = .ok (.iconst 0, 1) := by decide +kernel
theorem dX3_sail_49 : decode cX3_sail 49 = .ok (.putfield 153, 3) := by decide +kernel
theorem dX3_sail_52 : decode cX3_sail 52 = .ok (.aload_n 2, 1) := by decide +kernel
theorem dX3_sail_53 : decode cX3_sail 53 = .ok (.iconst 0, 1) := by decide +kernel
theorem dX3_sail_54 : decode cX3_sail 54 = .ok (.putfield 156, 3) := by decide +kernel
theorem dX3_sail_57 : decode cX3_sail 57 = .ok (.aload_n 0, 1) := by decide +kernel
theorem dX3_sail_58 : decode cX3_sail 58 = .ok (.dup, 1) := by decide +kernel
theorem dX3_sail_59 : decode cX3_sail 59 = .ok (.getfield 170, 3) := by decide +kernel
theorem dX3_sail_62 : decode cX3_sail 62 = .ok (.iload_n 3, 1) := by decide +kernel
theorem dX3_sail_63 : decode cX3_sail 63 = .ok (.iadd, 1) := by decide +kernel
theorem dX3_sail_64 : decode cX3_sail 64 = .ok (.putfield 170, 3) := by decide +kernel
theorem dX3_sail_67 : decode cX3_sail 67 = .ok (.iload_n 3, 1) := by decide +kernel
theorem dX3_sail_68 : decode cX3_sail 68 = .ok (.ireturn, 1) := by decide +kernel
set_option maxRecDepth 20000 in
theorem ggX3_layer_X3_isLayer : GoodIn wsX3_layer wsX3_isLayer := goodIn_r _ [8, 9, 10, 7, 11] (by decide +kernel) (by decide +kernel)
set_option maxRecDepth 20000 in
theorem gX3_layer_X3_isLayer : GoodIn wsX3_layer (va_wsS RX3 47 yX3_isLayer wsX3_isLayer) := goodIn_app (goodIn_of _ (by decide +kernel)) ggX3_layer_X3_isLayer
set_option maxRecDepth 20000 in
theorem ggX3_layer_X3_isWithin : GoodIn wsX3_layer wsX3_isWithin := goodIn_r _ [11] (by decide +kernel) (by decide +kernel)
set_option maxRecDepth 20000 in
theorem gX3_layer_X3_isWithin : GoodIn wsX3_layer (va_wsS RX3 58 yX3_isWithin wsX3_isWithin) := goodIn_app (goodIn_of _ (by decide +kernel)) ggX3_layer_X3_isWithin
set_option maxRecDepth 20000 in
theorem ggX3_layer_X3_sackWeight : GoodIn wsX3_layer wsX3_sackWeight := goodIn_r _ [15, 4, 19, 20, 21, 22, 23, 24, 25, 26, 27, 28, 29, 30] (by decide +kernel) (by decide +kernel)
set_option maxRecDepth 20000 in
theorem gX3_layer_X3_sackWeight : GoodIn wsX3_layer (wsV RX3 105 RX3 yX3_sackWeight wsX3_sackWeight) := goodIn_app (goodIn_of _ (by decide +kernel)) ggX3_layer_X3_sackWeight
set_option maxRecDepth 20000 in
theorem ggX3_layer_X3_kindOf : GoodIn wsX3_layer wsX3_kindOf := goodIn_r _ [18] (by decide +kernel) (by decide +kernel)
set_option maxRecDepth 20000 in
theorem gX3_layer_X3_kindOf : GoodIn wsX3_layer (va_wsS RX3 113 yX3_kindOf wsX3_kindOf) := goodIn_app (goodIn_of _ (by decide +kernel)) ggX3_layer_X3_kindOf
theorem dX3_layer_0 : decode cX3_layer 0 = .ok (.iload_n 1, 1) := by decide +kernel
theorem dX3_layer_1 : decode cX3_layer 1 = .ok (.invokestatic 47, 3) := by decide +kernel
theorem dX3_layer_4 : decode cX3_layer 4 = .ok (.ifCond .ne 13, 3) := by decide +kernel
theorem dX3_layer_7 : decode cX3_layer 7 = .ok (.new 51, 3) := by decide +kernel
theorem dX3_layer_10 : decode cX3_layer 10 = .ok (.dup, 1) := by decide +kernel
theorem dX3_layer_11 : decode cX3_layer 11 = .ok (.ldc 53, 2) := by decide +kernel
theorem dX3_layer_13 : decode cX3_layer 13 = .ok (.invokespecial 55, 3) := by decide +kernel
theorem dX3_layer_16 : decode cX3_layer 16 = .ok (.athrow, 1) := by decide +kernel
theorem dX3_layer_17 : decode cX3_layer 17 = .ok (.iload_n 2, 1) := by decide +kernel
theorem dX3_layer_18 : decode cX3_layer 18 = .ok (.iconst 0, 1) := by decide +kernel
theorem dX3_layer_19 : decode cX3_layer 19 = .ok (.iconst 3, 1) := by decide +kernel
theorem dX3_layer_20 : decode cX3_layer 20 = .ok (.invokestatic 58, 3) := by decide +kernel
theorem dX3_layer_23 : decode cX3_layer 23 = .ok (.ifCond .ne 13, 3) := by decide +kernel
theorem dX3_layer_26 : decode cX3_layer 26 = .ok (.new 51, 3) := by decide +kernel
theorem dX3_layer_29 : decode cX3_layer 29 = .ok (.dup, 1) := by decide +kernel
theorem dX3_layer_30 : decode cX3_layer 30 = .ok (.ldc 173, 2) := by decide +kernel
theorem dX3_layer_32 : decode cX3_layer 32 = .ok (.invokespecial 55, 3) := by decide +kernel
theorem dX3_layer_35 : decode cX3_layer 35 = .ok (.athrow, 1) := by decide +kernel
theorem dX3_layer_36 : decode cX3_layer 36 = .ok (.iload_n 2, 1) := by decide +kernel
theorem dX3_layer_37 : decode cX3_layer 37 = .ok (.tableswitch 50 0 2 #[27, 34, 41], 27) := by decide +kernel
theorem dX3_layer_64 : decode cX3_layer 64 = .ok (.aload_n 0, 1) := by decide +kernel
theorem dX3_layer_65 : decode cX3_layer 65 = .ok (.getfield 9, 3) := by decide +kernel
theorem dX3_layer_68 : decode cX3_layer 68 = .ok (.iload_n 1, 1) := by decide +kernel
theorem dX3_layer_69 : decode cX3_layer 69 = .ok (.iaload, 1) := by decide +kernel
theorem dX3_layer_70 : decode cX3_layer 70 = .ok (.ireturn, 1) := by decide +kernel
theorem dX3_layer_71 : decode cX3_layer 71 = .ok (.aload_n 0, 1) := by decide +kernel
theorem dX3_layer_72 : decode cX3_layer 72 = .ok (.getfield 13, 3) := by decide +kernel
theorem dX3_layer_75 : decode cX3_layer 75 = .ok (.iload_n 1, 1) := by decide +kernel
theorem dX3_layer_76 : decode cX3_layer 76 = .ok (.iaload, 1) := by decide +kernel
theorem dX3_layer_77 : decode cX3_layer 77 = .ok (.ireturn, 1) := by decide +kernel
theorem dX3_layer_78 : decode cX3_layer 78 = .ok (.aload_n 0, 1) := by decide +kernel
theorem dX3_layer_79 : decode cX3_layer 79 = .ok (.iload_n 1, 1) := by decide +kernel
theorem dX3_layer_80 : decode cX3_layer 80 = .ok (.invokevirtual 105, 3) := by decide +kernel
theorem dX3_layer_83 : decode cX3_layer 83 = .ok (.invokestatic 113, 3) := by decide +kernel
theorem dX3_layer_86 : decode cX3_layer 86 = .ok (.ireturn, 1) := by decide +kernel
theorem dX3_layer_87 : decode cX3_layer 87 = .ok (.aload_n 0, 1) := by decide +kernel
theorem dX3_layer_88 : decode cX3_layer 88 = .ok (.getfield 9, 3) := by decide +kernel
theorem dX3_layer_91 : decode cX3_layer 91 = .ok (.iload_n 1, 1) := by decide +kernel
theorem dX3_layer_92 : decode cX3_layer 92 = .ok (.iaload, 1) := by decide +kernel
theorem dX3_layer_93 : decode cX3_layer 93 = .ok (.bipush 10, 2) := by decide +kernel
theorem dX3_layer_95 : decode cX3_layer 95 = .ok (.idiv, 1) := by decide +kernel
theorem dX3_layer_96 : decode cX3_layer 96 = .ok (.ireturn, 1) := by decide +kernel
set_option maxRecDepth 20000 in
theorem ggX3_told_X3_isSledge : GoodIn wsX3_told wsX3_isSledge := goodIn_r _ [8, 9, 26, 27, 28, 29, 30, 31, 32, 33, 34, 35, 36, 37] (by decide +kernel) (by decide +kernel)
set_option maxRecDepth 20000 in
theorem gX3_told_X3_isSledge : GoodIn wsX3_told (wsV RX3 87 RX3 yX3_isSledge wsX3_isSledge) := goodIn_app (goodIn_of _ (by decide +kernel)) ggX3_told_X3_isSledge
set_option maxRecDepth 20000 in
theorem ggX3_told_X3_isWithin : GoodIn wsX3_told wsX3_isWithin := goodIn_r _ [12] (by decide +kernel) (by decide +kernel)
set_option maxRecDepth 20000 in
theorem gX3_told_X3_isWithin : GoodIn wsX3_told (va_wsS RX3 58 yX3_isWithin wsX3_isWithin) := goodIn_app (goodIn_of _ (by decide +kernel)) ggX3_told_X3_isWithin
set_option maxRecDepth 20000 in
theorem ggX3_told_X2_weightAboard : GoodIn wsX3_told wsX2_weightAboard := goodIn_r _ [17, 18, 19, 38, 39, 40, 41, 42] (by decide +kernel) (by decide +kernel)
set_option maxRecDepth 20000 in
theorem gX3_told_X2_weightAboard : GoodIn wsX3_told (wsV RX3 180 RX2 yX2_weightAboard wsX2_weightAboard) := goodIn_app (goodIn_of _ (by decide +kernel)) ggX3_told_X2_weightAboard
set_option maxRecDepth 20000 in
theorem ggX3_told_X2_lastKind : GoodIn wsX3_told wsX2_lastKind := goodIn_r _ [23, 18, 19, 24, 7, 25, 38, 39, 40, 41, 42] (by decide +kernel) (by decide +kernel)
set_option maxRecDepth 20000 in
theorem gX3_told_X2_lastKind : GoodIn wsX3_told (wsV RX3 183 RX2 yX2_lastKind wsX2_lastKind) := goodIn_app (goodIn_of _ (by decide +kernel)) ggX3_told_X2_lastKind
theorem dX3_told_0 : decode cX3_told 0 = .ok (.aload_n 0, 1) := by decide +kernel
theorem dX3_told_1 : decode cX3_told 1 = .ok (.iload_n 1, 1) := by decide +kernel
theorem dX3_told_2 : decode cX3_told 2 = .ok (.invokevirtual 87, 3) := by decide +kernel
theorem dX3_told_5 : decode cX3_told 5 = .ok (.ifCond .ne 13, 3) := by decide +kernel
theorem dX3_told_8 : decode cX3_told 8 = .ok (.new 51, 3) := by decide +kernel
theorem dX3_told_11 : decode cX3_told 11 = .ok (.dup, 1) := by decide +kernel
theorem dX3_told_12 : decode cX3_told 12 = .ok (.ldc 90, 2) := by decide +kernel
theorem dX3_told_14 : decode cX3_told 14 = .ok (.invokespecial 55, 3) := by decide +kernel
theorem dX3_told_17 : decode cX3_told 17 = .ok (.athrow, 1) := by decide +kernel
theorem dX3_told_18 : decode cX3_told 18 = .ok (.iload_n 2, 1) := by decide +kernel
theorem dX3_told_19 : decode cX3_told 19 = .ok (.iconst 0, 1) := by decide +kernel
theorem dX3_told_20 : decode cX3_told 20 = .ok (.iconst 5, 1) := by decide +kernel
theorem dX3_told_21 : decode cX3_told 21 = .ok (.invokestatic 58, 3) := by decide +kernel
theorem dX3_told_24 : decode cX3_told 24 = .ok (.ifCond .ne 13, 3) := by decide +kernel
theorem dX3_told_27 : decode cX3_told 27 = .ok (.new 51, 3) := by decide +kernel
theorem dX3_told_30 : decode cX3_told 30 = .ok (.dup, 1) := by decide +kernel
theorem dX3_told_31 : decode cX3_told 31 = .ok (.ldc 175, 2) := by decide +kernel
theorem dX3_told_33 : decode cX3_told 33 = .ok (.invokespecial 55, 3) := by decide +kernel
theorem dX3_told_36 : decode cX3_told 36 = .ok (.athrow, 1) := by decide +kernel
theorem dX3_told_37 : decode cX3_told 37 = .ok (.aload_n 0, 1) := by decide +kernel
theorem dX3_told_38 : decode cX3_told 38 = .ok (.getfield 21, 3) := by decide +kernel
theorem dX3_told_41 : decode cX3_told 41 = .ok (.iload_n 1, 1) := by decide +kernel
theorem dX3_told_42 : decode cX3_told 42 = .ok (.aaload, 1) := by decide +kernel
theorem dX3_told_43 : decode cX3_told 43 = .ok (.astore_n 3, 1) := by decide +kernel
theorem dX3_told_44 : decode cX3_told 44 = .ok (.iload_n 2, 1) := by decide +kernel
theorem dX3_told_45 : decode cX3_told 45 = .ok (.tableswitch 60 0 4 #[35, 40, 45, 50, 55], 35) := by decide +kernel
theorem dX3_told_80 : decode cX3_told 80 = .ok (.aload_n 3, 1) := by decide +kernel
theorem dX3_told_81 : decode cX3_told 81 = .ok (.getfield 84, 3) := by decide +kernel
theorem dX3_told_84 : decode cX3_told 84 = .ok (.ireturn, 1) := by decide +kernel
theorem dX3_told_85 : decode cX3_told 85 = .ok (.aload_n 3, 1) := by decide +kernel
theorem dX3_told_86 : decode cX3_told 86 = .ok (.getfield 116, 3) := by decide +kernel
theorem dX3_told_89 : decode cX3_told 89 = .ok (.ireturn, 1) := by decide +kernel
theorem dX3_told_90 : decode cX3_told 90 = .ok (.aload_n 3, 1) := by decide +kernel
theorem dX3_told_91 : decode cX3_told 91 = .ok (.getfield 177, 3) := by decide +kernel
theorem dX3_told_94 : decode cX3_told 94 = .ok (.ireturn, 1) := by decide +kernel
theorem dX3_told_95 : decode cX3_told 95 = .ok (.aload_n 3, 1) := by decide +kernel
theorem dX3_told_96 : decode cX3_told 96 = .ok (.getfield 92, 3) := by decide +kernel
theorem dX3_told_99 : decode cX3_told 99 = .ok (.ireturn, 1) := by decide +kernel
theorem dX3_told_100 : decode cX3_told 100 = .ok (.aload_n 3, 1) := by decide +kernel
theorem dX3_told_101 : decode cX3_told 101 = .ok (.invokevirtual 180, 3) := by decide +kernel
theorem dX3_told_104 : decode cX3_told 104 = .ok (.ireturn, 1) := by decide +kernel
theorem dX3_told_105 : decode cX3_told 105 = .ok (.aload_n 3, 1) := by decide +kernel
theorem dX3_told_106 : decode cX3_told 106 = .ok (.invokevirtual 183, 3) := by decide +kernel
theorem dX3_told_109 : decode cX3_told 109 = .ok (.ireturn, 1) := by decide +kernel
set_option maxRecDepth 20000 in
theorem ggX3_boat_X3_isBoat : GoodIn wsX3_boat wsX3_isBoat := goodIn_r _ [8, 9, 41, 42, 43, 44, 45, 46, 47, 48, 49, 50, 51, 52] (by decide +kernel) (by decide +kernel)
set_option maxRecDepth 20000 in
theorem gX3_boat_X3_isBoat : GoodIn wsX3_boat (wsV RX3 129 RX3 yX3_isBoat wsX3_isBoat) := goodIn_app (goodIn_of _ (by decide +kernel)) ggX3_boat_X3_isBoat
set_option maxRecDepth 20000 in
theorem ggX3_boat_X3_isWithin : GoodIn wsX3_boat wsX3_isWithin := goodIn_r _ [12] (by decide +kernel) (by decide +kernel)
set_option maxRecDepth 20000 in
theorem gX3_boat_X3_isWithin : GoodIn wsX3_boat (va_wsS RX3 58 yX3_isWithin wsX3_isWithin) := goodIn_app (goodIn_of _ (by decide +kernel)) ggX3_boat_X3_isWithin
set_option maxRecDepth 20000 in
theorem ggX3_boat_X0_trim : GoodIn wsX3_boat wsX0_trim := goodIn_r _ [17, 18, 19, 53, 54, 55] (by decide +kernel) (by decide +kernel)
set_option maxRecDepth 20000 in
theorem gX3_boat_X0_trim : GoodIn wsX3_boat (wsV RX3 159 RX0 yX0_trim wsX0_trim) := goodIn_app (goodIn_of _ (by decide +kernel)) ggX3_boat_X0_trim
set_option maxRecDepth 20000 in
theorem ggX3_boat_X0_depth : GoodIn wsX3_boat wsX0_depth := goodIn_r _ [23, 18, 19, 24, 7, 25, 26, 27, 28, 29, 53, 54, 55] (by decide +kernel) (by decide +kernel)
set_option maxRecDepth 20000 in
theorem gX3_boat_X0_depth : GoodIn wsX3_boat (wsV RX3 188 RX0 yX0_depth wsX0_depth) := goodIn_app (goodIn_of _ (by decide +kernel)) ggX3_boat_X0_depth
set_option maxRecDepth 20000 in
theorem ggX3_boat_X0_canSail : GoodIn wsX3_boat wsX0_canSail := goodIn_r _ [33, 34, 21, 22, 16, 23, 18, 19, 24, 7, 25, 26, 27, 28, 29, 35, 14, 15, 17, 11, 12, 53, 54, 55] (by decide +kernel) (by decide +kernel)
set_option maxRecDepth 20000 in
theorem gX3_boat_X0_canSail : GoodIn wsX3_boat (wsV RX3 162 RX0 yX0_canSail wsX0_canSail) := goodIn_app (goodIn_of _ (by decide +kernel)) ggX3_boat_X0_canSail
set_option maxRecDepth 20000 in
theorem ggX3_boat_X0_room : GoodIn wsX3_boat wsX0_room := goodIn_r _ [39, 40, 18, 19, 53, 54, 55] (by decide +kernel) (by decide +kernel)
set_option maxRecDepth 20000 in
theorem gX3_boat_X0_room : GoodIn wsX3_boat (wsV RX3 147 RX0 yX0_room wsX0_room) := goodIn_app (goodIn_of _ (by decide +kernel)) ggX3_boat_X0_room
theorem dX3_boat_0 : decode cX3_boat 0 = .ok (.aload_n 0, 1) := by decide +kernel
theorem dX3_boat_1 : decode cX3_boat 1 = .ok (.iload_n 1, 1) := by decide +kernel
theorem dX3_boat_2 : decode cX3_boat 2 = .ok (.invokevirtual 129, 3) := by decide +kernel
theorem dX3_boat_5 : decode cX3_boat 5 = .ok (.ifCond .ne 13, 3) := by decide +kernel
theorem dX3_boat_8 : decode cX3_boat 8 = .ok (.new 51, 3) := by decide +kernel
theorem dX3_boat_11 : decode cX3_boat 11 = .ok (.dup, 1) := by decide +kernel
theorem dX3_boat_12 : decode cX3_boat 12 = .ok (.ldc 132, 2) := by decide +kernel
theorem dX3_boat_14 : decode cX3_boat 14 = .ok (.invokespecial 55, 3) := by decide +kernel
theorem dX3_boat_17 : decode cX3_boat 17 = .ok (.athrow, 1) := by decide +kernel
theorem dX3_boat_18 : decode cX3_boat 18 = .ok (.iload_n 2, 1) := by decide +kernel
theorem dX3_boat_19 : decode cX3_boat 19 = .ok (.iconst 0, 1) := by decide +kernel
theorem dX3_boat_20 : decode cX3_boat 20 = .ok (.bipush 6, 2) := by decide +kernel
theorem dX3_boat_22 : decode cX3_boat 22 = .ok (.invokestatic 58, 3) := by decide +kernel
theorem dX3_boat_25 : decode cX3_boat 25 = .ok (.ifCond .ne 13, 3) := by decide +kernel
theorem dX3_boat_28 : decode cX3_boat 28 = .ok (.new 51, 3) := by decide +kernel
theorem dX3_boat_31 : decode cX3_boat 31 = .ok (.dup, 1) := by decide +kernel
theorem dX3_boat_32 : decode cX3_boat 32 = .ok (.ldc 186, 2) := by decide +kernel
theorem dX3_boat_34 : decode cX3_boat 34 = .ok (.invokespecial 55, 3) := by decide +kernel
theorem dX3_boat_37 : decode cX3_boat 37 = .ok (.athrow, 1) := by decide +kernel
theorem dX3_boat_38 : decode cX3_boat 38 = .ok (.aload_n 0, 1) := by decide +kernel
theorem dX3_boat_39 : decode cX3_boat 39 = .ok (.getfield 27, 3) := by decide +kernel
theorem dX3_boat_42 : decode cX3_boat 42 = .ok (.iload_n 1, 1) := by decide +kernel
theorem dX3_boat_43 : decode cX3_boat 43 = .ok (.aaload, 1) := by decide +kernel
theorem dX3_boat_44 : decode cX3_boat 44 = .ok (.astore_n 3, 1) := by decide +kernel
theorem dX3_boat_45 : decode cX3_boat 45 = .ok (.iload_n 2, 1) := by decide +kernel
theorem dX3_boat_46 : decode cX3_boat 46 = .ok (.tableswitch 76 0 5 #[38, 43, 48, 53, 58, 63], 38) := by decide +kernel
theorem dX3_boat_84 : decode cX3_boat 84 = .ok (.aload_n 3, 1) := by decide +kernel
theorem dX3_boat_85 : decode cX3_boat 85 = .ok (.getfield 126, 3) := by decide +kernel
theorem dX3_boat_88 : decode cX3_boat 88 = .ok (.ireturn, 1) := by decide +kernel
theorem dX3_boat_89 : decode cX3_boat 89 = .ok (.aload_n 3, 1) := by decide +kernel
theorem dX3_boat_90 : decode cX3_boat 90 = .ok (.getfield 153, 3) := by decide +kernel
theorem dX3_boat_93 : decode cX3_boat 93 = .ok (.ireturn, 1) := by decide +kernel
theorem dX3_boat_94 : decode cX3_boat 94 = .ok (.aload_n 3, 1) := by decide +kernel
theorem dX3_boat_95 : decode cX3_boat 95 = .ok (.getfield 156, 3) := by decide +kernel
theorem dX3_boat_98 : decode cX3_boat 98 = .ok (.ireturn, 1) := by decide +kernel
theorem dX3_boat_99 : decode cX3_boat 99 = .ok (.aload_n 3, 1) := by decide +kernel
theorem dX3_boat_100 : decode cX3_boat 100 = .ok (.invokevirtual 159, 3) := by decide +kernel
theorem dX3_boat_103 : decode cX3_boat 103 = .ok (.ireturn, 1) := by decide +kernel
theorem dX3_boat_104 : decode cX3_boat 104 = .ok (.aload_n 3, 1) := by decide +kernel
theorem dX3_boat_105 : decode cX3_boat 105 = .ok (.invokevirtual 188, 3) := by decide +kernel
theorem dX3_boat_108 : decode cX3_boat 108 = .ok (.ireturn, 1) := by decide +kernel
theorem dX3_boat_109 : decode cX3_boat 109 = .ok (.aload_n 3, 1) := by decide +kernel
theorem dX3_boat_110 : decode cX3_boat 110 = .ok (.invokevirtual 162, 3) := by decide +kernel
theorem dX3_boat_113 : decode cX3_boat 113 = .ok (.ifCond .eq 7, 3) := by decide +kernel
theorem dX3_boat_116 : decode cX3_boat 116 = .ok (.iconst 1, 1) := by decide +kernel
theorem dX3_boat_117 : decode cX3_boat 117 = .ok (.goto 4, 3) := by decide +kernel
theorem dX3_boat_120 : decode cX3_boat 120 = .ok (.iconst 0, 1) := by decide +kernel
theorem dX3_boat_121 : decode cX3_boat 121 = .ok (.ireturn, 1) := by decide +kernel
theorem dX3_boat_122 : decode cX3_boat 122 = .ok (.aload_n 3, 1) := by decide +kernel
theorem dX3_boat_123 : decode cX3_boat 123 = .ok (.invokevirtual 147, 3) := by decide +kernel
theorem dX3_boat_126 : decode cX3_boat 126 = .ok (.ireturn, 1) := by decide +kernel
set_option maxRecDepth 20000 in
theorem ggX3_beach_X3_isKind : GoodIn wsX3_beach wsX3_isKind := goodIn_r _ [7, 8, 9, 6, 10] (by decide +kernel) (by decide +kernel)
set_option maxRecDepth 20000 in
theorem gX3_beach_X3_isKind : GoodIn wsX3_beach (va_wsS RX3 134 yX3_isKind wsX3_isKind) := goodIn_app (goodIn_of _ (by decide +kernel)) ggX3_beach_X3_isKind
theorem dX3_beach_0 : decode cX3_beach 0 = .ok (.iload_n 1, 1) := by decide +kernel
theorem dX3_beach_1 : decode cX3_beach 1 = .ok (.invokestatic 134, 3) := by decide +kernel
theorem dX3_beach_4 : decode cX3_beach 4 = .ok (.ifCond .ne 13, 3) := by decide +kernel
theorem dX3_beach_7 : decode cX3_beach 7 = .ok (.new 51, 3) := by decide +kernel
theorem dX3_beach_10 : decode cX3_beach 10 = .ok (.dup, 1) := by decide +kernel
theorem dX3_beach_11 : decode cX3_beach 11 = .ok (.ldc 137, 2) := by decide +kernel
theorem dX3_beach_13 : decode cX3_beach 13 = .ok (.invokespecial 55, 3) := by decide +kernel
theorem dX3_beach_16 : decode cX3_beach 16 = .ok (.athrow, 1) := by decide +kernel
theorem dX3_beach_17 : decode cX3_beach 17 = .ok (.aload_n 0, 1) := by decide +kernel
theorem dX3_beach_18 : decode cX3_beach 18 = .ok (.getfield 34, 3) := by decide +kernel
theorem dX3_beach_21 : decode cX3_beach 21 = .ok (.getfield 142, 3) := by decide +kernel
theorem dX3_beach_24 : decode cX3_beach 24 = .ok (.iload_n 1, 1) := by decide +kernel
theorem dX3_beach_25 : decode cX3_beach 25 = .ok (.iaload, 1) := by decide +kernel
theorem dX3_beach_26 : decode cX3_beach 26 = .ok (.ireturn, 1) := by decide +kernel
set_option maxRecDepth 20000 in
theorem ggX3_count_X3_isWithin : GoodIn wsX3_count wsX3_isWithin := goodIn_r _ [11] (by decide +kernel) (by decide +kernel)
set_option maxRecDepth 20000 in
theorem gX3_count_X3_isWithin : GoodIn wsX3_count (va_wsS RX3 58 yX3_isWithin wsX3_isWithin) := goodIn_app (goodIn_of _ (by decide +kernel)) ggX3_count_X3_isWithin
set_option maxRecDepth 20000 in
theorem ggX3_count_X3_gustAt : GoodIn wsX3_count wsX3_gustAt := goodIn_r _ [15, 16, 17, 18, 19, 20, 37, 38, 39, 40, 41, 42, 43, 44, 45, 46, 47, 48] (by decide +kernel) (by decide +kernel)
set_option maxRecDepth 20000 in
theorem gX3_count_X3_gustAt : GoodIn wsX3_count (wsV RX3 196 RX3 yX3_gustAt wsX3_gustAt) := goodIn_app (goodIn_of _ (by decide +kernel)) ggX3_count_X3_gustAt
set_option maxRecDepth 20000 in
theorem ggX3_count_X3_sacksAboard : GoodIn wsX3_count wsX3_sacksAboard := goodIn_r _ [24, 4, 25, 37, 38, 39, 40, 41, 42, 43, 44, 45, 46, 47, 48, 51, 52, 53, 54, 55] (by decide +kernel) (by decide +kernel)
set_option maxRecDepth 20000 in
theorem gX3_count_X3_sacksAboard : GoodIn wsX3_count (wsV RX3 199 RX3 yX3_sacksAboard wsX3_sacksAboard) := goodIn_app (goodIn_of _ (by decide +kernel)) ggX3_count_X3_sacksAboard
set_option maxRecDepth 20000 in
theorem ggX3_count_X1_allSacks : GoodIn wsX3_count wsX1_allSacks := goodIn_r _ [30, 31, 49, 50] (by decide +kernel) (by decide +kernel)
set_option maxRecDepth 20000 in
theorem gX3_count_X1_allSacks : GoodIn wsX3_count (wsV RX3 202 RX1 yX1_allSacks wsX1_allSacks) := goodIn_app (goodIn_of _ (by decide +kernel)) ggX3_count_X1_allSacks
set_option maxRecDepth 20000 in
theorem ggX3_count_X3_allStones : GoodIn wsX3_count wsX3_allStones := goodIn_r _ [35, 36, 37, 38, 39, 40, 41, 42, 43, 44, 45, 46, 47, 48] (by decide +kernel) (by decide +kernel)
set_option maxRecDepth 20000 in
theorem gX3_count_X3_allStones : GoodIn wsX3_count (wsV RX3 208 RX3 yX3_allStones wsX3_allStones) := goodIn_app (goodIn_of _ (by decide +kernel)) ggX3_count_X3_allStones
theorem dX3_count_0 : decode cX3_count 0 = .ok (.iload_n 1, 1) := by decide +kernel
theorem dX3_count_1 : decode cX3_count 1 = .ok (.iconst 0, 1) := by decide +kernel
theorem dX3_count_2 : decode cX3_count 2 = .ok (.bipush 8, 2) := by decide +kernel
theorem dX3_count_4 : decode cX3_count 4 = .ok (.invokestatic 58, 3) := by decide +kernel
theorem dX3_count_7 : decode cX3_count 7 = .ok (.ifCond .ne 13, 3) := by decide +kernel
theorem dX3_count_10 : decode cX3_count 10 = .ok (.new 51, 3) := by decide +kernel
theorem dX3_count_13 : decode cX3_count 13 = .ok (.dup, 1) := by decide +kernel
theorem dX3_count_14 : decode cX3_count 14 = .ok (.ldc 191, 2) := by decide +kernel
theorem dX3_count_16 : decode cX3_count 16 = .ok (.invokespecial 55, 3) := by decide +kernel
theorem dX3_count_19 : decode cX3_count 19 = .ok (.athrow, 1) := by decide +kernel
theorem dX3_count_20 : decode cX3_count 20 = .ok (.iload_n 1, 1) := by decide +kernel
theorem dX3_count_21 : decode cX3_count 21 = .ok (.tableswitch 97 0 7 #[47, 52, 61, 66, 71, 76, 81, 89], 47) := by decide +kernel
theorem dX3_count_68 : decode cX3_count 68 = .ok (.aload_n 0, 1) := by decide +kernel
theorem dX3_count_69 : decode cX3_count 69 = .ok (.getfield 193, 3) := by decide +kernel
theorem dX3_count_72 : decode cX3_count 72 = .ok (.ireturn, 1) := by decide +kernel
theorem dX3_count_73 : decode cX3_count 73 = .ok (.aload_n 0, 1) := by decide +kernel
theorem dX3_count_74 : decode cX3_count 74 = .ok (.aload_n 0, 1) := by decide +kernel
theorem dX3_count_75 : decode cX3_count 75 = .ok (.getfield 193, 3) := by decide +kernel
theorem dX3_count_78 : decode cX3_count 78 = .ok (.invokevirtual 196, 3) := by decide +kernel
theorem dX3_count_81 : decode cX3_count 81 = .ok (.ireturn, 1) := by decide +kernel
theorem dX3_count_82 : decode cX3_count 82 = .ok (.aload_n 0, 1) := by decide +kernel
theorem dX3_count_83 : decode cX3_count 83 = .ok (.getfield 75, 3) := by decide +kernel
theorem dX3_count_86 : decode cX3_count 86 = .ok (.ireturn, 1) := by decide +kernel
theorem dX3_count_87 : decode cX3_count 87 = .ok (.aload_n 0, 1) := by decide +kernel
theorem dX3_count_88 : decode cX3_count 88 = .ok (.getfield 121, 3) := by decide +kernel
theorem dX3_count_91 : decode cX3_count 91 = .ok (.ireturn, 1) := by decide +kernel
theorem dX3_count_92 : decode cX3_count 92 = .ok (.aload_n 0, 1) := by decide +kernel
theorem dX3_count_93 : decode cX3_count 93 = .ok (.getfield 170, 3) := by decide +kernel
theorem dX3_count_96 : decode cX3_count 96 = .ok (.ireturn, 1) := by decide +kernel
theorem dX3_count_97 : decode cX3_count 97 = .ok (.aload_n 0, 1) := by decide +kernel
theorem dX3_count_98 : decode cX3_count 98 = .ok (.invokevirtual 199, 3) := by decide +kernel
theorem dX3_count_101 : decode cX3_count 101 = .ok (.ireturn, 1) := by decide +kernel
theorem dX3_count_102 : decode cX3_count 102 = .ok (.aload_n 0, 1) := by decide +kernel
theorem dX3_count_103 : decode cX3_count 103 = .ok (.getfield 34, 3) := by decide +kernel
theorem dX3_count_106 : decode cX3_count 106 = .ok (.invokevirtual 202, 3) := by decide +kernel
theorem dX3_count_109 : decode cX3_count 109 = .ok (.ireturn, 1) := by decide +kernel
theorem dX3_count_110 : decode cX3_count 110 = .ok (.aload_n 0, 1) := by decide +kernel
theorem dX3_count_111 : decode cX3_count 111 = .ok (.getfield 34, 3) := by decide +kernel
theorem dX3_count_114 : decode cX3_count 114 = .ok (.getfield 205, 3) := by decide +kernel
theorem dX3_count_117 : decode cX3_count 117 = .ok (.ireturn, 1) := by decide +kernel
theorem dX3_count_118 : decode cX3_count 118 = .ok (.aload_n 0, 1) := by decide +kernel
theorem dX3_count_119 : decode cX3_count 119 = .ok (.invokevirtual 208, 3) := by decide +kernel
theorem dX3_count_122 : decode cX3_count 122 = .ok (.ireturn, 1) := by decide +kernel
set_option maxRecDepth 20000 in
theorem ggX3_pass_X3_isWithin : GoodIn wsX3_pass wsX3_isWithin := goodIn_r _ [7] (by decide +kernel) (by decide +kernel)
set_option maxRecDepth 20000 in
theorem gX3_pass_X3_isWithin : GoodIn wsX3_pass (va_wsS RX3 58 yX3_isWithin wsX3_isWithin) := goodIn_app (goodIn_of _ (by decide +kernel)) ggX3_pass_X3_isWithin
set_option maxRecDepth 20000 in
theorem ggX3_pass_X1_allSacks : GoodIn wsX3_pass wsX1_allSacks := goodIn_r _ [12, 13, 72, 73] (by decide +kernel) (by decide +kernel)
set_option maxRecDepth 20000 in
theorem gX3_pass_X1_allSacks : GoodIn wsX3_pass (wsV RX3 202 RX1 yX1_allSacks wsX1_allSacks) := goodIn_app (goodIn_of _ (by decide +kernel)) ggX3_pass_X1_allSacks
set_option maxRecDepth 20000 in
theorem ggX3_pass_X3_passOneHour : GoodIn wsX3_pass wsX3_passOneHour := goodIn_r _ [17, 18, 19, 20, 3, 21, 22, 23, 6, 24, 25, 26, 27, 28, 29, 30, 31, 32, 33, 34, 35, 36, 37, 38, 39, 40, 41, 42, 43, 44, 45, 46, 47, 48, 49, 50, 51, 52, 53, 54, 55, 56, 57, 58, 59, 60, 61, 62, 63, 64, 65, 66, 67, 68, 69, 70, 71, 74, 75, 76, 77, 78, 72, 73] (by decide +kernel) (by decide +kernel)
set_option maxRecDepth 20000 in
theorem gX3_pass_X3_passOneHour : GoodIn wsX3_pass (wsV RX3 213 RX3 yX3_passOneHour wsX3_passOneHour) := goodIn_app (goodIn_of _ (by decide +kernel)) ggX3_pass_X3_passOneHour
theorem dX3_pass_0 : decode cX3_pass 0 = .ok (.iload_n 1, 1) := by decide +kernel
theorem dX3_pass_1 : decode cX3_pass 1 = .ok (.iconst 1, 1) := by decide +kernel
theorem dX3_pass_2 : decode cX3_pass 2 = .ok (.bipush 60, 2) := by decide +kernel
theorem dX3_pass_4 : decode cX3_pass 4 = .ok (.invokestatic 58, 3) := by decide +kernel
theorem dX3_pass_7 : decode cX3_pass 7 = .ok (.ifCond .ne 13, 3) := by decide +kernel
theorem dX3_pass_10 : decode cX3_pass 10 = .ok (.new 62, 3) := by decide +kernel
theorem dX3_pass_13 : decode cX3_pass 13 = .ok (.dup, 1) := by decide +kernel
theorem dX3_pass_14 : decode cX3_pass 14 = .ok (.ldc 211, 2) := by decide +kernel
theorem dX3_pass_16 : decode cX3_pass 16 = .ok (.invokespecial 66, 3) := by decide +kernel
theorem dX3_pass_19 : decode cX3_pass 19 = .ok (.athrow, 1) := by decide +kernel
theorem dX3_pass_20 : decode cX3_pass 20 = .ok (.aload_n 0, 1) := by decide +kernel
theorem dX3_pass_21 : decode cX3_pass 21 = .ok (.getfield 34, 3) := by decide +kernel
theorem dX3_pass_24 : decode cX3_pass 24 = .ok (.invokevirtual 202, 3) := by decide +kernel
theorem dX3_pass_27 : decode cX3_pass 27 = .ok (.istore_n 2, 1) := by decide +kernel
theorem dX3_pass_28 : decode cX3_pass 28 = .ok (.iconst 0, 1) := by decide +kernel
theorem dX3_pass_29 : decode cX3_pass 29 = .ok (.istore_n 3, 1) := by decide +kernel
theorem dX3_pass_30 : decode cX3_pass 30 = .ok (.iload_n 3, 1) := by decide +kernel
theorem dX3_pass_31 : decode cX3_pass 31 = .ok (.iload_n 1, 1) := by decide +kernel
theorem dX3_pass_32 : decode cX3_pass 32 = .ok (.if_icmp .ge 13, 3) := by decide +kernel
theorem dX3_pass_35 : decode cX3_pass 35 = .ok (.aload_n 0, 1) := by decide +kernel
theorem dX3_pass_36 : decode cX3_pass 36 = .ok (.invokevirtual 213, 3) := by decide +kernel
theorem dX3_pass_39 : decode cX3_pass 39 = .ok (.iinc 3 1, 3) := by decide +kernel
theorem dX3_pass_42 : decode cX3_pass 42 = .ok (.goto (-12), 3) := by decide +kernel
theorem dX3_pass_45 : decode cX3_pass 45 = .ok (.aload_n 0, 1) := by decide +kernel
theorem dX3_pass_46 : decode cX3_pass 46 = .ok (.getfield 34, 3) := by decide +kernel
theorem dX3_pass_49 : decode cX3_pass 49 = .ok (.invokevirtual 202, 3) := by decide +kernel
theorem dX3_pass_52 : decode cX3_pass 52 = .ok (.iload_n 2, 1) := by decide +kernel
theorem dX3_pass_53 : decode cX3_pass 53 = .ok (.isub, 1) := by decide +kernel
theorem dX3_pass_54 : decode cX3_pass 54 = .ok (.ireturn, 1) := by decide +kernel
set_option maxRecDepth 20000 in
theorem ggX3_back_X3_isSledge : GoodIn wsX3_back wsX3_isSledge := goodIn_r _ [11, 12, 61, 62, 63, 64, 65, 66, 67, 68, 69, 70, 71, 72] (by decide +kernel) (by decide +kernel)
set_option maxRecDepth 20000 in
theorem gX3_back_X3_isSledge : GoodIn wsX3_back (wsV RX3 87 RX3 yX3_isSledge wsX3_isSledge) := goodIn_app (goodIn_of _ (by decide +kernel)) ggX3_back_X3_isSledge
set_option maxRecDepth 20000 in
theorem ggX3_back_X2_become : GoodIn wsX3_back wsX2_become := goodIn_r _ [17, 18, 19, 20, 21, 22, 23, 24, 25, 26, 73, 74, 75, 76, 77] (by decide +kernel) (by decide +kernel)
set_option maxRecDepth 20000 in
theorem gX3_back_X2_become : GoodIn wsX3_back (wsV RX3 216 RX2 yX2_become wsX2_become) := goodIn_app (goodIn_of _ (by decide +kernel)) ggX3_back_X2_become
set_option maxRecDepth 20000 in
theorem ggX3_back_X3_gustAt : GoodIn wsX3_back wsX3_gustAt := goodIn_r _ [30, 31, 32, 33, 34, 35, 61, 62, 63, 64, 65, 66, 67, 68, 69, 70, 71, 72] (by decide +kernel) (by decide +kernel)
set_option maxRecDepth 20000 in
theorem gX3_back_X3_gustAt : GoodIn wsX3_back (wsV RX3 196 RX3 yX3_gustAt wsX3_gustAt) := goodIn_app (goodIn_of _ (by decide +kernel)) ggX3_back_X3_gustAt
set_option maxRecDepth 20000 in
theorem ggX3_back_X2_travel : GoodIn wsX3_back wsX2_travel := goodIn_r _ [39, 26, 40, 41, 42, 16, 43, 24, 25, 44, 45, 46, 47, 48, 49, 50, 51, 19, 52, 10, 53, 54, 55, 56, 57, 58, 59, 60, 73, 74, 75, 76, 77, 78, 79] (by decide +kernel) (by decide +kernel)
set_option maxRecDepth 20000 in
theorem gX3_back_X2_travel : GoodIn wsX3_back (wsV RX3 220 RX2 yX2_travel wsX2_travel) := goodIn_app (goodIn_of _ (by decide +kernel)) ggX3_back_X2_travel
theorem dX3_back_0 : decode cX3_back 0 = .ok (.aload_n 0, 1) := by decide +kernel
theorem dX3_back_1 : decode cX3_back 1 = .ok (.iload_n 1, 1) := by decide +kernel
theorem dX3_back_2 : decode cX3_back 2 = .ok (.invokevirtual 87, 3) := by decide +kernel
theorem dX3_back_5 : decode cX3_back 5 = .ok (.ifCond .ne 13, 3) := by decide +kernel
theorem dX3_back_8 : decode cX3_back 8 = .ok (.new 51, 3) := by decide +kernel
theorem dX3_back_11 : decode cX3_back 11 = .ok (.dup, 1) := by decide +kernel
theorem dX3_back_12 : decode cX3_back 12 = .ok (.ldc 90, 2) := by decide +kernel
theorem dX3_back_14 : decode cX3_back 14 = .ok (.invokespecial 55, 3) := by decide +kernel
theorem dX3_back_17 : decode cX3_back 17 = .ok (.athrow, 1) := by decide +kernel
theorem dX3_back_18 : decode cX3_back 18 = .ok (.aload_n 0, 1) := by decide +kernel
theorem dX3_back_19 : decode cX3_back 19 = .ok (.getfield 39, 3) := by decide +kernel
theorem dX3_back_22 : decode cX3_back 22 = .ok (.aload_n 0, 1) := by decide +kernel
theorem dX3_back_23 : decode cX3_back 23 = .ok (.getfield 21, 3) := by decide +kernel
theorem dX3_back_26 : decode cX3_back 26 = .ok (.iload_n 1, 1) := by decide +kernel
theorem dX3_back_27 : decode cX3_back 27 = .ok (.aaload, 1) := by decide +kernel
theorem dX3_back_28 : decode cX3_back 28 = .ok (.invokevirtual 216, 3) := by decide +kernel
theorem dX3_back_31 : decode cX3_back 31 = .ok (.iconst 0, 1) := by decide +kernel
theorem dX3_back_32 : decode cX3_back 32 = .ok (.istore_n 2, 1) := by decide +kernel
theorem dX3_back_33 : decode cX3_back 33 = .ok (.aload_n 0, 1) := by decide +kernel
theorem dX3_back_34 : decode cX3_back 34 = .ok (.getfield 39, 3) := by decide +kernel
theorem dX3_back_37 : decode cX3_back 37 = .ok (.getfield 92, 3) := by decide +kernel
theorem dX3_back_40 : decode cX3_back 40 = .ok (.ifCond .eq 36, 3) := by decide +kernel
theorem dX3_back_43 : decode cX3_back 43 = .ok (.iload_n 2, 1) := by decide +kernel
theorem dX3_back_44 : decode cX3_back 44 = .ok (.bipush 100, 2) := by decide +kernel
theorem dX3_back_46 : decode cX3_back 46 = .ok (.if_icmp .ge 30, 3) := by decide +kernel
theorem dX3_back_49 : decode cX3_back 49 = .ok (.aload_n 0, 1) := by decide +kernel
theorem dX3_back_50 : decode cX3_back 50 = .ok (.getfield 39, 3) := by decide +kernel
theorem dX3_back_53 : decode cX3_back 53 = .ok (.aload_n 0, 1) := by decide +kernel
theorem dX3_back_54 : decode cX3_back 54 = .ok (.aload_n 0, 1) := by decide +kernel
theorem dX3_back_55 : decode cX3_back 55 = .ok (.getfield 193, 3) := by decide +kernel
theorem dX3_back_58 : decode cX3_back 58 = .ok (.iload_n 2, 1) := by decide +kernel
theorem dX3_back_59 : decode cX3_back 59 = .ok (.iadd, 1) := by decide +kernel
theorem dX3_back_60 : decode cX3_back 60 = .ok (.invokevirtual 196, 3) := by decide +kernel
theorem dX3_back_63 : decode cX3_back 63 = .ok (.aload_n 0, 1) := by decide +kernel
theorem dX3_back_64 : decode cX3_back 64 = .ok (.getfield 43, 3) := by decide +kernel
theorem dX3_back_67 : decode cX3_back 67 = .ok (.invokevirtual 220, 3) := by decide +kernel
theorem dX3_back_70 : decode cX3_back 70 = .ok (.iinc 2 1, 3) := by decide +kernel
theorem dX3_back_73 : decode cX3_back 73 = .ok (.goto (-40), 3) := by decide +kernel
theorem dX3_back_76 : decode cX3_back 76 = .ok (.iload_n 2, 1) := by decide +kernel
theorem dX3_back_77 : decode cX3_back 77 = .ok (.ireturn, 1) := by decide +kernel
set_option maxRecDepth 20000 in
theorem ggX3_arrives_X3_isSledge : GoodIn wsX3_arrives wsX3_isSledge := goodIn_r _ [11, 12, 67, 68, 69, 70, 71, 72, 73, 74, 75, 76, 77, 78] (by decide +kernel) (by decide +kernel)
set_option maxRecDepth 20000 in
theorem gX3_arrives_X3_isSledge : GoodIn wsX3_arrives (wsV RX3 87 RX3 yX3_isSledge wsX3_isSledge) := goodIn_app (goodIn_of _ (by decide +kernel)) ggX3_arrives_X3_isSledge
set_option maxRecDepth 20000 in
theorem ggX3_arrives_X2_become : GoodIn wsX3_arrives wsX2_become := goodIn_r _ [17, 18, 19, 20, 21, 22, 23, 24, 25, 26, 79, 80, 81, 82, 83] (by decide +kernel) (by decide +kernel)
set_option maxRecDepth 20000 in
theorem gX3_arrives_X2_become : GoodIn wsX3_arrives (wsV RX3 216 RX2 yX2_become wsX2_become) := goodIn_app (goodIn_of _ (by decide +kernel)) ggX3_arrives_X2_become
set_option maxRecDepth 20000 in
theorem ggX3_arrives_X1_allSacks : GoodIn wsX3_arrives wsX1_allSacks := goodIn_r _ [31, 32, 84, 85] (by decide +kernel) (by decide +kernel)
set_option maxRecDepth 20000 in
theorem gX3_arrives_X1_allSacks : GoodIn wsX3_arrives (wsV RX3 202 RX1 yX1_allSacks wsX1_allSacks) := goodIn_app (goodIn_of _ (by decide +kernel)) ggX3_arrives_X1_allSacks
set_option maxRecDepth 20000 in
theorem ggX3_arrives_X3_gustAt : GoodIn wsX3_arrives wsX3_gustAt := goodIn_r _ [36, 37, 38, 39, 40, 41, 67, 68, 69, 70, 71, 72, 73, 74, 75, 76, 77, 78] (by decide +kernel) (by decide +kernel)
set_option maxRecDepth 20000 in
theorem gX3_arrives_X3_gustAt : GoodIn wsX3_arrives (wsV RX3 196 RX3 yX3_gustAt wsX3_gustAt) := goodIn_app (goodIn_of _ (by decide +kernel)) ggX3_arrives_X3_gustAt
set_option maxRecDepth 20000 in
theorem ggX3_arrives_X2_travel : GoodIn wsX3_arrives wsX2_travel := goodIn_r _ [45, 26, 46, 47, 48, 16, 49, 24, 25, 50, 51, 52, 53, 54, 55, 56, 57, 19, 58, 10, 59, 60, 61, 62, 63, 64, 65, 66, 79, 80, 81, 82, 83, 84, 85] (by decide +kernel) (by decide +kernel)
set_option maxRecDepth 20000 in
theorem gX3_arrives_X2_travel : GoodIn wsX3_arrives (wsV RX3 220 RX2 yX2_travel wsX2_travel) := goodIn_app (goodIn_of _ (by decide +kernel)) ggX3_arrives_X2_travel
theorem dX3_arrives_0 : decode cX3_arrives 0 = .ok (.aload_n 0, 1) := by decide +kernel
theorem dX3_arrives_1 : decode cX3_arrives 1 = .ok (.iload_n 1, 1) := by decide +kernel
theorem dX3_arrives_2 : decode cX3_arrives 2 = .ok (.invokevirtual 87, 3) := by decide +kernel
theorem dX3_arrives_5 : decode cX3_arrives 5 = .ok (.ifCond .ne 13, 3) := by decide +kernel
theorem dX3_arrives_8 : decode cX3_arrives 8 = .ok (.new 51, 3) := by decide +kernel
theorem dX3_arrives_11 : decode cX3_arrives 11 = .ok (.dup, 1) := by decide +kernel
theorem dX3_arrives_12 : decode cX3_arrives 12 = .ok (.ldc 90, 2) := by decide +kernel
theorem dX3_arrives_14 : decode cX3_arrives 14 = .ok (.invokespecial 55, 3) := by decide +kernel
theorem dX3_arrives_17 : decode cX3_arrives 17 = .ok (.athrow, 1) := by decide +kernel
theorem dX3_arrives_18 : decode cX3_arrives 18 = .ok (.aload_n 0, 1) := by decide +kernel
theorem dX3_arrives_19 : decode cX3_arrives 19 = .ok (.getfield 39, 3) := by decide +kernel
theorem dX3_arrives_22 : decode cX3_arrives 22 = .ok (.aload_n 0, 1) := by decide +kernel
theorem dX3_arrives_23 : decode cX3_arrives 23 = .ok (.getfield 21, 3) := by decide +kernel
theorem dX3_arrives_26 : decode cX3_arrives 26 = .ok (.iload_n 1, 1) := by decide +kernel
theorem dX3_arrives_27 : decode cX3_arrives 27 = .ok (.aaload, 1) := by decide +kernel
theorem dX3_arrives_28 : decode cX3_arrives 28 = .ok (.invokevirtual 216, 3) := by decide +kernel
theorem dX3_arrives_31 : decode cX3_arrives 31 = .ok (.aload_n 0, 1) := by decide +kernel
theorem dX3_arrives_32 : decode cX3_arrives 32 = .ok (.getfield 39, 3) := by decide +kernel
theorem dX3_arrives_35 : decode cX3_arrives 35 = .ok (.getfield 92, 3) := by decide +kernel
theorem dX3_arrives_38 : decode cX3_arrives 38 = .ok (.iconst 2, 1) := by decide +kernel
theorem dX3_arrives_39 : decode cX3_arrives 39 = .ok (.if_icmp .ne 5, 3) := by decide +kernel
theorem dX3_arrives_42 : decode cX3_arrives 42 = .ok (.iconst 0, 1) := by decide +kernel
theorem dX3_arrives_43 : decode cX3_arrives 43 = .ok (.ireturn, 1) := by decide +kernel
theorem dX3_arrives_44 : decode cX3_arrives 44 = .ok (.aload_n 0, 1) := by decide +kernel
theorem dX3_arrives_45 : decode cX3_arrives 45 = .ok (.getfield 39, 3) := by decide +kernel
theorem dX3_arrives_48 : decode cX3_arrives 48 = .ok (.iconst 1, 1) := by decide +kernel
theorem dX3_arrives_49 : decode cX3_arrives 49 = .ok (.putfield 92, 3) := by decide +kernel
theorem dX3_arrives_52 : decode cX3_arrives 52 = .ok (.aload_n 0, 1) := by decide +kernel
theorem dX3_arrives_53 : decode cX3_arrives 53 = .ok (.getfield 43, 3) := by decide +kernel
theorem dX3_arrives_56 : decode cX3_arrives 56 = .ok (.invokevirtual 202, 3) := by decide +kernel
theorem dX3_arrives_59 : decode cX3_arrives 59 = .ok (.istore_n 2, 1) := by decide +kernel
theorem dX3_arrives_60 : decode cX3_arrives 60 = .ok (.iconst 0, 1) := by decide +kernel
theorem dX3_arrives_61 : decode cX3_arrives 61 = .ok (.istore_n 3, 1) := by decide +kernel
theorem dX3_arrives_62 : decode cX3_arrives 62 = .ok (.aload_n 0, 1) := by decide +kernel
theorem dX3_arrives_63 : decode cX3_arrives 63 = .ok (.getfield 39, 3) := by decide +kernel
theorem dX3_arrives_66 : decode cX3_arrives 66 = .ok (.getfield 92, 3) := by decide +kernel
theorem dX3_arrives_69 : decode cX3_arrives 69 = .ok (.iconst 1, 1) := by decide +kernel
theorem dX3_arrives_70 : decode cX3_arrives 70 = .ok (.if_icmp .ne 36, 3) := by decide +kernel
theorem dX3_arrives_73 : decode cX3_arrives 73 = .ok (.iload_n 3, 1) := by decide +kernel
theorem dX3_arrives_74 : decode cX3_arrives 74 = .ok (.bipush 100, 2) := by decide +kernel
theorem dX3_arrives_76 : decode cX3_arrives 76 = .ok (.if_icmp .ge 30, 3) := by decide +kernel
theorem dX3_arrives_79 : decode cX3_arrives 79 = .ok (.aload_n 0, 1) := by decide +kernel
theorem dX3_arrives_80 : decode cX3_arrives 80 = .ok (.getfield 39, 3) := by decide +kernel
theorem dX3_arrives_83 : decode cX3_arrives 83 = .ok (.aload_n 0, 1) := by decide +kernel
theorem dX3_arrives_84 : decode cX3_arrives 84 = .ok (.aload_n 0, 1) := by decide +kernel
theorem dX3_arrives_85 : decode cX3_arrives 85 = .ok (.getfield 193, 3) := by decide +kernel
theorem dX3_arrives_88 : decode cX3_arrives 88 = .ok (.iload_n 3, 1) := by decide +kernel
theorem dX3_arrives_89 : decode cX3_arrives 89 = .ok (.iadd, 1) := by decide +kernel
theorem dX3_arrives_90 : decode cX3_arrives 90 = .ok (.invokevirtual 196, 3) := by decide +kernel
theorem dX3_arrives_93 : decode cX3_arrives 93 = .ok (.aload_n 0, 1) := by decide +kernel
theorem dX3_arrives_94 : decode cX3_arrives 94 = .ok (.getfield 43, 3) := by decide +kernel
theorem dX3_arrives_97 : decode cX3_arrives 97 = .ok (.invokevirtual 220, 3) := by decide +kernel
theorem dX3_arrives_100 : decode cX3_arrives 100 = .ok (.iinc 3 1, 3) := by decide +kernel
theorem dX3_arrives_103 : decode cX3_arrives 103 = .ok (.goto (-41), 3) := by decide +kernel
theorem dX3_arrives_106 : decode cX3_arrives 106 = .ok (.aload_n 0, 1) := by decide +kernel
theorem dX3_arrives_107 : decode cX3_arrives 107 = .ok (.getfield 43, 3) := by decide +kernel
theorem dX3_arrives_110 : decode cX3_arrives 110 = .ok (.invokevirtual 202, 3) := by decide +kernel
theorem dX3_arrives_113 : decode cX3_arrives 113 = .ok (.iload_n 2, 1) := by decide +kernel
theorem dX3_arrives_114 : decode cX3_arrives 114 = .ok (.isub, 1) := by decide +kernel
theorem dX3_arrives_115 : decode cX3_arrives 115 = .ok (.ireturn, 1) := by decide +kernel
set_option maxRecDepth 20000 in
theorem ggX3_advise_X3_isBoat : GoodIn wsX3_advise wsX3_isBoat := goodIn_r _ [8, 9, 34, 35, 36, 37, 38, 39, 40, 41, 42, 43, 44, 45] (by decide +kernel) (by decide +kernel)
set_option maxRecDepth 20000 in
theorem gX3_advise_X3_isBoat : GoodIn wsX3_advise (wsV RX3 129 RX3 yX3_isBoat wsX3_isBoat) := goodIn_app (goodIn_of _ (by decide +kernel)) ggX3_advise_X3_isBoat
set_option maxRecDepth 20000 in
theorem ggX3_advise_X3_isKind : GoodIn wsX3_advise wsX3_isKind := goodIn_r _ [12, 13, 14, 7, 15] (by decide +kernel) (by decide +kernel)
set_option maxRecDepth 20000 in
theorem gX3_advise_X3_isKind : GoodIn wsX3_advise (va_wsS RX3 134 yX3_isKind wsX3_isKind) := goodIn_app (goodIn_of _ (by decide +kernel)) ggX3_advise_X3_isKind
set_option maxRecDepth 20000 in
theorem ggX3_advise_X3_stowedWeight : GoodIn wsX3_advise wsX3_stowedWeight := goodIn_r _ [18] (by decide +kernel) (by decide +kernel)
set_option maxRecDepth 20000 in
theorem gX3_advise_X3_stowedWeight : GoodIn wsX3_advise (va_wsS RX3 139 yX3_stowedWeight wsX3_stowedWeight) := goodIn_app (goodIn_of _ (by decide +kernel)) ggX3_advise_X3_stowedWeight
set_option maxRecDepth 20000 in
theorem ggX3_advise_X0_room : GoodIn wsX3_advise wsX0_room := goodIn_r _ [23, 24, 25, 26, 46, 47, 48] (by decide +kernel) (by decide +kernel)
set_option maxRecDepth 20000 in
theorem gX3_advise_X0_room : GoodIn wsX3_advise (wsV RX3 147 RX0 yX0_room wsX0_room) := goodIn_app (goodIn_of _ (by decide +kernel)) ggX3_advise_X0_room
set_option maxRecDepth 20000 in
theorem ggX3_advise_X3_depthOf : GoodIn wsX3_advise wsX3_depthOf := goodIn_r _ [29, 30, 31, 32, 33] (by decide +kernel) (by decide +kernel)
set_option maxRecDepth 20000 in
theorem gX3_advise_X3_depthOf : GoodIn wsX3_advise (va_wsS RX3 224 yX3_depthOf wsX3_depthOf) := goodIn_app (goodIn_of _ (by decide +kernel)) ggX3_advise_X3_depthOf
theorem dX3_advise_0 : decode cX3_advise 0 = .ok (.aload_n 0, 1) := by decide +kernel
theorem dX3_advise_1 : decode cX3_advise 1 = .ok (.iload_n 1, 1) := by decide +kernel
theorem dX3_advise_2 : decode cX3_advise 2 = .ok (.invokevirtual 129, 3) := by decide +kernel
theorem dX3_advise_5 : decode cX3_advise 5 = .ok (.ifCond .ne 13, 3) := by decide +kernel
theorem dX3_advise_8 : decode cX3_advise 8 = .ok (.new 51, 3) := by decide +kernel
theorem dX3_advise_11 : decode cX3_advise 11 = .ok (.dup, 1) := by decide +kernel
theorem dX3_advise_12 : decode cX3_advise 12 = .ok (.ldc 132, 2) := by decide +kernel
theorem dX3_advise_14 : decode cX3_advise 14 = .ok (.invokespecial 55, 3) := by decide +kernel
theorem dX3_advise_17 : decode cX3_advise 17 = .ok (.athrow, 1) := by decide +kernel
theorem dX3_advise_18 : decode cX3_advise 18 = .ok (.iload_n 2, 1) := by decide +kernel
theorem dX3_advise_19 : decode cX3_advise 19 = .ok (.invokestatic 134, 3) := by decide +kernel
theorem dX3_advise_22 : decode cX3_advise 22 = .ok (.ifCond .ne 13, 3) := by decide +kernel
theorem dX3_advise_25 : decode cX3_advise 25 = .ok (.new 51, 3) := by decide +kernel
theorem dX3_advise_28 : decode cX3_advise 28 = .ok (.dup, 1) := by decide +kernel
theorem dX3_advise_29 : decode cX3_advise 29 = .ok (.ldc 137, 2) := by decide +kernel
theorem dX3_advise_31 : decode cX3_advise 31 = .ok (.invokespecial 55, 3) := by decide +kernel
theorem dX3_advise_34 : decode cX3_advise 34 = .ok (.athrow, 1) := by decide +kernel
theorem dX3_advise_35 : decode cX3_advise 35 = .ok (.aload_n 0, 1) := by decide +kernel
theorem dX3_advise_36 : decode cX3_advise 36 = .ok (.getfield 27, 3) := by decide +kernel
theorem dX3_advise_39 : decode cX3_advise 39 = .ok (.iload_n 1, 1) := by decide +kernel
theorem dX3_advise_40 : decode cX3_advise 40 = .ok (.aaload, 1) := by decide +kernel
theorem dX3_advise_41 : decode cX3_advise 41 = .ok (.astore_n 3, 1) := by decide +kernel
theorem dX3_advise_42 : decode cX3_advise 42 = .ok (.iload_n 2, 1) := by decide +kernel
theorem dX3_advise_43 : decode cX3_advise 43 = .ok (.invokestatic 139, 3) := by decide +kernel
theorem dX3_advise_46 : decode cX3_advise 46 = .ok (.istore 4, 2) := by decide +kernel
theorem dX3_advise_48 : decode cX3_advise 48 = .ok (.iload 4, 2) := by decide +kernel
theorem dX3_advise_50 : decode cX3_advise 50 = .ok (.aload_n 3, 1) := by decide +kernel
theorem dX3_advise_51 : decode cX3_advise 51 = .ok (.invokevirtual 147, 3) := by decide +kernel
theorem dX3_advise_54 : decode cX3_advise 54 = .ok (.if_icmp .le 5, 3) := by decide +kernel
theorem dX3_advise_57 : decode cX3_advise 57 = .ok (.iconst 0, 1) := by decide +kernel
theorem dX3_advise_58 : decode cX3_advise 58 = .ok (.ireturn, 1) := by decide +kernel
theorem dX3_advise_59 : decode cX3_advise 59 = .ok (.aload_n 3, 1) := by decide +kernel
theorem dX3_advise_60 : decode cX3_advise 60 = .ok (.getfield 153, 3) := by decide +kernel
theorem dX3_advise_63 : decode cX3_advise 63 = .ok (.iload 4, 2) := by decide +kernel
theorem dX3_advise_65 : decode cX3_advise 65 = .ok (.iadd, 1) := by decide +kernel
theorem dX3_advise_66 : decode cX3_advise 66 = .ok (.aload_n 3, 1) := by decide +kernel
theorem dX3_advise_67 : decode cX3_advise 67 = .ok (.getfield 156, 3) := by decide +kernel
theorem dX3_advise_70 : decode cX3_advise 70 = .ok (.invokestatic 224, 3) := by decide +kernel
theorem dX3_advise_73 : decode cX3_advise 73 = .ok (.istore 5, 2) := by decide +kernel
theorem dX3_advise_75 : decode cX3_advise 75 = .ok (.aload_n 3, 1) := by decide +kernel
theorem dX3_advise_76 : decode cX3_advise 76 = .ok (.getfield 153, 3) := by decide +kernel
theorem dX3_advise_79 : decode cX3_advise 79 = .ok (.aload_n 3, 1) := by decide +kernel
theorem dX3_advise_80 : decode cX3_advise 80 = .ok (.getfield 156, 3) := by decide +kernel
theorem dX3_advise_83 : decode cX3_advise 83 = .ok (.iload 4, 2) := by decide +kernel
theorem dX3_advise_85 : decode cX3_advise 85 = .ok (.iadd, 1) := by decide +kernel
theorem dX3_advise_86 : decode cX3_advise 86 = .ok (.invokestatic 224, 3) := by decide +kernel
theorem dX3_advise_89 : decode cX3_advise 89 = .ok (.istore 6, 2) := by decide +kernel
theorem dX3_advise_91 : decode cX3_advise 91 = .ok (.iload 5, 2) := by decide +kernel
theorem dX3_advise_93 : decode cX3_advise 93 = .ok (.iload 6, 2) := by decide +kernel
theorem dX3_advise_95 : decode cX3_advise 95 = .ok (.if_icmp .gt 7, 3) := by decide +kernel
theorem dX3_advise_98 : decode cX3_advise 98 = .ok (.iconst 1, 1) := by decide +kernel
theorem dX3_advise_99 : decode cX3_advise 99 = .ok (.goto 4, 3) := by decide +kernel
theorem dX3_advise_102 : decode cX3_advise 102 = .ok (.iconst 2, 1) := by decide +kernel
theorem dX3_advise_103 : decode cX3_advise 103 = .ok (.ireturn, 1) := by decide +kernel
set_option maxRecDepth 20000 in
theorem ggX3_foresee_X3_isWithin : GoodIn wsX3_foresee wsX3_isWithin := goodIn_r _ [12] (by decide +kernel) (by decide +kernel)
set_option maxRecDepth 20000 in
theorem gX3_foresee_X3_isWithin : GoodIn wsX3_foresee (va_wsS RX3 58 yX3_isWithin wsX3_isWithin) := goodIn_app (goodIn_of _ (by decide +kernel)) ggX3_foresee_X3_isWithin
set_option maxRecDepth 20000 in
theorem ggX3_foresee_X1_become : GoodIn wsX3_foresee wsX1_become := goodIn_r _ [17, 18, 19, 20, 21, 22, 23, 91, 92] (by decide +kernel) (by decide +kernel)
set_option maxRecDepth 20000 in
theorem gX3_foresee_X1_become : GoodIn wsX3_foresee (wsV RX3 230 RX1 yX1_become wsX1_become) := goodIn_app (goodIn_of _ (by decide +kernel)) ggX3_foresee_X1_become
set_option maxRecDepth 20000 in
theorem ggX3_foresee_X3_aboardBehind : GoodIn wsX3_foresee wsX3_aboardBehind := goodIn_r _ [27, 28, 29, 5, 30, 31, 32, 33, 34, 35, 36, 37, 20, 21, 22, 38, 39, 40, 41, 42, 43, 11, 44, 45, 46, 47, 48, 49, 50, 51, 52, 53, 54, 55, 56, 57, 58, 59, 60, 61, 62, 63, 64, 65, 66, 67, 68, 69, 70, 71, 72, 73, 74, 79, 80, 81, 82, 83, 84, 85, 86, 87, 88, 89, 90, 93, 94, 95, 96, 97, 91, 92] (by decide +kernel) (by decide +kernel)
set_option maxRecDepth 20000 in
theorem gX3_foresee_X3_aboardBehind : GoodIn wsX3_foresee (wsV RX3 233 RX3 yX3_aboardBehind wsX3_aboardBehind) := goodIn_app (goodIn_of _ (by decide +kernel)) ggX3_foresee_X3_aboardBehind
set_option maxRecDepth 20000 in
theorem ggX3_foresee_X1_allSacks : GoodIn wsX3_foresee wsX1_allSacks := goodIn_r _ [78, 18, 91, 92] (by decide +kernel) (by decide +kernel)
set_option maxRecDepth 20000 in
theorem gX3_foresee_X1_allSacks : GoodIn wsX3_foresee (wsV RX3 202 RX1 yX1_allSacks wsX1_allSacks) := goodIn_app (goodIn_of _ (by decide +kernel)) ggX3_foresee_X1_allSacks
theorem dX3_foresee_0 : decode cX3_foresee 0 = .ok (.iload_n 1, 1) := by decide +kernel
theorem dX3_foresee_1 : decode cX3_foresee 1 = .ok (.iconst 1, 1) := by decide +kernel
theorem dX3_foresee_2 : decode cX3_foresee 2 = .ok (.bipush 60, 2) := by decide +kernel
theorem dX3_foresee_4 : decode cX3_foresee 4 = .ok (.invokestatic 58, 3) := by decide +kernel
theorem dX3_foresee_7 : decode cX3_foresee 7 = .ok (.ifCond .ne 13, 3) := by decide +kernel
theorem dX3_foresee_10 : decode cX3_foresee 10 = .ok (.new 62, 3) := by decide +kernel
theorem dX3_foresee_13 : decode cX3_foresee 13 = .ok (.dup, 1) := by decide +kernel
theorem dX3_foresee_14 : decode cX3_foresee 14 = .ok (.ldc 211, 2) := by decide +kernel
theorem dX3_foresee_16 : decode cX3_foresee 16 = .ok (.invokespecial 66, 3) := by decide +kernel
theorem dX3_foresee_19 : decode cX3_foresee 19 = .ok (.athrow, 1) := by decide +kernel
theorem dX3_foresee_20 : decode cX3_foresee 20 = .ok (.iload_n 2, 1) := by decide +kernel
theorem dX3_foresee_21 : decode cX3_foresee 21 = .ok (.iconst 5, 1) := by decide +kernel
theorem dX3_foresee_22 : decode cX3_foresee 22 = .ok (.bipush 7, 2) := by decide +kernel
theorem dX3_foresee_24 : decode cX3_foresee 24 = .ok (.invokestatic 58, 3) := by decide +kernel
theorem dX3_foresee_27 : decode cX3_foresee 27 = .ok (.ifCond .ne 13, 3) := by decide +kernel
theorem dX3_foresee_30 : decode cX3_foresee 30 = .ok (.new 51, 3) := by decide +kernel
theorem dX3_foresee_33 : decode cX3_foresee 33 = .ok (.dup, 1) := by decide +kernel
theorem dX3_foresee_34 : decode cX3_foresee 34 = .ok (.ldc 228, 2) := by decide +kernel
theorem dX3_foresee_36 : decode cX3_foresee 36 = .ok (.invokespecial 55, 3) := by decide +kernel
theorem dX3_foresee_39 : decode cX3_foresee 39 = .ok (.athrow, 1) := by decide +kernel
theorem dX3_foresee_40 : decode cX3_foresee 40 = .ok (.aload_n 0, 1) := by decide +kernel
theorem dX3_foresee_41 : decode cX3_foresee 41 = .ok (.getfield 43, 3) := by decide +kernel
theorem dX3_foresee_44 : decode cX3_foresee 44 = .ok (.aload_n 0, 1) := by decide +kernel
theorem dX3_foresee_45 : decode cX3_foresee 45 = .ok (.getfield 34, 3) := by decide +kernel
theorem dX3_foresee_48 : decode cX3_foresee 48 = .ok (.invokevirtual 230, 3) := by decide +kernel
theorem dX3_foresee_51 : decode cX3_foresee 51 = .ok (.iconst 0, 1) := by decide +kernel
theorem dX3_foresee_52 : decode cX3_foresee 52 = .ok (.istore_n 3, 1) := by decide +kernel
theorem dX3_foresee_53 : decode cX3_foresee 53 = .ok (.iconst 0, 1) := by decide +kernel
theorem dX3_foresee_54 : decode cX3_foresee 54 = .ok (.istore 4, 2) := by decide +kernel
theorem dX3_foresee_56 : decode cX3_foresee 56 = .ok (.iload 4, 2) := by decide +kernel
theorem dX3_foresee_58 : decode cX3_foresee 58 = .ok (.aload_n 0, 1) := by decide +kernel
theorem dX3_foresee_59 : decode cX3_foresee 59 = .ok (.getfield 75, 3) := by decide +kernel
theorem dX3_foresee_62 : decode cX3_foresee 62 = .ok (.if_icmp .ge 24, 3) := by decide +kernel
theorem dX3_foresee_65 : decode cX3_foresee 65 = .ok (.iload_n 3, 1) := by decide +kernel
theorem dX3_foresee_66 : decode cX3_foresee 66 = .ok (.aload_n 0, 1) := by decide +kernel
theorem dX3_foresee_67 : decode cX3_foresee 67 = .ok (.iload_n 1, 1) := by decide +kernel
theorem dX3_foresee_68 : decode cX3_foresee 68 = .ok (.aload_n 0, 1) := by decide +kernel
theorem dX3_foresee_69 : decode cX3_foresee 69 = .ok (.getfield 21, 3) := by decide +kernel
theorem dX3_foresee_72 : decode cX3_foresee 72 = .ok (.iload 4, 2) := by decide +kernel
theorem dX3_foresee_74 : decode cX3_foresee 74 = .ok (.aaload, 1) := by decide +kernel
theorem dX3_foresee_75 : decode cX3_foresee 75 = .ok (.invokevirtual 233, 3) := by decide +kernel
theorem dX3_foresee_78 : decode cX3_foresee 78 = .ok (.iadd, 1) := by decide +kernel
theorem dX3_foresee_79 : decode cX3_foresee 79 = .ok (.istore_n 3, 1) := by decide +kernel
theorem dX3_foresee_80 : decode cX3_foresee 80 = .ok (.iinc 4 1, 3) := by decide +kernel
theorem dX3_foresee_83 : decode cX3_foresee 83 = .ok (.goto (-27), 3) := by decide +kernel
theorem dX3_foresee_86 : decode cX3_foresee 86 = .ok (.iload_n 2, 1) := by decide +kernel
theorem dX3_foresee_87 : decode cX3_foresee 87 = .ok (.lookupswitch 35 #[(5, 25), (6, 27)], 25) := by decide +kernel
theorem dX3_foresee_112 : decode cX3_foresee 112 = .ok (.iload_n 3, 1) := by decide +kernel
theorem dX3_foresee_113 : decode cX3_foresee 113 = .ok (.ireturn, 1) := by decide +kernel
theorem dX3_foresee_114 : decode cX3_foresee 114 = .ok (.aload_n 0, 1) := by decide +kernel
theorem dX3_foresee_115 : decode cX3_foresee 115 = .ok (.getfield 43, 3) := by decide +kernel
theorem dX3_foresee_118 : decode cX3_foresee 118 = .ok (.invokevirtual 202, 3) := by decide +kernel
theorem dX3_foresee_121 : decode cX3_foresee 121 = .ok (.ireturn, 1) := by decide +kernel
theorem dX3_foresee_122 : decode cX3_foresee 122 = .ok (.aload_n 0, 1) := by decide +kernel
theorem dX3_foresee_123 : decode cX3_foresee 123 = .ok (.getfield 43, 3) := by decide +kernel
theorem dX3_foresee_126 : decode cX3_foresee 126 = .ok (.getfield 205, 3) := by decide +kernel
theorem dX3_foresee_129 : decode cX3_foresee 129 = .ok (.ireturn, 1) := by decide +kernel
set_option maxRecDepth 20000 in
theorem ggX3_mean_X3_sacksAboard : GoodIn wsX3_mean wsX3_sacksAboard := goodIn_r _ [7, 1, 2, 15, 16, 17, 18, 19, 20, 21, 22, 23, 24, 25, 26, 27, 28, 29, 30, 31] (by decide +kernel) (by decide +kernel)
set_option maxRecDepth 20000 in
theorem gX3_mean_X3_sacksAboard : GoodIn wsX3_mean (wsV RX3 199 RX3 yX3_sacksAboard wsX3_sacksAboard) := goodIn_app (goodIn_of _ (by decide +kernel)) ggX3_mean_X3_sacksAboard
set_option maxRecDepth 20000 in
theorem ggX3_mean_X2_weightAboard : GoodIn wsX3_mean wsX2_weightAboard := goodIn_r _ [12, 13, 14, 27, 28, 29, 30, 31] (by decide +kernel) (by decide +kernel)
set_option maxRecDepth 20000 in
theorem gX3_mean_X2_weightAboard : GoodIn wsX3_mean (wsV RX3 180 RX2 yX2_weightAboard wsX2_weightAboard) := goodIn_app (goodIn_of _ (by decide +kernel)) ggX3_mean_X2_weightAboard
theorem dX3_mean_0 : decode cX3_mean 0 = .ok (.aload_n 0, 1) := by decide +kernel
theorem dX3_mean_1 : decode cX3_mean 1 = .ok (.invokevirtual 199, 3) := by decide +kernel
theorem dX3_mean_4 : decode cX3_mean 4 = .ok (.istore_n 1, 1) := by decide +kernel
theorem dX3_mean_5 : decode cX3_mean 5 = .ok (.iload_n 1, 1) := by decide +kernel
theorem dX3_mean_6 : decode cX3_mean 6 = .ok (.ifCond .ne 5, 3) := by decide +kernel
theorem dX3_mean_9 : decode cX3_mean 9 = .ok (.dconst 0, 1) := by decide +kernel
theorem dX3_mean_10 : decode cX3_mean 10 = .ok (.dreturn, 1) := by decide +kernel
theorem dX3_mean_11 : decode cX3_mean 11 = .ok (.iconst 0, 1) := by decide +kernel
theorem dX3_mean_12 : decode cX3_mean 12 = .ok (.istore_n 2, 1) := by decide +kernel
theorem dX3_mean_13 : decode cX3_mean 13 = .ok (.iconst 0, 1) := by decide +kernel
theorem dX3_mean_14 : decode cX3_mean 14 = .ok (.istore_n 3, 1) := by decide +kernel
theorem dX3_mean_15 : decode cX3_mean 15 = .ok (.iload_n 3, 1) := by decide +kernel
theorem dX3_mean_16 : decode cX3_mean 16 = .ok (.aload_n 0, 1) := by decide +kernel
theorem dX3_mean_17 : decode cX3_mean 17 = .ok (.getfield 75, 3) := by decide +kernel
theorem dX3_mean_20 : decode cX3_mean 20 = .ok (.if_icmp .ge 21, 3) := by decide +kernel
theorem dX3_mean_23 : decode cX3_mean 23 = .ok (.iload_n 2, 1) := by decide +kernel
theorem dX3_mean_24 : decode cX3_mean 24 = .ok (.aload_n 0, 1) := by decide +kernel
theorem dX3_mean_25 : decode cX3_mean 25 = .ok (.getfield 21, 3) := by decide +kernel
theorem dX3_mean_28 : decode cX3_mean 28 = .ok (.iload_n 3, 1) := by decide +kernel
theorem dX3_mean_29 : decode cX3_mean 29 = .ok (.aaload, 1) := by decide +kernel
theorem dX3_mean_30 : decode cX3_mean 30 = .ok (.invokevirtual 180, 3) := by decide +kernel
theorem dX3_mean_33 : decode cX3_mean 33 = .ok (.iadd, 1) := by decide +kernel
theorem dX3_mean_34 : decode cX3_mean 34 = .ok (.istore_n 2, 1) := by decide +kernel
theorem dX3_mean_35 : decode cX3_mean 35 = .ok (.iinc 3 1, 3) := by decide +kernel
theorem dX3_mean_38 : decode cX3_mean 38 = .ok (.goto (-23), 3) := by decide +kernel
theorem dX3_mean_41 : decode cX3_mean 41 = .ok (.iload_n 2, 1) := by decide +kernel
theorem dX3_mean_42 : decode cX3_mean 42 = .ok (.i2d, 1) := by decide +kernel
theorem dX3_mean_43 : decode cX3_mean 43 = .ok (.iload_n 1, 1) := by decide +kernel
theorem dX3_mean_44 : decode cX3_mean 44 = .ok (.i2d, 1) := by decide +kernel
theorem dX3_mean_45 : decode cX3_mean 45 = .ok (.ddiv, 1) := by decide +kernel
theorem dX3_mean_46 : decode cX3_mean 46 = .ok (.dreturn, 1) := by decide +kernel
set_option maxRecDepth 20000 in
theorem ggX3_passOneHour_X3_gustAt : GoodIn wsX3_passOneHour wsX3_gustAt := goodIn_r _ [9, 10, 11, 12, 13, 14, 45, 46, 47, 48, 49, 50, 51, 52, 53, 54, 55, 56] (by decide +kernel) (by decide +kernel)
set_option maxRecDepth 20000 in
theorem gX3_passOneHour_X3_gustAt : GoodIn wsX3_passOneHour (wsV RX3 196 RX3 yX3_gustAt wsX3_gustAt) := goodIn_app (goodIn_of _ (by decide +kernel)) ggX3_passOneHour_X3_gustAt
set_option maxRecDepth 20000 in
theorem ggX3_passOneHour_X2_travel : GoodIn wsX3_passOneHour wsX2_travel := goodIn_r _ [19, 20, 21, 22, 23, 18, 24, 25, 26, 27, 28, 29, 30, 31, 32, 33, 34, 35, 36, 8, 37, 38, 39, 40, 41, 42, 43, 44, 57, 58, 59, 60, 61, 62, 63] (by decide +kernel) (by decide +kernel)
set_option maxRecDepth 20000 in
theorem gX3_passOneHour_X2_travel : GoodIn wsX3_passOneHour (wsV RX3 220 RX2 yX2_travel wsX2_travel) := goodIn_app (goodIn_of _ (by decide +kernel)) ggX3_passOneHour_X2_travel
theorem dX3_passOneHour_0 : decode cX3_passOneHour 0 = .ok (.aload_n 0, 1) := by decide +kernel
theorem dX3_passOneHour_1 : decode cX3_passOneHour 1 = .ok (.aload_n 0, 1) := by decide +kernel
theorem dX3_passOneHour_2 : decode cX3_passOneHour 2 = .ok (.getfield 193, 3) := by decide +kernel
theorem dX3_passOneHour_5 : decode cX3_passOneHour 5 = .ok (.invokevirtual 196, 3) := by decide +kernel
theorem dX3_passOneHour_8 : decode cX3_passOneHour 8 = .ok (.istore_n 1, 1) := by decide +kernel
theorem dX3_passOneHour_9 : decode cX3_passOneHour 9 = .ok (.iconst 0, 1) := by decide +kernel
theorem dX3_passOneHour_10 : decode cX3_passOneHour 10 = .ok (.istore_n 2, 1) := by decide +kernel
theorem dX3_passOneHour_11 : decode cX3_passOneHour 11 = .ok (.iload_n 2, 1) := by decide +kernel
theorem dX3_passOneHour_12 : decode cX3_passOneHour 12 = .ok (.aload_n 0, 1) := by decide +kernel
theorem dX3_passOneHour_13 : decode cX3_passOneHour 13 = .ok (.getfield 75, 3) := by decide +kernel
theorem dX3_passOneHour_16 : decode cX3_passOneHour 16 = .ok (.if_icmp .ge 23, 3) := by decide +kernel
theorem dX3_passOneHour_19 : decode cX3_passOneHour 19 = .ok (.aload_n 0, 1) := by decide +kernel
theorem dX3_passOneHour_20 : decode cX3_passOneHour 20 = .ok (.getfield 21, 3) := by decide +kernel
theorem dX3_passOneHour_23 : decode cX3_passOneHour 23 = .ok (.iload_n 2, 1) := by decide +kernel
theorem dX3_passOneHour_24 : decode cX3_passOneHour 24 = .ok (.aaload, 1) := by decide +kernel
theorem dX3_passOneHour_25 : decode cX3_passOneHour 25 = .ok (.iload_n 1, 1) := by decide +kernel
theorem dX3_passOneHour_26 : decode cX3_passOneHour 26 = .ok (.aload_n 0, 1) := by decide +kernel
theorem dX3_passOneHour_27 : decode cX3_passOneHour 27 = .ok (.getfield 34, 3) := by decide +kernel
theorem dX3_passOneHour_30 : decode cX3_passOneHour 30 = .ok (.invokevirtual 220, 3) := by decide +kernel
theorem dX3_passOneHour_33 : decode cX3_passOneHour 33 = .ok (.iinc 2 1, 3) := by decide +kernel
theorem dX3_passOneHour_36 : decode cX3_passOneHour 36 = .ok (.goto (-25), 3) := by decide +kernel
theorem dX3_passOneHour_39 : decode cX3_passOneHour 39 = .ok (.aload_n 0, 1) := by decide +kernel
theorem dX3_passOneHour_40 : decode cX3_passOneHour 40 = .ok (.dup, 1) := by decide +kernel
theorem dX3_passOneHour_41 : decode cX3_passOneHour 41 = .ok (.getfield 193, 3) := by decide +kernel
theorem dX3_passOneHour_44 : decode cX3_passOneHour 44 = .ok (.iconst 1, 1) := by decide +kernel
theorem dX3_passOneHour_45 : decode cX3_passOneHour 45 = .ok (.iadd, 1) := by decide +kernel
theorem dX3_passOneHour_46 : decode cX3_passOneHour 46 = .ok (.putfield 193, 3) := by decide +kernel
theorem dX3_passOneHour_49 : decode cX3_passOneHour 49 = .ok (.return_, 1) := by decide +kernel
set_option maxRecDepth 20000 in
theorem ggX3_aboardBehind_X2_become : GoodIn wsX3_aboardBehind wsX2_become := goodIn_r _ [8, 9, 10, 11, 12, 13, 14, 15, 16, 17, 65, 66, 67, 68, 69] (by decide +kernel) (by decide +kernel)
set_option maxRecDepth 20000 in
theorem gX3_aboardBehind_X2_become : GoodIn wsX3_aboardBehind (wsV RX3 216 RX2 yX2_become wsX2_become) := goodIn_app (goodIn_of _ (by decide +kernel)) ggX3_aboardBehind_X2_become
set_option maxRecDepth 20000 in
theorem ggX3_aboardBehind_X3_gustAt : GoodIn wsX3_aboardBehind wsX3_gustAt := goodIn_r _ [22, 23, 24, 25, 26, 27, 53, 54, 55, 56, 57, 58, 59, 60, 61, 62, 63, 64] (by decide +kernel) (by decide +kernel)
set_option maxRecDepth 20000 in
theorem gX3_aboardBehind_X3_gustAt : GoodIn wsX3_aboardBehind (wsV RX3 196 RX3 yX3_gustAt wsX3_gustAt) := goodIn_app (goodIn_of _ (by decide +kernel)) ggX3_aboardBehind_X3_gustAt
set_option maxRecDepth 20000 in
theorem ggX3_aboardBehind_X2_travel : GoodIn wsX3_aboardBehind wsX2_travel := goodIn_r _ [31, 17, 32, 33, 34, 7, 35, 15, 16, 36, 37, 38, 39, 40, 41, 42, 43, 10, 44, 21, 45, 46, 47, 48, 49, 50, 51, 52, 65, 66, 67, 68, 69, 70, 71] (by decide +kernel) (by decide +kernel)
set_option maxRecDepth 20000 in
theorem gX3_aboardBehind_X2_travel : GoodIn wsX3_aboardBehind (wsV RX3 220 RX2 yX2_travel wsX2_travel) := goodIn_app (goodIn_of _ (by decide +kernel)) ggX3_aboardBehind_X2_travel
theorem dX3_aboardBehind_0 : decode cX3_aboardBehind 0 = .ok (.aload_n 0, 1) := by decide +kernel
theorem dX3_aboardBehind_1 : decode cX3_aboardBehind 1 = .ok (.getfield 39, 3) := by decide +kernel
theorem dX3_aboardBehind_4 : decode cX3_aboardBehind 4 = .ok (.aload_n 2, 1) := by decide +kernel
theorem dX3_aboardBehind_5 : decode cX3_aboardBehind 5 = .ok (.invokevirtual 216, 3) := by decide +kernel
theorem dX3_aboardBehind_8 : decode cX3_aboardBehind 8 = .ok (.iconst 0, 1) := by decide +kernel
theorem dX3_aboardBehind_9 : decode cX3_aboardBehind 9 = .ok (.istore_n 3, 1) := by decide +kernel
theorem dX3_aboardBehind_10 : decode cX3_aboardBehind 10 = .ok (.iload_n 3, 1) := by decide +kernel
theorem dX3_aboardBehind_11 : decode cX3_aboardBehind 11 = .ok (.iload_n 1, 1) := by decide +kernel
theorem dX3_aboardBehind_12 : decode cX3_aboardBehind 12 = .ok (.if_icmp .ge 30, 3) := by decide +kernel
theorem dX3_aboardBehind_15 : decode cX3_aboardBehind 15 = .ok (.aload_n 0, 1) := by decide +kernel
theorem dX3_aboardBehind_16 : decode cX3_aboardBehind 16 = .ok (.getfield 39, 3) := by decide +kernel
theorem dX3_aboardBehind_19 : decode cX3_aboardBehind 19 = .ok (.aload_n 0, 1) := by decide +kernel
theorem dX3_aboardBehind_20 : decode cX3_aboardBehind 20 = .ok (.aload_n 0, 1) := by decide +kernel
theorem dX3_aboardBehind_21 : decode cX3_aboardBehind 21 = .ok (.getfield 193, 3) := by decide +kernel
theorem dX3_aboardBehind_24 : decode cX3_aboardBehind 24 = .ok (.iload_n 3, 1) := by decide +kernel
theorem dX3_aboardBehind_25 : decode cX3_aboardBehind 25 = .ok (.iadd, 1) := by decide +kernel
theorem dX3_aboardBehind_26 : decode cX3_aboardBehind 26 = .ok (.invokevirtual 196, 3) := by decide +kernel
theorem dX3_aboardBehind_29 : decode cX3_aboardBehind 29 = .ok (.aload_n 0, 1) := by decide +kernel
theorem dX3_aboardBehind_30 : decode cX3_aboardBehind 30 = .ok (.getfield 43, 3) := by decide +kernel
theorem dX3_aboardBehind_33 : decode cX3_aboardBehind 33 = .ok (.invokevirtual 220, 3) := by decide +kernel
theorem dX3_aboardBehind_36 : decode cX3_aboardBehind 36 = .ok (.iinc 3 1, 3) := by decide +kernel
theorem dX3_aboardBehind_39 : decode cX3_aboardBehind 39 = .ok (.goto (-29), 3) := by decide +kernel
theorem dX3_aboardBehind_42 : decode cX3_aboardBehind 42 = .ok (.aload_n 0, 1) := by decide +kernel
theorem dX3_aboardBehind_43 : decode cX3_aboardBehind 43 = .ok (.getfield 39, 3) := by decide +kernel
theorem dX3_aboardBehind_46 : decode cX3_aboardBehind 46 = .ok (.getfield 116, 3) := by decide +kernel
theorem dX3_aboardBehind_49 : decode cX3_aboardBehind 49 = .ok (.ireturn, 1) := by decide +kernel
set_option maxRecDepth 20000 in
theorem ggX3_gustAt_J9_floorMod_7cf53 : GoodIn wsX3_gustAt wsJ9_floorMod_7cf53 := goodIn_r _ [5] (by decide +kernel) (by decide +kernel)
set_option maxRecDepth 20000 in
theorem gX3_gustAt_J9_floorMod_7cf53 : GoodIn wsX3_gustAt (va_wsS RX3 269 yJ9_floorMod_7cf53 wsJ9_floorMod_7cf53) := goodIn_app (goodIn_of _ (by decide +kernel)) ggX3_gustAt_J9_floorMod_7cf53
theorem dX3_gustAt_0 : decode cX3_gustAt 0 = .ok (.aload_n 0, 1) := by decide +kernel
theorem dX3_gustAt_1 : decode cX3_gustAt 1 = .ok (.getfield 16, 3) := by decide +kernel
theorem dX3_gustAt_4 : decode cX3_gustAt 4 = .ok (.iload_n 1, 1) := by decide +kernel
theorem dX3_gustAt_5 : decode cX3_gustAt 5 = .ok (.bipush 8, 2) := by decide +kernel
theorem dX3_gustAt_7 : decode cX3_gustAt 7 = .ok (.invokestatic 269, 3) := by decide +kernel
theorem dX3_gustAt_10 : decode cX3_gustAt 10 = .ok (.iaload, 1) := by decide +kernel
theorem dX3_gustAt_11 : decode cX3_gustAt 11 = .ok (.ireturn, 1) := by decide +kernel
theorem dX3_sacksAboard_0 : decode cX3_sacksAboard 0 = .ok (.iconst 0, 1) := by decide +kernel
theorem dX3_sacksAboard_1 : decode cX3_sacksAboard 1 = .ok (.istore_n 1, 1) := by decide +kernel
theorem dX3_sacksAboard_2 : decode cX3_sacksAboard 2 = .ok (.iconst 0, 1) := by decide +kernel
theorem dX3_sacksAboard_3 : decode cX3_sacksAboard 3 = .ok (.istore_n 2, 1) := by decide +kernel
theorem dX3_sacksAboard_4 : decode cX3_sacksAboard 4 = .ok (.iload_n 2, 1) := by decide +kernel
theorem dX3_sacksAboard_5 : decode cX3_sacksAboard 5 = .ok (.aload_n 0, 1) := by decide +kernel
theorem dX3_sacksAboard_6 : decode cX3_sacksAboard 6 = .ok (.getfield 75, 3) := by decide +kernel
theorem dX3_sacksAboard_9 : decode cX3_sacksAboard 9 = .ok (.if_icmp .ge 21, 3) := by decide +kernel
theorem dX3_sacksAboard_12 : decode cX3_sacksAboard 12 = .ok (.iload_n 1, 1) := by decide +kernel
theorem dX3_sacksAboard_13 : decode cX3_sacksAboard 13 = .ok (.aload_n 0, 1) := by decide +kernel
theorem dX3_sacksAboard_14 : decode cX3_sacksAboard 14 = .ok (.getfield 21, 3) := by decide +kernel
theorem dX3_sacksAboard_17 : decode cX3_sacksAboard 17 = .ok (.iload_n 2, 1) := by decide +kernel
theorem dX3_sacksAboard_18 : decode cX3_sacksAboard 18 = .ok (.aaload, 1) := by decide +kernel
theorem dX3_sacksAboard_19 : decode cX3_sacksAboard 19 = .ok (.getfield 116, 3) := by decide +kernel
theorem dX3_sacksAboard_22 : decode cX3_sacksAboard 22 = .ok (.iadd, 1) := by decide +kernel
theorem dX3_sacksAboard_23 : decode cX3_sacksAboard 23 = .ok (.istore_n 1, 1) := by decide +kernel
theorem dX3_sacksAboard_24 : decode cX3_sacksAboard 24 = .ok (.iinc 2 1, 3) := by decide +kernel
theorem dX3_sacksAboard_27 : decode cX3_sacksAboard 27 = .ok (.goto (-23), 3) := by decide +kernel
theorem dX3_sacksAboard_30 : decode cX3_sacksAboard 30 = .ok (.iload_n 1, 1) := by decide +kernel
theorem dX3_sacksAboard_31 : decode cX3_sacksAboard 31 = .ok (.ireturn, 1) := by decide +kernel
theorem dX3_allStones_0 : decode cX3_allStones 0 = .ok (.iconst 0, 1) := by decide +kernel
theorem dX3_allStones_1 : decode cX3_allStones 1 = .ok (.istore_n 1, 1) := by decide +kernel
theorem dX3_allStones_2 : decode cX3_allStones 2 = .ok (.iconst 0, 1) := by decide +kernel
theorem dX3_allStones_3 : decode cX3_allStones 3 = .ok (.istore_n 2, 1) := by decide +kernel
theorem dX3_allStones_4 : decode cX3_allStones 4 = .ok (.iload_n 2, 1) := by decide +kernel
theorem dX3_allStones_5 : decode cX3_allStones 5 = .ok (.iconst 5, 1) := by decide +kernel
theorem dX3_allStones_6 : decode cX3_allStones 6 = .ok (.if_icmp .ge 18, 3) := by decide +kernel
theorem dX3_allStones_9 : decode cX3_allStones 9 = .ok (.iload_n 1, 1) := by decide +kernel
theorem dX3_allStones_10 : decode cX3_allStones 10 = .ok (.aload_n 0, 1) := by decide +kernel
theorem dX3_allStones_11 : decode cX3_allStones 11 = .ok (.getfield 9, 3) := by decide +kernel
theorem dX3_allStones_14 : decode cX3_allStones 14 = .ok (.iload_n 2, 1) := by decide +kernel
theorem dX3_allStones_15 : decode cX3_allStones 15 = .ok (.iaload, 1) := by decide +kernel
theorem dX3_allStones_16 : decode cX3_allStones 16 = .ok (.iadd, 1) := by decide +kernel
theorem dX3_allStones_17 : decode cX3_allStones 17 = .ok (.istore_n 1, 1) := by decide +kernel
theorem dX3_allStones_18 : decode cX3_allStones 18 = .ok (.iinc 2 1, 3) := by decide +kernel
theorem dX3_allStones_21 : decode cX3_allStones 21 = .ok (.goto (-17), 3) := by decide +kernel
theorem dX3_allStones_24 : decode cX3_allStones 24 = .ok (.iload_n 1, 1) := by decide +kernel
theorem dX3_allStones_25 : decode cX3_allStones 25 = .ok (.ireturn, 1) := by decide +kernel
theorem dX3_sackWeight_0 : decode cX3_sackWeight 0 = .ok (.bipush 10, 2) := by decide +kernel
theorem dX3_sackWeight_2 : decode cX3_sackWeight 2 = .ok (.aload_n 0, 1) := by decide +kernel
theorem dX3_sackWeight_3 : decode cX3_sackWeight 3 = .ok (.getfield 13, 3) := by decide +kernel
theorem dX3_sackWeight_6 : decode cX3_sackWeight 6 = .ok (.iload_n 1, 1) := by decide +kernel
theorem dX3_sackWeight_7 : decode cX3_sackWeight 7 = .ok (.iaload, 1) := by decide +kernel
theorem dX3_sackWeight_8 : decode cX3_sackWeight 8 = .ok (.imul, 1) := by decide +kernel
theorem dX3_sackWeight_9 : decode cX3_sackWeight 9 = .ok (.ireturn, 1) := by decide +kernel
theorem dX3_isSledge_0 : decode cX3_isSledge 0 = .ok (.iload_n 1, 1) := by decide +kernel
theorem dX3_isSledge_1 : decode cX3_isSledge 1 = .ok (.ifCond .lt 15, 3) := by decide +kernel
theorem dX3_isSledge_4 : decode cX3_isSledge 4 = .ok (.iload_n 1, 1) := by decide +kernel
theorem dX3_isSledge_5 : decode cX3_isSledge 5 = .ok (.aload_n 0, 1) := by decide +kernel
theorem dX3_isSledge_6 : decode cX3_isSledge 6 = .ok (.getfield 75, 3) := by decide +kernel
theorem dX3_isSledge_9 : decode cX3_isSledge 9 = .ok (.if_icmp .ge 7, 3) := by decide +kernel
theorem dX3_isSledge_12 : decode cX3_isSledge 12 = .ok (.iconst 1, 1) := by decide +kernel
theorem dX3_isSledge_13 : decode cX3_isSledge 13 = .ok (.goto 4, 3) := by decide +kernel
theorem dX3_isSledge_16 : decode cX3_isSledge 16 = .ok (.iconst 0, 1) := by decide +kernel
theorem dX3_isSledge_17 : decode cX3_isSledge 17 = .ok (.ireturn, 1) := by decide +kernel
theorem dX3_isBoat_0 : decode cX3_isBoat 0 = .ok (.iload_n 1, 1) := by decide +kernel
theorem dX3_isBoat_1 : decode cX3_isBoat 1 = .ok (.ifCond .lt 15, 3) := by decide +kernel
theorem dX3_isBoat_4 : decode cX3_isBoat 4 = .ok (.iload_n 1, 1) := by decide +kernel
theorem dX3_isBoat_5 : decode cX3_isBoat 5 = .ok (.aload_n 0, 1) := by decide +kernel
theorem dX3_isBoat_6 : decode cX3_isBoat 6 = .ok (.getfield 121, 3) := by decide +kernel
theorem dX3_isBoat_9 : decode cX3_isBoat 9 = .ok (.if_icmp .ge 7, 3) := by decide +kernel
theorem dX3_isBoat_12 : decode cX3_isBoat 12 = .ok (.iconst 1, 1) := by decide +kernel
theorem dX3_isBoat_13 : decode cX3_isBoat 13 = .ok (.goto 4, 3) := by decide +kernel
theorem dX3_isBoat_16 : decode cX3_isBoat 16 = .ok (.iconst 0, 1) := by decide +kernel
theorem dX3_isBoat_17 : decode cX3_isBoat 17 = .ok (.ireturn, 1) := by decide +kernel
set_option maxRecDepth 20000 in
theorem ggX3_isLayer_X3_isWithin : GoodIn wsX3_isLayer wsX3_isWithin := goodIn_r _ [4] (by decide +kernel) (by decide +kernel)
set_option maxRecDepth 20000 in
theorem gX3_isLayer_X3_isWithin : GoodIn wsX3_isLayer (va_wsS RX3 58 yX3_isWithin wsX3_isWithin) := goodIn_app (goodIn_of _ (by decide +kernel)) ggX3_isLayer_X3_isWithin
theorem dX3_isLayer_0 : decode cX3_isLayer 0 = .ok (.iload_n 0, 1) := by decide +kernel
theorem dX3_isLayer_1 : decode cX3_isLayer 1 = .ok (.iconst 0, 1) := by decide +kernel
theorem dX3_isLayer_2 : decode cX3_isLayer 2 = .ok (.iconst 4, 1) := by decide +kernel
theorem dX3_isLayer_3 : decode cX3_isLayer 3 = .ok (.invokestatic 58, 3) := by decide +kernel
theorem dX3_isLayer_6 : decode cX3_isLayer 6 = .ok (.ireturn, 1) := by decide +kernel
set_option maxRecDepth 20000 in
theorem ggX3_isKind_X3_isWithin : GoodIn wsX3_isKind wsX3_isWithin := goodIn_r _ [4] (by decide +kernel) (by decide +kernel)
set_option maxRecDepth 20000 in
theorem gX3_isKind_X3_isWithin : GoodIn wsX3_isKind (va_wsS RX3 58 yX3_isWithin wsX3_isWithin) := goodIn_app (goodIn_of _ (by decide +kernel)) ggX3_isKind_X3_isWithin
theorem dX3_isKind_0 : decode cX3_isKind 0 = .ok (.iload_n 0, 1) := by decide +kernel
theorem dX3_isKind_1 : decode cX3_isKind 1 = .ok (.iconst 0, 1) := by decide +kernel
theorem dX3_isKind_2 : decode cX3_isKind 2 = .ok (.iconst 2, 1) := by decide +kernel
theorem dX3_isKind_3 : decode cX3_isKind 3 = .ok (.invokestatic 58, 3) := by decide +kernel
theorem dX3_isKind_6 : decode cX3_isKind 6 = .ok (.ireturn, 1) := by decide +kernel
theorem dX3_isWithin_0 : decode cX3_isWithin 0 = .ok (.iload_n 0, 1) := by decide +kernel
theorem dX3_isWithin_1 : decode cX3_isWithin 1 = .ok (.iload_n 1, 1) := by decide +kernel
theorem dX3_isWithin_2 : decode cX3_isWithin 2 = .ok (.if_icmp .lt 12, 3) := by decide +kernel
theorem dX3_isWithin_5 : decode cX3_isWithin 5 = .ok (.iload_n 0, 1) := by decide +kernel
theorem dX3_isWithin_6 : decode cX3_isWithin 6 = .ok (.iload_n 2, 1) := by decide +kernel
theorem dX3_isWithin_7 : decode cX3_isWithin 7 = .ok (.if_icmp .gt 7, 3) := by decide +kernel
theorem dX3_isWithin_10 : decode cX3_isWithin 10 = .ok (.iconst 1, 1) := by decide +kernel
theorem dX3_isWithin_11 : decode cX3_isWithin 11 = .ok (.goto 4, 3) := by decide +kernel
theorem dX3_isWithin_14 : decode cX3_isWithin 14 = .ok (.iconst 0, 1) := by decide +kernel
theorem dX3_isWithin_15 : decode cX3_isWithin 15 = .ok (.ireturn, 1) := by decide +kernel
theorem dX3_kindOf_0 : decode cX3_kindOf 0 = .ok (.iload_n 0, 1) := by decide +kernel
theorem dX3_kindOf_1 : decode cX3_kindOf 1 = .ok (.bipush 30, 2) := by decide +kernel
theorem dX3_kindOf_3 : decode cX3_kindOf 3 = .ok (.if_icmp .gt 5, 3) := by decide +kernel
theorem dX3_kindOf_6 : decode cX3_kindOf 6 = .ok (.iconst 2, 1) := by decide +kernel
theorem dX3_kindOf_7 : decode cX3_kindOf 7 = .ok (.ireturn, 1) := by decide +kernel
theorem dX3_kindOf_8 : decode cX3_kindOf 8 = .ok (.iload_n 0, 1) := by decide +kernel
theorem dX3_kindOf_9 : decode cX3_kindOf 9 = .ok (.bipush 60, 2) := by decide +kernel
theorem dX3_kindOf_11 : decode cX3_kindOf 11 = .ok (.if_icmp .gt 7, 3) := by decide +kernel
theorem dX3_kindOf_14 : decode cX3_kindOf 14 = .ok (.iconst 1, 1) := by decide +kernel
theorem dX3_kindOf_15 : decode cX3_kindOf 15 = .ok (.goto 4, 3) := by decide +kernel
theorem dX3_kindOf_18 : decode cX3_kindOf 18 = .ok (.iconst 0, 1) := by decide +kernel
theorem dX3_kindOf_19 : decode cX3_kindOf 19 = .ok (.ireturn, 1) := by decide +kernel
theorem dX3_stowedWeight_0 : decode cX3_stowedWeight 0 = .ok (.iload_n 0, 1) := by decide +kernel
theorem dX3_stowedWeight_1 : decode cX3_stowedWeight 1 = .ok (.lookupswitch 33 #[(1, 30), (2, 27)], 27) := by decide +kernel
theorem dX3_stowedWeight_28 : decode cX3_stowedWeight 28 = .ok (.bipush 20, 2) := by decide +kernel
theorem dX3_stowedWeight_30 : decode cX3_stowedWeight 30 = .ok (.ireturn, 1) := by decide +kernel
theorem dX3_stowedWeight_31 : decode cX3_stowedWeight 31 = .ok (.bipush 50, 2) := by decide +kernel
theorem dX3_stowedWeight_33 : decode cX3_stowedWeight 33 = .ok (.ireturn, 1) := by decide +kernel
theorem dX3_stowedWeight_34 : decode cX3_stowedWeight 34 = .ok (.bipush 80, 2) := by decide +kernel
theorem dX3_stowedWeight_36 : decode cX3_stowedWeight 36 = .ok (.ireturn, 1) := by decide +kernel
theorem dX3_depthOf_0 : decode cX3_depthOf 0 = .ok (.iload_n 0, 1) := by decide +kernel
theorem dX3_depthOf_1 : decode cX3_depthOf 1 = .ok (.iload_n 1, 1) := by decide +kernel
theorem dX3_depthOf_2 : decode cX3_depthOf 2 = .ok (.iadd, 1) := by decide +kernel
theorem dX3_depthOf_3 : decode cX3_depthOf 3 = .ok (.bipush 50, 2) := by decide +kernel
theorem dX3_depthOf_5 : decode cX3_depthOf 5 = .ok (.idiv, 1) := by decide +kernel
theorem dX3_depthOf_6 : decode cX3_depthOf 6 = .ok (.iload_n 0, 1) := by decide +kernel
theorem dX3_depthOf_7 : decode cX3_depthOf 7 = .ok (.iload_n 1, 1) := by decide +kernel
theorem dX3_depthOf_8 : decode cX3_depthOf 8 = .ok (.isub, 1) := by decide +kernel
theorem dX3_depthOf_9 : decode cX3_depthOf 9 = .ok (.invokestatic 274, 3) := by decide +kernel
theorem dX3_depthOf_12 : decode cX3_depthOf 12 = .ok (.bipush 40, 2) := by decide +kernel
theorem dX3_depthOf_14 : decode cX3_depthOf 14 = .ok (.idiv, 1) := by decide +kernel
theorem dX3_depthOf_15 : decode cX3_depthOf 15 = .ok (.iadd, 1) := by decide +kernel
theorem dX3_depthOf_16 : decode cX3_depthOf 16 = .ok (.ireturn, 1) := by decide +kernel

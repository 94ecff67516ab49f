theorem dX4_init_0 : decode cX4_init 0 = .ok (.aload_n 0, 1) := by decide +kernel
theorem dX4_init_1 : decode cX4_init 1 = .ok (.invokespecial 3, 3) := by decide +kernel
theorem dX4_init_4 : decode cX4_init 4 = .ok (.aload_n 0, 1) := by decide +kernel
theorem dX4_init_5 : decode cX4_init 5 = .ok (.iconst 5, 1) := by decide +kernel
theorem dX4_init_6 : decode cX4_init 6 = .ok (.newarray .int, 2) := by decide +kernel
theorem dX4_init_8 : decode cX4_init 8 = .ok (.dup, 1) := by decide +kernel
theorem dX4_init_9 : decode cX4_init 9 = .ok (.iconst 0, 1) := by decide +kernel
theorem dX4_init_10 : decode cX4_init 10 = .ok (.bipush 100, 2) := by decide +kernel
theorem dX4_init_12 : decode cX4_init 12 = .ok (.iastore, 1) := by decide +kernel
theorem dX4_init_13 : decode cX4_init 13 = .ok (.dup, 1) := by decide +kernel
theorem dX4_init_14 : decode cX4_init 14 = .ok (.iconst 1, 1) := by decide +kernel
theorem dX4_init_15 : decode cX4_init 15 = .ok (.bipush 100, 2) := by decide +kernel
theorem dX4_init_17 : decode cX4_init 17 = .ok (.iastore, 1) := by decide +kernel
theorem dX4_init_18 : decode cX4_init 18 = .ok (.dup, 1) := by decide +kernel
theorem dX4_init_19 : decode cX4_init 19 = .ok (.iconst 2, 1) := by decide +kernel
theorem dX4_init_20 : decode cX4_init 20 = .ok (.bipush 100, 2) := by decide +kernel
theorem dX4_init_22 : decode cX4_init 22 = .ok (.iastore, 1) := by decide +kernel
theorem dX4_init_23 : decode cX4_init 23 = .ok (.dup, 1) := by decide +kernel
theorem dX4_init_24 : decode cX4_init 24 = .ok (.iconst 3, 1) := by decide +kernel
theorem dX4_init_25 : decode cX4_init 25 = .ok (.bipush 100, 2) := by decide +kernel
theorem dX4_init_27 : decode cX4_init 27 = .ok (.iastore, 1) := by decide +kernel
theorem dX4_init_28 : decode cX4_init 28 = .ok (.dup, 1) := by decide +kernel
theorem dX4_init_29 : decode cX4_init 29 = .ok (.iconst 4, 1) := by decide +kernel
theorem dX4_init_30 : decode cX4_init 30 = .ok (.bipush 100, 2) := by decide +kernel
theorem dX4_init_32 : decode cX4_init 32 = .ok (.iastore, 1) := by decide +kernel
theorem dX4_init_33 : decode cX4_init 33 = .ok (.putfield 9, 3) := by decide +kernel
theorem dX4_init_36 : decode cX4_init 36 = .ok (.aload_n 0, 1) := by decide +kernel
theorem dX4_init_37 : decode cX4_init 37 = .ok (.iconst 5, 1) := by decide +kernel
theorem dX4_init_38 : decode cX4_init 38 = .ok (.newarray .int, 2) := by decide +kernel
theorem dX4_init_40 : decode cX4_init 40 = .ok (.dup, 1) := by decide +kernel
theorem dX4_init_41 : decode cX4_init 41 = .ok (.iconst 0, 1) := by decide +kernel
theorem dX4_init_42 : decode cX4_init 42 = .ok (.iconst 5, 1) := by decide +kernel
theorem dX4_init_43 : decode cX4_init 43 = .ok (.iastore, 1) := by decide +kernel
theorem dX4_init_44 : decode cX4_init 44 = .ok (.dup, 1) := by decide +kernel
theorem dX4_init_45 : decode cX4_init 45 = .ok (.iconst 1, 1) := by decide +kernel
theorem dX4_init_46 : decode cX4_init 46 = .ok (.iconst 5, 1) := by decide +kernel
theorem dX4_init_47 : decode cX4_init 47 = .ok (.iastore, 1) := by decide +kernel
theorem dX4_init_48 : decode cX4_init 48 = .ok (.dup, 1) := by decide +kernel
theorem dX4_init_49 : decode cX4_init 49 = .ok (.iconst 2, 1) := by decide +kernel
theorem dX4_init_50 : decode cX4_init 50 = .ok (.iconst 5, 1) := by decide +kernel
theorem dX4_init_51 : decode cX4_init 51 = .ok (.iastore, 1) := by decide +kernel
theorem dX4_init_52 : decode cX4_init 52 = .ok (.dup, 1) := by decide +kernel
theorem dX4_init_53 : decode cX4_init 53 = .ok (.iconst 3, 1) := by decide +kernel
theorem dX4_init_54 : decode cX4_init 54 = .ok (.iconst 5, 1) := by decide +kernel
theorem dX4_init_55 : decode cX4_init 55 = .ok (.iastore, 1) := by decide +kernel
theorem dX4_init_56 : decode cX4_init 56 = .ok (.dup, 1) := by decide +kernel
theorem dX4_init_57 : decode cX4_init 57 = .ok (.iconst 4, 1) := by decide +kernel
theorem dX4_init_58 : decode cX4_init 58 = .ok (.iconst 5, 1) := by decide +kernel
theorem dX4_init_59 : decode cX4_init 59 = .ok (.iastore, 1) := by decide +kernel
theorem dX4_init_60 : decode cX4_init 60 = .ok (.putfield 13, 3) := by decide +kernel
theorem dX4_init_63 : decode cX4_init 63 = .ok (.aload_n 0, 1) := by decide +kernel
theorem dX4_init_64 : decode cX4_init 64 = .ok (.bipush 8, 2) := by decide +kernel
theorem dX4_init_66 : decode cX4_init 66 = .ok (.newarray .int, 2) := by decide +kernel
theorem dX4_init_68 : decode cX4_init 68 = .ok (.putfield 16, 3) := by decide +kernel
theorem dX4_init_71 : decode cX4_init 71 = .ok (.aload_n 0, 1) := by decide +kernel
theorem dX4_init_72 : decode cX4_init 72 = .ok (.bipush 72, 2) := by decide +kernel
theorem dX4_init_74 : decode cX4_init 74 = .ok (.newarray .int, 2) := by decide +kernel
theorem dX4_init_76 : decode cX4_init 76 = .ok (.putfield 19, 3) := by decide +kernel
theorem dX4_init_79 : decode cX4_init 79 = .ok (.aload_n 0, 1) := by decide +kernel
theorem dX4_init_80 : decode cX4_init 80 = .ok (.bipush 12, 2) := by decide +kernel
theorem dX4_init_82 : decode cX4_init 82 = .ok (.newarray .int, 2) := by decide +kernel
theorem dX4_init_84 : decode cX4_init 84 = .ok (.putfield 22, 3) := by decide +kernel
theorem dX4_init_87 : decode cX4_init 87 = .ok (.aload_n 0, 1) := by decide +kernel
theorem dX4_init_88 : decode cX4_init 88 = .ok (.bipush 6, 2) := by decide +kernel
theorem dX4_init_90 : decode cX4_init 90 = .ok (.newarray .int, 2) := by decide +kernel
theorem dX4_init_92 : decode cX4_init 92 = .ok (.putfield 25, 3) := by decide +kernel
theorem dX4_init_95 : decode cX4_init 95 = .ok (.return_, 1) := by decide +kernel
theorem dX4_thrown_0 : decode cX4_thrown 0 = .ok (.aload_n 0, 1) := by decide +kernel
theorem dX4_thrown_1 : decode cX4_thrown 1 = .ok (.getfield 28, 3) := by decide +kernel
theorem dX4_thrown_4 : decode cX4_thrown 4 = .ok (.ireturn, 1) := by decide +kernel
theorem dX4_fail_0 : decode cX4_fail 0 = .ok (.aload_n 0, 1) := by decide +kernel
theorem dX4_fail_1 : decode cX4_fail 1 = .ok (.iload_n 1, 1) := by decide +kernel
theorem dX4_fail_2 : decode cX4_fail 2 = .ok (.putfield 28, 3) := by decide +kernel
theorem dX4_fail_5 : decode cX4_fail 5 = .ok (.iconst 0, 1) := by decide +kernel
theorem dX4_fail_6 : decode cX4_fail 6 = .ok (.ireturn, 1) := by decide +kernel
theorem dX4_isIn_0 : decode cX4_isIn 0 = .ok (.iload_n 0, 1) := by decide +kernel
theorem dX4_isIn_1 : decode cX4_isIn 1 = .ok (.iload_n 1, 1) := by decide +kernel
theorem dX4_isIn_2 : decode cX4_isIn 2 = .ok (.if_icmp .lt 12, 3) := by decide +kernel
theorem dX4_isIn_5 : decode cX4_isIn 5 = .ok (.iload_n 0, 1) := by decide +kernel
theorem dX4_isIn_6 : decode cX4_isIn 6 = .ok (.iload_n 2, 1) := by decide +kernel
theorem dX4_isIn_7 : decode cX4_isIn 7 = .ok (.if_icmp .gt 7, 3) := by decide +kernel
theorem dX4_isIn_10 : decode cX4_isIn 10 = .ok (.iconst 1, 1) := by decide +kernel
theorem dX4_isIn_11 : decode cX4_isIn 11 = .ok (.goto 4, 3) := by decide +kernel
theorem dX4_isIn_14 : decode cX4_isIn 14 = .ok (.iconst 0, 1) := by decide +kernel
theorem dX4_isIn_15 : decode cX4_isIn 15 = .ok (.ireturn, 1) := by decide +kernel
set_option maxRecDepth 20000 in
theorem ggX4_isSledge_X4_isIn : GoodIn wsX4_isSledge wsX4_isIn := goodIn_r _ [5] (by decide +kernel) (by decide +kernel)
set_option maxRecDepth 20000 in
theorem gX4_isSledge_X4_isIn : GoodIn wsX4_isSledge (va_wsS RX4 35 yX4_isIn wsX4_isIn) := goodIn_app (goodIn_of _ (by decide +kernel)) ggX4_isSledge_X4_isIn
theorem dX4_isSledge_0 : decode cX4_isSledge 0 = .ok (.iload_n 1, 1) := by decide +kernel
theorem dX4_isSledge_1 : decode cX4_isSledge 1 = .ok (.iconst 0, 1) := by decide +kernel
theorem dX4_isSledge_2 : decode cX4_isSledge 2 = .ok (.aload_n 0, 1) := by decide +kernel
theorem dX4_isSledge_3 : decode cX4_isSledge 3 = .ok (.getfield 32, 3) := by decide +kernel
theorem dX4_isSledge_6 : decode cX4_isSledge 6 = .ok (.iconst 1, 1) := by decide +kernel
theorem dX4_isSledge_7 : decode cX4_isSledge 7 = .ok (.isub, 1) := by decide +kernel
theorem dX4_isSledge_8 : decode cX4_isSledge 8 = .ok (.invokestatic 35, 3) := by decide +kernel
theorem dX4_isSledge_11 : decode cX4_isSledge 11 = .ok (.ireturn, 1) := by decide +kernel
set_option maxRecDepth 20000 in
theorem ggX4_isBoat_X4_isIn : GoodIn wsX4_isBoat wsX4_isIn := goodIn_r _ [5] (by decide +kernel) (by decide +kernel)
set_option maxRecDepth 20000 in
theorem gX4_isBoat_X4_isIn : GoodIn wsX4_isBoat (va_wsS RX4 35 yX4_isIn wsX4_isIn) := goodIn_app (goodIn_of _ (by decide +kernel)) ggX4_isBoat_X4_isIn
theorem dX4_isBoat_0 : decode cX4_isBoat 0 = .ok (.iload_n 1, 1) := by decide +kernel
theorem dX4_isBoat_1 : decode cX4_isBoat 1 = .ok (.iconst 0, 1) := by decide +kernel
theorem dX4_isBoat_2 : decode cX4_isBoat 2 = .ok (.aload_n 0, 1) := by decide +kernel
theorem dX4_isBoat_3 : decode cX4_isBoat 3 = .ok (.getfield 39, 3) := by decide +kernel
theorem dX4_isBoat_6 : decode cX4_isBoat 6 = .ok (.iconst 1, 1) := by decide +kernel
theorem dX4_isBoat_7 : decode cX4_isBoat 7 = .ok (.isub, 1) := by decide +kernel
theorem dX4_isBoat_8 : decode cX4_isBoat 8 = .ok (.invokestatic 35, 3) := by decide +kernel
theorem dX4_isBoat_11 : decode cX4_isBoat 11 = .ok (.ireturn, 1) := by decide +kernel
set_option maxRecDepth 20000 in
theorem ggX4_isLayer_X4_isIn : GoodIn wsX4_isLayer wsX4_isIn := goodIn_r _ [4] (by decide +kernel) (by decide +kernel)
set_option maxRecDepth 20000 in
theorem gX4_isLayer_X4_isIn : GoodIn wsX4_isLayer (va_wsS RX4 35 yX4_isIn wsX4_isIn) := goodIn_app (goodIn_of _ (by decide +kernel)) ggX4_isLayer_X4_isIn
theorem dX4_isLayer_0 : decode cX4_isLayer 0 = .ok (.iload_n 0, 1) := by decide +kernel
theorem dX4_isLayer_1 : decode cX4_isLayer 1 = .ok (.iconst 0, 1) := by decide +kernel
theorem dX4_isLayer_2 : decode cX4_isLayer 2 = .ok (.iconst 4, 1) := by decide +kernel
theorem dX4_isLayer_3 : decode cX4_isLayer 3 = .ok (.invokestatic 35, 3) := by decide +kernel
theorem dX4_isLayer_6 : decode cX4_isLayer 6 = .ok (.ireturn, 1) := by decide +kernel
theorem dX4_sl_0 : decode cX4_sl 0 = .ok (.aload_n 0, 1) := by decide +kernel
theorem dX4_sl_1 : decode cX4_sl 1 = .ok (.getfield 19, 3) := by decide +kernel
theorem dX4_sl_4 : decode cX4_sl 4 = .ok (.bipush 12, 2) := by decide +kernel
theorem dX4_sl_6 : decode cX4_sl 6 = .ok (.iload_n 1, 1) := by decide +kernel
theorem dX4_sl_7 : decode cX4_sl 7 = .ok (.imul, 1) := by decide +kernel
theorem dX4_sl_8 : decode cX4_sl 8 = .ok (.iload_n 2, 1) := by decide +kernel
theorem dX4_sl_9 : decode cX4_sl 9 = .ok (.iadd, 1) := by decide +kernel
theorem dX4_sl_10 : decode cX4_sl 10 = .ok (.iaload, 1) := by decide +kernel
theorem dX4_sl_11 : decode cX4_sl 11 = .ok (.ireturn, 1) := by decide +kernel
theorem dX4_put_0 : decode cX4_put 0 = .ok (.aload_n 0, 1) := by decide +kernel
theorem dX4_put_1 : decode cX4_put 1 = .ok (.getfield 19, 3) := by decide +kernel
theorem dX4_put_4 : decode cX4_put 4 = .ok (.bipush 12, 2) := by decide +kernel
theorem dX4_put_6 : decode cX4_put 6 = .ok (.iload_n 1, 1) := by decide +kernel
theorem dX4_put_7 : decode cX4_put 7 = .ok (.imul, 1) := by decide +kernel
theorem dX4_put_8 : decode cX4_put 8 = .ok (.iload_n 2, 1) := by decide +kernel
theorem dX4_put_9 : decode cX4_put 9 = .ok (.iadd, 1) := by decide +kernel
theorem dX4_put_10 : decode cX4_put 10 = .ok (.iload_n 3, 1) := by decide +kernel
theorem dX4_put_11 : decode cX4_put 11 = .ok (.iastore, 1) := by decide +kernel
theorem dX4_put_12 : decode cX4_put 12 = .ok (.return_, 1) := by decide +kernel
theorem dX4_bo_0 : decode cX4_bo 0 = .ok (.aload_n 0, 1) := by decide +kernel
theorem dX4_bo_1 : decode cX4_bo 1 = .ok (.getfield 22, 3) := by decide +kernel
theorem dX4_bo_4 : decode cX4_bo 4 = .ok (.iconst 3, 1) := by decide +kernel
theorem dX4_bo_5 : decode cX4_bo 5 = .ok (.iload_n 1, 1) := by decide +kernel
theorem dX4_bo_6 : decode cX4_bo 6 = .ok (.imul, 1) := by decide +kernel
theorem dX4_bo_7 : decode cX4_bo 7 = .ok (.iload_n 2, 1) := by decide +kernel
theorem dX4_bo_8 : decode cX4_bo 8 = .ok (.iadd, 1) := by decide +kernel
theorem dX4_bo_9 : decode cX4_bo 9 = .ok (.iaload, 1) := by decide +kernel
theorem dX4_bo_10 : decode cX4_bo 10 = .ok (.ireturn, 1) := by decide +kernel
set_option maxRecDepth 20000 in
theorem ggX4_set_X4_isLayer : GoodIn wsX4_set wsX4_isLayer := goodIn_r _ [7, 8, 9, 6, 10] (by decide +kernel) (by decide +kernel)
set_option maxRecDepth 20000 in
theorem gX4_set_X4_isLayer : GoodIn wsX4_set (va_wsS RX4 42 yX4_isLayer wsX4_isLayer) := goodIn_app (goodIn_of _ (by decide +kernel)) ggX4_set_X4_isLayer
set_option maxRecDepth 20000 in
theorem ggX4_set_X4_fail : GoodIn wsX4_set wsX4_fail := goodIn_r _ [14, 1, 15, 16, 17, 18, 19, 20, 21, 22, 23] (by decide +kernel) (by decide +kernel)
set_option maxRecDepth 20000 in
theorem gX4_set_X4_fail : GoodIn wsX4_set (wsV RX4 46 RX4 yX4_fail wsX4_fail) := goodIn_app (goodIn_of _ (by decide +kernel)) ggX4_set_X4_fail
set_option maxRecDepth 20000 in
theorem ggX4_set_X4_isIn : GoodIn wsX4_set wsX4_isIn := goodIn_r _ [10] (by decide +kernel) (by decide +kernel)
set_option maxRecDepth 20000 in
theorem gX4_set_X4_isIn : GoodIn wsX4_set (va_wsS RX4 35 yX4_isIn wsX4_isIn) := goodIn_app (goodIn_of _ (by decide +kernel)) ggX4_set_X4_isIn
theorem dX4_set_0 : decode cX4_set 0 = .ok (.aload_n 0, 1) := by decide +kernel
theorem dX4_set_1 : decode cX4_set 1 = .ok (.iconst 0, 1) := by decide +kernel
theorem dX4_set_2 : decode cX4_set 2 = .ok (.putfield 28, 3) := by decide +kernel
theorem dX4_set_5 : decode cX4_set 5 = .ok (.iload_n 1, 1) := by decide +kernel
theorem dX4_set_6 : decode cX4_set 6 = .ok (.invokestatic 42, 3) := by decide +kernel
theorem dX4_set_9 : decode cX4_set 9 = .ok (.ifCond .ne 9, 3) := by decide +kernel
theorem dX4_set_12 : decode cX4_set 12 = .ok (.aload_n 0, 1) := by decide +kernel
theorem dX4_set_13 : decode cX4_set 13 = .ok (.iconst 1, 1) := by decide +kernel
theorem dX4_set_14 : decode cX4_set 14 = .ok (.invokevirtual 46, 3) := by decide +kernel
theorem dX4_set_17 : decode cX4_set 17 = .ok (.ireturn, 1) := by decide +kernel
theorem dX4_set_18 : decode cX4_set 18 = .ok (.iload_n 2, 1) := by decide +kernel
theorem dX4_set_19 : decode cX4_set 19 = .ok (.iconst 0, 1) := by decide +kernel
theorem dX4_set_20 : decode cX4_set 20 = .ok (.sipush 500, 3) := by decide +kernel
theorem dX4_set_23 : decode cX4_set 23 = .ok (.invokestatic 35, 3) := by decide +kernel
theorem dX4_set_26 : decode cX4_set 26 = .ok (.ifCond .eq 13, 3) := by decide +kernel
theorem dX4_set_29 : decode cX4_set 29 = .ok (.iload_n 3, 1) := by decide +kernel
theorem dX4_set_30 : decode cX4_set 30 = .ok (.iconst 1, 1) := by decide +kernel
theorem dX4_set_31 : decode cX4_set 31 = .ok (.bipush 9, 2) := by decide +kernel
theorem dX4_set_33 : decode cX4_set 33 = .ok (.invokestatic 35, 3) := by decide +kernel
theorem dX4_set_36 : decode cX4_set 36 = .ok (.ifCond .ne 9, 3) := by decide +kernel
theorem dX4_set_39 : decode cX4_set 39 = .ok (.aload_n 0, 1) := by decide +kernel
theorem dX4_set_40 : decode cX4_set 40 = .ok (.iconst 2, 1) := by decide +kernel
theorem dX4_set_41 : decode cX4_set 41 = .ok (.invokevirtual 46, 3) := by decide +kernel
theorem dX4_set_44 : decode cX4_set 44 = .ok (.ireturn, 1) := by decide +kernel
theorem dX4_set_45 : decode cX4_set 45 = .ok (.bipush 10, 2) := by decide +kernel
theorem dX4_set_47 : decode cX4_set 47 = .ok (.aload_n 0, 1) := by decide +kernel
theorem dX4_set_48 : decode cX4_set 48 = .ok (.getfield 9, 3) := by decide +kernel
theorem dX4_set_51 : decode cX4_set 51 = .ok (.iload_n 1, 1) := by decide +kernel
theorem dX4_set_52 : decode cX4_set 52 = .ok (.iaload, 1) := by decide +kernel
theorem dX4_set_53 : decode cX4_set 53 = .ok (.imul, 1) := by decide +kernel
theorem dX4_set_54 : decode cX4_set 54 = .ok (.aload_n 0, 1) := by decide +kernel
theorem dX4_set_55 : decode cX4_set 55 = .ok (.getfield 13, 3) := by decide +kernel
theorem dX4_set_58 : decode cX4_set 58 = .ok (.iload_n 1, 1) := by decide +kernel
theorem dX4_set_59 : decode cX4_set 59 = .ok (.iaload, 1) := by decide +kernel
theorem dX4_set_60 : decode cX4_set 60 = .ok (.iadd, 1) := by decide +kernel
theorem dX4_set_61 : decode cX4_set 61 = .ok (.istore 4, 2) := by decide +kernel
theorem dX4_set_63 : decode cX4_set 63 = .ok (.aload_n 0, 1) := by decide +kernel
theorem dX4_set_64 : decode cX4_set 64 = .ok (.getfield 9, 3) := by decide +kernel
theorem dX4_set_67 : decode cX4_set 67 = .ok (.iload_n 1, 1) := by decide +kernel
theorem dX4_set_68 : decode cX4_set 68 = .ok (.iload_n 2, 1) := by decide +kernel
theorem dX4_set_69 : decode cX4_set 69 = .ok (.iastore, 1) := by decide +kernel
theorem dX4_set_70 : decode cX4_set 70 = .ok (.aload_n 0, 1) := by decide +kernel
theorem dX4_set_71 : decode cX4_set 71 = .ok (.getfield 13, 3) := by decide +kernel
theorem dX4_set_74 : decode cX4_set 74 = .ok (.iload_n 1, 1) := by decide +kernel
theorem dX4_set_75 : decode cX4_set 75 = .ok (.iload_n 3, 1) := by decide +kernel
theorem dX4_set_76 : decode cX4_set 76 = .ok (.iastore, 1) := by decide +kernel
theorem dX4_set_77 : decode cX4_set 77 = .ok (.iload 4, 2) := by decide +kernel
theorem dX4_set_79 : decode cX4_set 79 = .ok (.ireturn, 1) := by decide +kernel
set_option maxRecDepth 20000 in
theorem ggX4_setGust_X4_isIn : GoodIn wsX4_setGust wsX4_isIn := goodIn_r _ [6] (by decide +kernel) (by decide +kernel)
set_option maxRecDepth 20000 in
theorem gX4_setGust_X4_isIn : GoodIn wsX4_setGust (va_wsS RX4 35 yX4_isIn wsX4_isIn) := goodIn_app (goodIn_of _ (by decide +kernel)) ggX4_setGust_X4_isIn
set_option maxRecDepth 20000 in
theorem ggX4_setGust_X4_fail : GoodIn wsX4_setGust wsX4_fail := goodIn_r _ [10, 1, 11, 12, 13, 14, 15, 16, 17, 18, 19] (by decide +kernel) (by decide +kernel)
set_option maxRecDepth 20000 in
theorem gX4_setGust_X4_fail : GoodIn wsX4_setGust (wsV RX4 46 RX4 yX4_fail wsX4_fail) := goodIn_app (goodIn_of _ (by decide +kernel)) ggX4_setGust_X4_fail
theorem dX4_setGust_0 : decode cX4_setGust 0 = .ok (.aload_n 0, 1) := by decide +kernel
theorem dX4_setGust_1 : decode cX4_setGust 1 = .ok (.iconst 0, 1) := by decide +kernel
theorem dX4_setGust_2 : decode cX4_setGust 2 = .ok (.putfield 28, 3) := by decide +kernel
theorem dX4_setGust_5 : decode cX4_setGust 5 = .ok (.iload_n 1, 1) := by decide +kernel
theorem dX4_setGust_6 : decode cX4_setGust 6 = .ok (.iconst 0, 1) := by decide +kernel
theorem dX4_setGust_7 : decode cX4_setGust 7 = .ok (.bipush 7, 2) := by decide +kernel
theorem dX4_setGust_9 : decode cX4_setGust 9 = .ok (.invokestatic 35, 3) := by decide +kernel
theorem dX4_setGust_12 : decode cX4_setGust 12 = .ok (.ifCond .ne 9, 3) := by decide +kernel
theorem dX4_setGust_15 : decode cX4_setGust 15 = .ok (.aload_n 0, 1) := by decide +kernel
theorem dX4_setGust_16 : decode cX4_setGust 16 = .ok (.iconst 1, 1) := by decide +kernel
theorem dX4_setGust_17 : decode cX4_setGust 17 = .ok (.invokevirtual 46, 3) := by decide +kernel
theorem dX4_setGust_20 : decode cX4_setGust 20 = .ok (.ireturn, 1) := by decide +kernel
theorem dX4_setGust_21 : decode cX4_setGust 21 = .ok (.iload_n 2, 1) := by decide +kernel
theorem dX4_setGust_22 : decode cX4_setGust 22 = .ok (.iconst 0, 1) := by decide +kernel
theorem dX4_setGust_23 : decode cX4_setGust 23 = .ok (.bipush 9, 2) := by decide +kernel
theorem dX4_setGust_25 : decode cX4_setGust 25 = .ok (.invokestatic 35, 3) := by decide +kernel
theorem dX4_setGust_28 : decode cX4_setGust 28 = .ok (.ifCond .ne 9, 3) := by decide +kernel
theorem dX4_setGust_31 : decode cX4_setGust 31 = .ok (.aload_n 0, 1) := by decide +kernel
theorem dX4_setGust_32 : decode cX4_setGust 32 = .ok (.iconst 2, 1) := by decide +kernel
theorem dX4_setGust_33 : decode cX4_setGust 33 = .ok (.invokevirtual 46, 3) := by decide +kernel
theorem dX4_setGust_36 : decode cX4_setGust 36 = .ok (.ireturn, 1) := by decide +kernel
theorem dX4_setGust_37 : decode cX4_setGust 37 = .ok (.aload_n 0, 1) := by decide +kernel
theorem dX4_setGust_38 : decode cX4_setGust 38 = .ok (.getfield 16, 3) := by decide +kernel
theorem dX4_setGust_41 : decode cX4_setGust 41 = .ok (.iload_n 1, 1) := by decide +kernel
theorem dX4_setGust_42 : decode cX4_setGust 42 = .ok (.iaload, 1) := by decide +kernel
theorem dX4_setGust_43 : decode cX4_setGust 43 = .ok (.istore_n 3, 1) := by decide +kernel
theorem dX4_setGust_44 : decode cX4_setGust 44 = .ok (.aload_n 0, 1) := by decide +kernel
theorem dX4_setGust_45 : decode cX4_setGust 45 = .ok (.getfield 16, 3) := by decide +kernel
theorem dX4_setGust_48 : decode cX4_setGust 48 = .ok (.iload_n 1, 1) := by decide +kernel
theorem dX4_setGust_49 : decode cX4_setGust 49 = .ok (.iload_n 2, 1) := by decide +kernel
theorem dX4_setGust_50 : decode cX4_setGust 50 = .ok (.iastore, 1) := by decide +kernel
theorem dX4_setGust_51 : decode cX4_setGust 51 = .ok (.iload_n 3, 1) := by decide +kernel
theorem dX4_setGust_52 : decode cX4_setGust 52 = .ok (.ireturn, 1) := by decide +kernel
set_option maxRecDepth 20000 in
theorem ggX4_build_X4_isIn : GoodIn wsX4_build wsX4_isIn := goodIn_r _ [6] (by decide +kernel) (by decide +kernel)
set_option maxRecDepth 20000 in
theorem gX4_build_X4_isIn : GoodIn wsX4_build (va_wsS RX4 35 yX4_isIn wsX4_isIn) := goodIn_app (goodIn_of _ (by decide +kernel)) ggX4_build_X4_isIn
set_option maxRecDepth 20000 in
theorem ggX4_build_X4_fail : GoodIn wsX4_build wsX4_fail := goodIn_r _ [10, 1, 16, 17, 18, 19, 20, 21, 22, 23, 24] (by decide +kernel) (by decide +kernel)
set_option maxRecDepth 20000 in
theorem gX4_build_X4_fail : GoodIn wsX4_build (wsV RX4 46 RX4 yX4_fail wsX4_fail) := goodIn_app (goodIn_of _ (by decide +kernel)) ggX4_build_X4_fail
set_option maxRecDepth 20000 in
theorem ggX4_build_X4_put : GoodIn wsX4_build wsX4_put := goodIn_r _ [14, 15, 16, 17, 18, 19, 20, 21, 22, 23, 24] (by decide +kernel) (by decide +kernel)
set_option maxRecDepth 20000 in
theorem gX4_build_X4_put : GoodIn wsX4_build (wsV RX4 50 RX4 yX4_put wsX4_put) := goodIn_app (goodIn_of _ (by decide +kernel)) ggX4_build_X4_put
theorem dX4_build_0 : decode cX4_build 0 = .ok (.aload_n 0, 1) := by decide +kernel
theorem dX4_build_1 : decode cX4_build 1 = .ok (.iconst 0, 1) := by decide +kernel
theorem dX4_build_2 : decode cX4_build 2 = .ok (.putfield 28, 3) := by decide +kernel
theorem dX4_build_5 : decode cX4_build 5 = .ok (.iload_n 1, 1) := by decide +kernel
theorem dX4_build_6 : decode cX4_build 6 = .ok (.iconst 1, 1) := by decide +kernel
theorem dX4_build_7 : decode cX4_build 7 = .ok (.bipush 8, 2) := by decide +kernel
theorem dX4_build_9 : decode cX4_build 9 = .ok (.invokestatic 35, 3) := by decide +kernel
theorem dX4_build_12 : decode cX4_build 12 = .ok (.ifCond .ne 9, 3) := by decide +kernel
theorem dX4_build_15 : decode cX4_build 15 = .ok (.aload_n 0, 1) := by decide +kernel
theorem dX4_build_16 : decode cX4_build 16 = .ok (.iconst 1, 1) := by decide +kernel
theorem dX4_build_17 : decode cX4_build 17 = .ok (.invokevirtual 46, 3) := by decide +kernel
theorem dX4_build_20 : decode cX4_build 20 = .ok (.ireturn, 1) := by decide +kernel
theorem dX4_build_21 : decode cX4_build 21 = .ok (.aload_n 0, 1) := by decide +kernel
theorem dX4_build_22 : decode cX4_build 22 = .ok (.getfield 32, 3) := by decide +kernel
theorem dX4_build_25 : decode cX4_build 25 = .ok (.bipush 6, 2) := by decide +kernel
theorem dX4_build_27 : decode cX4_build 27 = .ok (.if_icmp .ne 9, 3) := by decide +kernel
theorem dX4_build_30 : decode cX4_build 30 = .ok (.aload_n 0, 1) := by decide +kernel
theorem dX4_build_31 : decode cX4_build 31 = .ok (.iconst 2, 1) := by decide +kernel
theorem dX4_build_32 : decode cX4_build 32 = .ok (.invokevirtual 46, 3) := by decide +kernel
theorem dX4_build_35 : decode cX4_build 35 = .ok (.ireturn, 1) := by decide +kernel
theorem dX4_build_36 : decode cX4_build 36 = .ok (.aload_n 0, 1) := by decide +kernel
theorem dX4_build_37 : decode cX4_build 37 = .ok (.aload_n 0, 1) := by decide +kernel
theorem dX4_build_38 : decode cX4_build 38 = .ok (.getfield 32, 3) := by decide +kernel
theorem dX4_build_41 : decode cX4_build 41 = .ok (.iconst 0, 1) := by decide +kernel
theorem dX4_build_42 : decode cX4_build 42 = .ok (.iload_n 1, 1) := by decide +kernel
theorem dX4_build_43 : decode cX4_build 43 = .ok (.invokevirtual 50, 3) := by decide +kernel
theorem dX4_build_46 : decode cX4_build 46 = .ok (.aload_n 0, 1) := by decide +kernel
theorem dX4_build_47 : decode cX4_build 47 = .ok (.aload_n 0, 1) := by decide +kernel
theorem dX4_build_48 : decode cX4_build 48 = .ok (.getfield 32, 3) := by decide +kernel
theorem dX4_build_51 : decode cX4_build 51 = .ok (.iconst 2, 1) := by decide +kernel
theorem dX4_build_52 : decode cX4_build 52 = .ok (.bipush 20, 2) := by decide +kernel
theorem dX4_build_54 : decode cX4_build 54 = .ok (.invokevirtual 50, 3) := by decide +kernel
theorem dX4_build_57 : decode cX4_build 57 = .ok (.aload_n 0, 1) := by decide +kernel
theorem dX4_build_58 : decode cX4_build 58 = .ok (.dup, 1) := by decide +kernel
theorem dX4_build_59 : decode cX4_build 59 = .ok (.getfield 32, 3) := by decide +kernel
theorem dX4_build_62 : decode cX4_build 62 = .ok (.iconst 1, 1) := by decide +kernel
theorem dX4_build_63 : decode cX4_build 63 = .ok (.iadd, 1) := by decide +kernel
theorem dX4_build_64 : decode cX4_build 64 = .ok (.putfield 32, 3) := by decide +kernel
theorem dX4_build_67 : decode cX4_build 67 = .ok (.aload_n 0, 1) := by decide +kernel
theorem dX4_build_68 : decode cX4_build 68 = .ok (.getfield 32, 3) := by decide +kernel
theorem dX4_build_71 : decode cX4_build 71 = .ok (.iconst 1, 1) := by decide +kernel
theorem dX4_build_72 : decode cX4_build 72 = .ok (.isub, 1) := by decide +kernel
theorem dX4_build_73 : decode cX4_build 73 = .ok (.ireturn, 1) := by decide +kernel
theorem dX4_kind_0 : decode cX4_kind 0 = .ok (.iload_n 0, 1) := by decide +kernel
theorem dX4_kind_1 : decode cX4_kind 1 = .ok (.bipush 30, 2) := by decide +kernel
theorem dX4_kind_3 : decode cX4_kind 3 = .ok (.if_icmp .gt 7, 3) := by decide +kernel
theorem dX4_kind_6 : decode cX4_kind 6 = .ok (.iconst 2, 1) := by decide +kernel
theorem dX4_kind_7 : decode cX4_kind 7 = .ok (.goto 14, 3) := by decide +kernel
theorem dX4_kind_10 : decode cX4_kind 10 = .ok (.iload_n 0, 1) := by decide +kernel
theorem dX4_kind_11 : decode cX4_kind 11 = .ok (.bipush 60, 2) := by decide +kernel
theorem dX4_kind_13 : decode cX4_kind 13 = .ok (.if_icmp .gt 7, 3) := by decide +kernel
theorem dX4_kind_16 : decode cX4_kind 16 = .ok (.iconst 1, 1) := by decide +kernel
theorem dX4_kind_17 : decode cX4_kind 17 = .ok (.goto 4, 3) := by decide +kernel
theorem dX4_kind_20 : decode cX4_kind 20 = .ok (.iconst 0, 1) := by decide +kernel
theorem dX4_kind_21 : decode cX4_kind 21 = .ok (.ireturn, 1) := by decide +kernel
set_option maxRecDepth 20000 in
theorem ggX4_fill_X4_isSledge : GoodIn wsX4_fill wsX4_isSledge := goodIn_r _ [8, 9, 10, 11, 7, 12, 32, 33, 34, 35, 36, 37, 38, 39, 40] (by decide +kernel) (by decide +kernel)
set_option maxRecDepth 20000 in
theorem gX4_fill_X4_isSledge : GoodIn wsX4_fill (wsV RX4 54 RX4 yX4_isSledge wsX4_isSledge) := goodIn_app (goodIn_of _ (by decide +kernel)) ggX4_fill_X4_isSledge
set_option maxRecDepth 20000 in
theorem ggX4_fill_X4_isLayer : GoodIn wsX4_fill wsX4_isLayer := goodIn_r _ [15, 10, 11, 7, 12] (by decide +kernel) (by decide +kernel)
set_option maxRecDepth 20000 in
theorem gX4_fill_X4_isLayer : GoodIn wsX4_fill (va_wsS RX4 42 yX4_isLayer wsX4_isLayer) := goodIn_app (goodIn_of _ (by decide +kernel)) ggX4_fill_X4_isLayer
set_option maxRecDepth 20000 in
theorem ggX4_fill_X4_fail : GoodIn wsX4_fill wsX4_fail := goodIn_r _ [19, 1, 32, 33, 34, 35, 36, 37, 38, 39, 40] (by decide +kernel) (by decide +kernel)
set_option maxRecDepth 20000 in
theorem gX4_fill_X4_fail : GoodIn wsX4_fill (wsV RX4 46 RX4 yX4_fail wsX4_fail) := goodIn_app (goodIn_of _ (by decide +kernel)) ggX4_fill_X4_fail
set_option maxRecDepth 20000 in
theorem ggX4_fill_X4_sl : GoodIn wsX4_fill wsX4_sl := goodIn_r _ [23, 24, 32, 33, 34, 35, 36, 37, 38, 39, 40] (by decide +kernel) (by decide +kernel)
set_option maxRecDepth 20000 in
theorem gX4_fill_X4_sl : GoodIn wsX4_fill (wsV RX4 57 RX4 yX4_sl wsX4_sl) := goodIn_app (goodIn_of _ (by decide +kernel)) ggX4_fill_X4_sl
set_option maxRecDepth 20000 in
theorem ggX4_fill_X4_put : GoodIn wsX4_fill wsX4_put := goodIn_r _ [28, 24, 32, 33, 34, 35, 36, 37, 38, 39, 40] (by decide +kernel) (by decide +kernel)
set_option maxRecDepth 20000 in
theorem gX4_fill_X4_put : GoodIn wsX4_fill (wsV RX4 50 RX4 yX4_put wsX4_put) := goodIn_app (goodIn_of _ (by decide +kernel)) ggX4_fill_X4_put
set_option maxRecDepth 20000 in
theorem ggX4_fill_X4_kind : GoodIn wsX4_fill wsX4_kind := goodIn_r _ [31] (by decide +kernel) (by decide +kernel)
set_option maxRecDepth 20000 in
theorem gX4_fill_X4_kind : GoodIn wsX4_fill (va_wsS RX4 61 yX4_kind wsX4_kind) := goodIn_app (goodIn_of _ (by decide +kernel)) ggX4_fill_X4_kind
theorem dX4_fill_0 : decode cX4_fill 0 = .ok (.aload_n 0, 1) := by decide +kernel
theorem dX4_fill_1 : decode cX4_fill 1 = .ok (.iconst 0, 1) := by decide +kernel
theorem dX4_fill_2 : decode cX4_fill 2 = .ok (.putfield 28, 3) := by decide +kernel
theorem dX4_fill_5 : decode cX4_fill 5 = .ok (.aload_n 0, 1) := by decide +kernel
theorem dX4_fill_6 : decode cX4_fill 6 = .ok (.iload_n 1, 1) := by decide +kernel
theorem dX4_fill_7 : decode cX4_fill 7 = .ok (.invokevirtual 54, 3) := by decide +kernel
theorem dX4_fill_10 : decode cX4_fill 10 = .ok (.ifCond .eq 10, 3) := by decide +kernel
theorem dX4_fill_13 : decode cX4_fill 13 = .ok (.iload_n 2, 1) := by decide +kernel
theorem dX4_fill_14 : decode cX4_fill 14 = .ok (.invokestatic 42, 3) := by decide +kernel
theorem dX4_fill_17 : decode cX4_fill 17 = .ok (.ifCond .ne 9, 3) := by decide +kernel
theorem dX4_fill_20 : decode cX4_fill 20 = .ok (.aload_n 0, 1) := by decide +kernel
theorem dX4_fill_21 : decode cX4_fill 21 = .ok (.iconst 1, 1) := by decide +kernel
theorem dX4_fill_22 : decode cX4_fill 22 = .ok (.invokevirtual 46, 3) := by decide +kernel
theorem dX4_fill_25 : decode cX4_fill 25 = .ok (.ireturn, 1) := by decide +kernel
theorem dX4_fill_26 : decode cX4_fill 26 = .ok (.aload_n 0, 1) := by decide +kernel
theorem dX4_fill_27 : decode cX4_fill 27 = .ok (.iload_n 1, 1) := by decide +kernel
theorem dX4_fill_28 : decode cX4_fill 28 = .ok (.iconst 3, 1) := by decide +kernel
theorem dX4_fill_29 : decode cX4_fill 29 = .ok (.invokevirtual 57, 3) := by decide +kernel
theorem dX4_fill_32 : decode cX4_fill 32 = .ok (.ifCond .ne 29, 3) := by decide +kernel
theorem dX4_fill_35 : decode cX4_fill 35 = .ok (.aload_n 0, 1) := by decide +kernel
theorem dX4_fill_36 : decode cX4_fill 36 = .ok (.iload_n 1, 1) := by decide +kernel
theorem dX4_fill_37 : decode cX4_fill 37 = .ok (.iconst 1, 1) := by decide +kernel
theorem dX4_fill_38 : decode cX4_fill 38 = .ok (.invokevirtual 57, 3) := by decide +kernel
theorem dX4_fill_41 : decode cX4_fill 41 = .ok (.aload_n 0, 1) := by decide +kernel
theorem dX4_fill_42 : decode cX4_fill 42 = .ok (.iload_n 1, 1) := by decide +kernel
theorem dX4_fill_43 : decode cX4_fill 43 = .ok (.iconst 0, 1) := by decide +kernel
theorem dX4_fill_44 : decode cX4_fill 44 = .ok (.invokevirtual 57, 3) := by decide +kernel
theorem dX4_fill_47 : decode cX4_fill 47 = .ok (.if_icmp .eq 14, 3) := by decide +kernel
theorem dX4_fill_50 : decode cX4_fill 50 = .ok (.aload_n 0, 1) := by decide +kernel
theorem dX4_fill_51 : decode cX4_fill 51 = .ok (.getfield 9, 3) := by decide +kernel
theorem dX4_fill_54 : decode cX4_fill 54 = .ok (.iload_n 2, 1) := by decide +kernel
theorem dX4_fill_55 : decode cX4_fill 55 = .ok (.iaload, 1) := by decide +kernel
theorem dX4_fill_56 : decode cX4_fill 56 = .ok (.bipush 10, 2) := by decide +kernel
theorem dX4_fill_58 : decode cX4_fill 58 = .ok (.if_icmp .ge 9, 3) := by decide +kernel
theorem dX4_fill_61 : decode cX4_fill 61 = .ok (.aload_n 0, 1) := by decide +kernel
theorem dX4_fill_62 : decode cX4_fill 62 = .ok (.iconst 2, 1) := by decide +kernel
theorem dX4_fill_63 : decode cX4_fill 63 = .ok (.invokevirtual 46, 3) := by decide +kernel
theorem dX4_fill_66 : decode cX4_fill 66 = .ok (.ireturn, 1) := by decide +kernel
theorem dX4_fill_67 : decode cX4_fill 67 = .ok (.aload_n 0, 1) := by decide +kernel
theorem dX4_fill_68 : decode cX4_fill 68 = .ok (.getfield 9, 3) := by decide +kernel
theorem dX4_fill_71 : decode cX4_fill 71 = .ok (.iload_n 2, 1) := by decide +kernel
theorem dX4_fill_72 : decode cX4_fill 72 = .ok (.dup2, 1) := by decide +kernel
theorem dX4_fill_73 : decode cX4_fill 73 = .ok (.iaload, 1) := by decide +kernel
theorem dX4_fill_74 : decode cX4_fill 74 = .ok (.bipush 10, 2) := by decide +kernel
theorem dX4_fill_76 : decode cX4_fill 76 = .ok (.isub, 1) := by decide +kernel
theorem dX4_fill_77 : decode cX4_fill 77 = .ok (.iastore, 1) := by decide +kernel
theorem dX4_fill_78 : decode cX4_fill 78 = .ok (.aload_n 0, 1) := by decide +kernel
theorem dX4_fill_79 : decode cX4_fill 79 = .ok (.iload_n 1, 1) := by decide +kernel
theorem dX4_fill_80 : decode cX4_fill 80 = .ok (.iconst 4, 1) := by decide +kernel
theorem dX4_fill_81 : decode cX4_fill 81 = .ok (.aload_n 0, 1) := by decide +kernel
theorem dX4_fill_82 : decode cX4_fill 82 = .ok (.iload_n 1, 1) := by decide +kernel
theorem dX4_fill_83 : decode cX4_fill 83 = .ok (.iconst 1, 1) := by decide +kernel
theorem dX4_fill_84 : decode cX4_fill 84 = .ok (.invokevirtual 57, 3) := by decide +kernel
theorem dX4_fill_87 : decode cX4_fill 87 = .ok (.iadd, 1) := by decide +kernel
theorem dX4_fill_88 : decode cX4_fill 88 = .ok (.bipush 10, 2) := by decide +kernel
theorem dX4_fill_90 : decode cX4_fill 90 = .ok (.aload_n 0, 1) := by decide +kernel
theorem dX4_fill_91 : decode cX4_fill 91 = .ok (.getfield 13, 3) := by decide +kernel
theorem dX4_fill_94 : decode cX4_fill 94 = .ok (.iload_n 2, 1) := by decide +kernel
theorem dX4_fill_95 : decode cX4_fill 95 = .ok (.iaload, 1) := by decide +kernel
theorem dX4_fill_96 : decode cX4_fill 96 = .ok (.imul, 1) := by decide +kernel
theorem dX4_fill_97 : decode cX4_fill 97 = .ok (.invokevirtual 50, 3) := by decide +kernel
theorem dX4_fill_100 : decode cX4_fill 100 = .ok (.aload_n 0, 1) := by decide +kernel
theorem dX4_fill_101 : decode cX4_fill 101 = .ok (.iload_n 1, 1) := by decide +kernel
theorem dX4_fill_102 : decode cX4_fill 102 = .ok (.iconst 1, 1) := by decide +kernel
theorem dX4_fill_103 : decode cX4_fill 103 = .ok (.aload_n 0, 1) := by decide +kernel
theorem dX4_fill_104 : decode cX4_fill 104 = .ok (.iload_n 1, 1) := by decide +kernel
theorem dX4_fill_105 : decode cX4_fill 105 = .ok (.iconst 1, 1) := by decide +kernel
theorem dX4_fill_106 : decode cX4_fill 106 = .ok (.invokevirtual 57, 3) := by decide +kernel
theorem dX4_fill_109 : decode cX4_fill 109 = .ok (.iconst 1, 1) := by decide +kernel
theorem dX4_fill_110 : decode cX4_fill 110 = .ok (.iadd, 1) := by decide +kernel
theorem dX4_fill_111 : decode cX4_fill 111 = .ok (.invokevirtual 50, 3) := by decide +kernel
theorem dX4_fill_114 : decode cX4_fill 114 = .ok (.bipush 10, 2) := by decide +kernel
theorem dX4_fill_116 : decode cX4_fill 116 = .ok (.aload_n 0, 1) := by decide +kernel
theorem dX4_fill_117 : decode cX4_fill 117 = .ok (.getfield 13, 3) := by decide +kernel
theorem dX4_fill_120 : decode cX4_fill 120 = .ok (.iload_n 2, 1) := by decide +kernel
theorem dX4_fill_121 : decode cX4_fill 121 = .ok (.iaload, 1) := by decide +kernel
theorem dX4_fill_122 : decode cX4_fill 122 = .ok (.imul, 1) := by decide +kernel
theorem dX4_fill_123 : decode cX4_fill 123 = .ok (.invokestatic 61, 3) := by decide +kernel
theorem dX4_fill_126 : decode cX4_fill 126 = .ok (.ireturn, 1) := by decide +kernel
set_option maxRecDepth 20000 in
theorem ggX4_go_X4_isSledge : GoodIn wsX4_go wsX4_isSledge := goodIn_r _ [6, 7, 8, 9, 5, 10, 24, 25, 26, 27, 28, 29, 30, 31, 32] (by decide +kernel) (by decide +kernel)
set_option maxRecDepth 20000 in
theorem gX4_go_X4_isSledge : GoodIn wsX4_go (wsV RX4 54 RX4 yX4_isSledge wsX4_isSledge) := goodIn_app (goodIn_of _ (by decide +kernel)) ggX4_go_X4_isSledge
set_option maxRecDepth 20000 in
theorem ggX4_go_X4_fail : GoodIn wsX4_go wsX4_fail := goodIn_r _ [14, 1, 24, 25, 26, 27, 28, 29, 30, 31, 32] (by decide +kernel) (by decide +kernel)
set_option maxRecDepth 20000 in
theorem gX4_go_X4_fail : GoodIn wsX4_go (wsV RX4 46 RX4 yX4_fail wsX4_fail) := goodIn_app (goodIn_of _ (by decide +kernel)) ggX4_go_X4_fail
set_option maxRecDepth 20000 in
theorem ggX4_go_X4_sl : GoodIn wsX4_go wsX4_sl := goodIn_r _ [18, 19, 24, 25, 26, 27, 28, 29, 30, 31, 32] (by decide +kernel) (by decide +kernel)
set_option maxRecDepth 20000 in
theorem gX4_go_X4_sl : GoodIn wsX4_go (wsV RX4 57 RX4 yX4_sl wsX4_sl) := goodIn_app (goodIn_of _ (by decide +kernel)) ggX4_go_X4_sl
set_option maxRecDepth 20000 in
theorem ggX4_go_X4_put : GoodIn wsX4_go wsX4_put := goodIn_r _ [23, 19, 24, 25, 26, 27, 28, 29, 30, 31, 32] (by decide +kernel) (by decide +kernel)
set_option maxRecDepth 20000 in
theorem gX4_go_X4_put : GoodIn wsX4_go (wsV RX4 50 RX4 yX4_put wsX4_put) := goodIn_app (goodIn_of _ (by decide +kernel)) ggX4_go_X4_put
theorem dX4_go_0 : decode cX4_go 0 = .ok (.aload_n 0, 1) := by decide +kernel
theorem dX4_go_1 : decode cX4_go 1 = .ok (.iconst 0, 1) := by decide +kernel
theorem dX4_go_2 : decode cX4_go 2 = .ok (.putfield 28, 3) := by decide +kernel
theorem dX4_go_5 : decode cX4_go 5 = .ok (.aload_n 0, 1) := by decide +kernel
theorem dX4_go_6 : decode cX4_go 6 = .ok (.iload_n 1, 1) := by decide +kernel
theorem dX4_go_7 : decode cX4_go 7 = .ok (.invokevirtual 54, 3) := by decide +kernel
theorem dX4_go_10 : decode cX4_go 10 = .ok (.ifCond .ne 9, 3) := by decide +kernel
theorem dX4_go_13 : decode cX4_go 13 = .ok (.aload_n 0, 1) := by decide +kernel
theorem dX4_go_14 : decode cX4_go 14 = .ok (.iconst 1, 1) := by decide +kernel
theorem dX4_go_15 : decode cX4_go 15 = .ok (.invokevirtual 46, 3) := by decide +kernel
theorem dX4_go_18 : decode cX4_go 18 = .ok (.ireturn, 1) := by decide +kernel
theorem dX4_go_19 : decode cX4_go 19 = .ok (.aload_n 0, 1) := by decide +kernel
theorem dX4_go_20 : decode cX4_go 20 = .ok (.iload_n 1, 1) := by decide +kernel
theorem dX4_go_21 : decode cX4_go 21 = .ok (.iconst 3, 1) := by decide +kernel
theorem dX4_go_22 : decode cX4_go 22 = .ok (.invokevirtual 57, 3) := by decide +kernel
theorem dX4_go_25 : decode cX4_go 25 = .ok (.ifCond .eq 9, 3) := by decide +kernel
theorem dX4_go_28 : decode cX4_go 28 = .ok (.aload_n 0, 1) := by decide +kernel
theorem dX4_go_29 : decode cX4_go 29 = .ok (.iconst 2, 1) := by decide +kernel
theorem dX4_go_30 : decode cX4_go 30 = .ok (.invokevirtual 46, 3) := by decide +kernel
theorem dX4_go_33 : decode cX4_go 33 = .ok (.ireturn, 1) := by decide +kernel
theorem dX4_go_34 : decode cX4_go 34 = .ok (.aload_n 0, 1) := by decide +kernel
theorem dX4_go_35 : decode cX4_go 35 = .ok (.iload_n 1, 1) := by decide +kernel
theorem dX4_go_36 : decode cX4_go 36 = .ok (.iconst 3, 1) := by decide +kernel
theorem dX4_go_37 : decode cX4_go 37 = .ok (.iconst 1, 1) := by decide +kernel
theorem dX4_go_38 : decode cX4_go 38 = .ok (.invokevirtual 50, 3) := by decide +kernel
theorem dX4_go_41 : decode cX4_go 41 = .ok (.aload_n 0, 1) := by decide +kernel
theorem dX4_go_42 : decode cX4_go 42 = .ok (.iload_n 1, 1) := by decide +kernel
theorem dX4_go_43 : decode cX4_go 43 = .ok (.iconst 1, 1) := by decide +kernel
theorem dX4_go_44 : decode cX4_go 44 = .ok (.invokevirtual 57, 3) := by decide +kernel
theorem dX4_go_47 : decode cX4_go 47 = .ok (.ireturn, 1) := by decide +kernel
set_option maxRecDepth 20000 in
theorem ggX4_launch_X4_isIn : GoodIn wsX4_launch wsX4_isIn := goodIn_r _ [7] (by decide +kernel) (by decide +kernel)
set_option maxRecDepth 20000 in
theorem gX4_launch_X4_isIn : GoodIn wsX4_launch (va_wsS RX4 35 yX4_isIn wsX4_isIn) := goodIn_app (goodIn_of _ (by decide +kernel)) ggX4_launch_X4_isIn
set_option maxRecDepth 20000 in
theorem ggX4_launch_X4_fail : GoodIn wsX4_launch wsX4_fail := goodIn_r _ [11, 1, 12, 13, 14, 15, 16, 17, 18, 19, 20] (by decide +kernel) (by decide +kernel)
set_option maxRecDepth 20000 in
theorem gX4_launch_X4_fail : GoodIn wsX4_launch (wsV RX4 46 RX4 yX4_fail wsX4_fail) := goodIn_app (goodIn_of _ (by decide +kernel)) ggX4_launch_X4_fail
theorem dX4_launch_0 : decode cX4_launch 0 = .ok (.aload_n 0, 1) := by decide +kernel
theorem dX4_launch_1 : decode cX4_launch 1 = .ok (.iconst 0, 1) := by decide +kernel
theorem dX4_launch_2 : decode cX4_launch 2 = .ok (.putfield 28, 3) := by decide +kernel
theorem dX4_launch_5 : decode cX4_launch 5 = .ok (.iload_n 1, 1) := by decide +kernel
theorem dX4_launch_6 : decode cX4_launch 6 = .ok (.bipush 100, 2) := by decide +kernel
theorem dX4_launch_8 : decode cX4_launch 8 = .ok (.sipush 900, 3) := by decide +kernel
theorem dX4_launch_11 : decode cX4_launch 11 = .ok (.invokestatic 35, 3) := by decide +kernel
theorem dX4_launch_14 : decode cX4_launch 14 = .ok (.ifCond .ne 9, 3) := by decide +kernel
theorem dX4_launch_17 : decode cX4_launch 17 = .ok (.aload_n 0, 1) := by decide +kernel
theorem dX4_launch_18 : decode cX4_launch 18 = .ok (.iconst 1, 1) := by decide +kernel
theorem dX4_launch_19 : decode cX4_launch 19 = .ok (.invokevirtual 46, 3) := by decide +kernel
theorem dX4_launch_22 : decode cX4_launch 22 = .ok (.ireturn, 1) := by decide +kernel
theorem dX4_launch_23 : decode cX4_launch 23 = .ok (.aload_n 0, 1) := by decide +kernel
theorem dX4_launch_24 : decode cX4_launch 24 = .ok (.getfield 39, 3) := by decide +kernel
theorem dX4_launch_27 : decode cX4_launch 27 = .ok (.iconst 4, 1) := by decide +kernel
theorem dX4_launch_28 : decode cX4_launch 28 = .ok (.if_icmp .ne 9, 3) := by decide +kernel
theorem dX4_launch_31 : decode cX4_launch 31 = .ok (.aload_n 0, 1) := by decide +kernel
theorem dX4_launch_32 : decode cX4_launch 32 = .ok (.iconst 2, 1) := by decide +kernel
theorem dX4_launch_33 : decode cX4_launch 33 = .ok (.invokevirtual 46, 3) := by decide +kernel
theorem dX4_launch_36 : decode cX4_launch 36 = .ok (.ireturn, 1) := by decide +kernel
theorem dX4_launch_37 : decode cX4_launch 37 = .ok (.aload_n 0, 1) := by decide +kernel
theorem dX4_launch_38 : decode cX4_launch 38 = .ok (.getfield 22, 3) := by decide +kernel
theorem dX4_launch_41 : decode cX4_launch 41 = .ok (.iconst 3, 1) := by decide +kernel
theorem dX4_launch_42 : decode cX4_launch 42 = .ok (.aload_n 0, 1) := by decide +kernel
theorem dX4_launch_43 : decode cX4_launch 43 = .ok (.getfield 39, 3) := by decide +kernel
theorem dX4_launch_46 : decode cX4_launch 46 = .ok (.imul, 1) := by decide +kernel
theorem dX4_launch_47 : decode cX4_launch 47 = .ok (.iconst 0, 1) := by decide +kernel
theorem dX4_launch_48 : decode cX4_launch 48 = .ok (.iadd, 1) := by decide +kernel
theorem dX4_launch_49 : decode cX4_launch 49 = .ok (.iload_n 1, 1) := by decide +kernel
theorem dX4_launch_50 : decode cX4_launch 50 = .ok (.iastore, 1) := by decide +kernel
theorem dX4_launch_51 : decode cX4_launch 51 = .ok (.aload_n 0, 1) := by decide +kernel
theorem dX4_launch_52 : decode cX4_launch 52 = .ok (.dup, 1) := by decide +kernel
theorem dX4_launch_53 : decode cX4_launch 53 = .ok (.getfield 39, 3) := by decide +kernel
theorem dX4_launch_56 : decode cX4_launch 56 = .ok (.iconst 1, 1) := by decide +kernel
theorem dX4_launch_57 : decode cX4_launch 57 = .ok (.iadd, 1) := by decide +kernel
theorem dX4_launch_58 : decode cX4_launch 58 = .ok (.putfield 39, 3) := by decide +kernel
theorem dX4_launch_61 : decode cX4_launch 61 = .ok (.aload_n 0, 1) := by decide +kernel
theorem dX4_launch_62 : decode cX4_launch 62 = .ok (.getfield 39, 3) := by decide +kernel
theorem dX4_launch_65 : decode cX4_launch 65 = .ok (.iconst 1, 1) := by decide +kernel
theorem dX4_launch_66 : decode cX4_launch 66 = .ok (.isub, 1) := by decide +kernel
theorem dX4_launch_67 : decode cX4_launch 67 = .ok (.ireturn, 1) := by decide +kernel
set_option maxRecDepth 20000 in
theorem ggX4_all_X4_bo : GoodIn wsX4_all wsX4_bo := goodIn_r _ [5, 6, 7, 8, 9, 10, 11, 12, 13, 14, 15] (by decide +kernel) (by decide +kernel)
set_option maxRecDepth 20000 in
theorem gX4_all_X4_bo : GoodIn wsX4_all (wsV RX4 64 RX4 yX4_bo wsX4_bo) := goodIn_app (goodIn_of _ (by decide +kernel)) ggX4_all_X4_bo
theorem dX4_all_0 : decode cX4_all 0 = .ok (.aload_n 0, 1) := by decide +kernel
theorem dX4_all_1 : decode cX4_all 1 = .ok (.iload_n 1, 1) := by decide +kernel
theorem dX4_all_2 : decode cX4_all 2 = .ok (.iconst 1, 1) := by decide +kernel
theorem dX4_all_3 : decode cX4_all 3 = .ok (.invokevirtual 64, 3) := by decide +kernel
theorem dX4_all_6 : decode cX4_all 6 = .ok (.aload_n 0, 1) := by decide +kernel
theorem dX4_all_7 : decode cX4_all 7 = .ok (.iload_n 1, 1) := by decide +kernel
theorem dX4_all_8 : decode cX4_all 8 = .ok (.iconst 2, 1) := by decide +kernel
theorem dX4_all_9 : decode cX4_all 9 = .ok (.invokevirtual 64, 3) := by decide +kernel
theorem dX4_all_12 : decode cX4_all 12 = .ok (.iadd, 1) := by decide +kernel
theorem dX4_all_13 : decode cX4_all 13 = .ok (.ireturn, 1) := by decide +kernel
theorem dX4_stowed_0 : decode cX4_stowed 0 = .ok (.iload_n 0, 1) := by decide +kernel
theorem dX4_stowed_1 : decode cX4_stowed 1 = .ok (.ifCond .ne 8, 3) := by decide +kernel
theorem dX4_stowed_4 : decode cX4_stowed 4 = .ok (.bipush 80, 2) := by decide +kernel
theorem dX4_stowed_6 : decode cX4_stowed 6 = .ok (.goto 15, 3) := by decide +kernel
theorem dX4_stowed_9 : decode cX4_stowed 9 = .ok (.iload_n 0, 1) := by decide +kernel
theorem dX4_stowed_10 : decode cX4_stowed 10 = .ok (.iconst 1, 1) := by decide +kernel
theorem dX4_stowed_11 : decode cX4_stowed 11 = .ok (.if_icmp .ne 8, 3) := by decide +kernel
theorem dX4_stowed_14 : decode cX4_stowed 14 = .ok (.bipush 50, 2) := by decide +kernel
theorem dX4_stowed_16 : decode cX4_stowed 16 = .ok (.goto 5, 3) := by decide +kernel
theorem dX4_stowed_19 : decode cX4_stowed 19 = .ok (.bipush 20, 2) := by decide +kernel
theorem dX4_stowed_21 : decode cX4_stowed 21 = .ok (.ireturn, 1) := by decide +kernel
theorem dX4_depth_0 : decode cX4_depth 0 = .ok (.iload_n 0, 1) := by decide +kernel
theorem dX4_depth_1 : decode cX4_depth 1 = .ok (.iload_n 1, 1) := by decide +kernel
theorem dX4_depth_2 : decode cX4_depth 2 = .ok (.iadd, 1) := by decide +kernel
theorem dX4_depth_3 : decode cX4_depth 3 = .ok (.bipush 50, 2) := by decide +kernel
theorem dX4_depth_5 : decode cX4_depth 5 = .ok (.idiv, 1) := by decide +kernel
theorem dX4_depth_6 : decode cX4_depth 6 = .ok (.iload_n 0, 1) := by decide +kernel
theorem dX4_depth_7 : decode cX4_depth 7 = .ok (.iload_n 1, 1) := by decide +kernel
theorem dX4_depth_8 : decode cX4_depth 8 = .ok (.isub, 1) := by decide +kernel
theorem dX4_depth_9 : decode cX4_depth 9 = .ok (.invokestatic 67, 3) := by decide +kernel
theorem dX4_depth_12 : decode cX4_depth 12 = .ok (.bipush 40, 2) := by decide +kernel
theorem dX4_depth_14 : decode cX4_depth 14 = .ok (.idiv, 1) := by decide +kernel
theorem dX4_depth_15 : decode cX4_depth 15 = .ok (.iadd, 1) := by decide +kernel
theorem dX4_depth_16 : decode cX4_depth 16 = .ok (.ireturn, 1) := by decide +kernel
set_option maxRecDepth 20000 in
theorem ggX4_canSail_X4_bo : GoodIn wsX4_canSail wsX4_bo := goodIn_r _ [5, 6, 17, 18, 19, 20, 21, 22, 23, 24, 25] (by decide +kernel) (by decide +kernel)
set_option maxRecDepth 20000 in
theorem gX4_canSail_X4_bo : GoodIn wsX4_canSail (wsV RX4 64 RX4 yX4_bo wsX4_bo) := goodIn_app (goodIn_of _ (by decide +kernel)) ggX4_canSail_X4_bo
set_option maxRecDepth 20000 in
theorem ggX4_canSail_X4_depth : GoodIn wsX4_canSail wsX4_depth := goodIn_r _ [9, 10, 11, 12, 13] (by decide +kernel) (by decide +kernel)
set_option maxRecDepth 20000 in
theorem gX4_canSail_X4_depth : GoodIn wsX4_canSail (va_wsS RX4 72 yX4_depth wsX4_depth) := goodIn_app (goodIn_of _ (by decide +kernel)) ggX4_canSail_X4_depth
set_option maxRecDepth 20000 in
theorem ggX4_canSail_X4_isIn : GoodIn wsX4_canSail wsX4_isIn := goodIn_r _ [16] (by decide +kernel) (by decide +kernel)
set_option maxRecDepth 20000 in
theorem gX4_canSail_X4_isIn : GoodIn wsX4_canSail (va_wsS RX4 35 yX4_isIn wsX4_isIn) := goodIn_app (goodIn_of _ (by decide +kernel)) ggX4_canSail_X4_isIn
theorem dX4_canSail_0 : decode cX4_canSail 0 = .ok (.aload_n 0, 1) := by decide +kernel
theorem dX4_canSail_1 : decode cX4_canSail 1 = .ok (.iload_n 1, 1) := by decide +kernel
theorem dX4_canSail_2 : decode cX4_canSail 2 = .ok (.iconst 1, 1) := by decide +kernel
theorem dX4_canSail_3 : decode cX4_canSail 3 = .ok (.invokevirtual 64, 3) := by decide +kernel
theorem dX4_canSail_6 : decode cX4_canSail 6 = .ok (.aload_n 0, 1) := by decide +kernel
theorem dX4_canSail_7 : decode cX4_canSail 7 = .ok (.iload_n 1, 1) := by decide +kernel
theorem dX4_canSail_8 : decode cX4_canSail 8 = .ok (.iconst 2, 1) := by decide +kernel
theorem dX4_canSail_9 : decode cX4_canSail 9 = .ok (.invokevirtual 64, 3) := by decide +kernel
theorem dX4_canSail_12 : decode cX4_canSail 12 = .ok (.invokestatic 72, 3) := by decide +kernel
theorem dX4_canSail_15 : decode cX4_canSail 15 = .ok (.bipush 20, 2) := by decide +kernel
theorem dX4_canSail_17 : decode cX4_canSail 17 = .ok (.if_icmp .gt 30, 3) := by decide +kernel
theorem dX4_canSail_20 : decode cX4_canSail 20 = .ok (.aload_n 0, 1) := by decide +kernel
theorem dX4_canSail_21 : decode cX4_canSail 21 = .ok (.iload_n 1, 1) := by decide +kernel
theorem dX4_canSail_22 : decode cX4_canSail 22 = .ok (.iconst 1, 1) := by decide +kernel
theorem dX4_canSail_23 : decode cX4_canSail 23 = .ok (.invokevirtual 64, 3) := by decide +kernel
theorem dX4_canSail_26 : decode cX4_canSail 26 = .ok (.aload_n 0, 1) := by decide +kernel
theorem dX4_canSail_27 : decode cX4_canSail 27 = .ok (.iload_n 1, 1) := by decide +kernel
theorem dX4_canSail_28 : decode cX4_canSail 28 = .ok (.iconst 2, 1) := by decide +kernel
theorem dX4_canSail_29 : decode cX4_canSail 29 = .ok (.invokevirtual 64, 3) := by decide +kernel
theorem dX4_canSail_32 : decode cX4_canSail 32 = .ok (.isub, 1) := by decide +kernel
theorem dX4_canSail_33 : decode cX4_canSail 33 = .ok (.bipush (-100), 2) := by decide +kernel
theorem dX4_canSail_35 : decode cX4_canSail 35 = .ok (.bipush 100, 2) := by decide +kernel
theorem dX4_canSail_37 : decode cX4_canSail 37 = .ok (.invokestatic 35, 3) := by decide +kernel
theorem dX4_canSail_40 : decode cX4_canSail 40 = .ok (.ifCond .eq 7, 3) := by decide +kernel
theorem dX4_canSail_43 : decode cX4_canSail 43 = .ok (.iconst 1, 1) := by decide +kernel
theorem dX4_canSail_44 : decode cX4_canSail 44 = .ok (.goto 4, 3) := by decide +kernel
theorem dX4_canSail_47 : decode cX4_canSail 47 = .ok (.iconst 0, 1) := by decide +kernel
theorem dX4_canSail_48 : decode cX4_canSail 48 = .ok (.ireturn, 1) := by decide +kernel
set_option maxRecDepth 20000 in
theorem ggX4_stow_X4_isBoat : GoodIn wsX4_stow wsX4_isBoat := goodIn_r _ [8, 9, 10, 11, 7, 12, 28, 29, 30, 31, 32, 33, 34, 35, 36] (by decide +kernel) (by decide +kernel)
set_option maxRecDepth 20000 in
theorem gX4_stow_X4_isBoat : GoodIn wsX4_stow (wsV RX4 75 RX4 yX4_isBoat wsX4_isBoat) := goodIn_app (goodIn_of _ (by decide +kernel)) ggX4_stow_X4_isBoat
set_option maxRecDepth 20000 in
theorem ggX4_stow_X4_isIn : GoodIn wsX4_stow wsX4_isIn := goodIn_r _ [12] (by decide +kernel) (by decide +kernel)
set_option maxRecDepth 20000 in
theorem gX4_stow_X4_isIn : GoodIn wsX4_stow (va_wsS RX4 35 yX4_isIn wsX4_isIn) := goodIn_app (goodIn_of _ (by decide +kernel)) ggX4_stow_X4_isIn
set_option maxRecDepth 20000 in
theorem ggX4_stow_X4_fail : GoodIn wsX4_stow wsX4_fail := goodIn_r _ [16, 1, 28, 29, 30, 31, 32, 33, 34, 35, 36] (by decide +kernel) (by decide +kernel)
set_option maxRecDepth 20000 in
theorem gX4_stow_X4_fail : GoodIn wsX4_stow (wsV RX4 46 RX4 yX4_fail wsX4_fail) := goodIn_app (goodIn_of _ (by decide +kernel)) ggX4_stow_X4_fail
set_option maxRecDepth 20000 in
theorem ggX4_stow_X4_all : GoodIn wsX4_stow wsX4_all := goodIn_r _ [20, 21, 22, 23, 7, 24, 3, 28, 29, 30, 31, 32, 33, 34, 35, 36] (by decide +kernel) (by decide +kernel)
set_option maxRecDepth 20000 in
theorem gX4_stow_X4_all : GoodIn wsX4_stow (wsV RX4 78 RX4 yX4_all wsX4_all) := goodIn_app (goodIn_of _ (by decide +kernel)) ggX4_stow_X4_all
set_option maxRecDepth 20000 in
theorem ggX4_stow_X4_stowed : GoodIn wsX4_stow wsX4_stowed := goodIn_r _ [27] (by decide +kernel) (by decide +kernel)
set_option maxRecDepth 20000 in
theorem gX4_stow_X4_stowed : GoodIn wsX4_stow (va_wsS RX4 81 yX4_stowed wsX4_stowed) := goodIn_app (goodIn_of _ (by decide +kernel)) ggX4_stow_X4_stowed
set_option maxRecDepth 20000 in
theorem ggX4_stow_X4_bo : GoodIn wsX4_stow wsX4_bo := goodIn_r _ [24, 3, 28, 29, 30, 31, 32, 33, 34, 35, 36] (by decide +kernel) (by decide +kernel)
set_option maxRecDepth 20000 in
theorem gX4_stow_X4_bo : GoodIn wsX4_stow (wsV RX4 64 RX4 yX4_bo wsX4_bo) := goodIn_app (goodIn_of _ (by decide +kernel)) ggX4_stow_X4_bo
theorem dX4_stow_0 : decode cX4_stow 0 = .ok (.aload_n 0, 1) := by decide +kernel
theorem dX4_stow_1 : decode cX4_stow 1 = .ok (.iconst 0, 1) := by decide +kernel
theorem dX4_stow_2 : decode cX4_stow 2 = .ok (.putfield 28, 3) := by decide +kernel
theorem dX4_stow_5 : decode cX4_stow 5 = .ok (.aload_n 0, 1) := by decide +kernel
theorem dX4_stow_6 : decode cX4_stow 6 = .ok (.iload_n 1, 1) := by decide +kernel
theorem dX4_stow_7 : decode cX4_stow 7 = .ok (.invokevirtual 75, 3) := by decide +kernel
theorem dX4_stow_10 : decode cX4_stow 10 = .ok (.ifCond .eq 12, 3) := by decide +kernel
theorem dX4_stow_13 : decode cX4_stow 13 = .ok (.iload_n 2, 1) := by decide +kernel
theorem dX4_stow_14 : decode cX4_stow 14 = .ok (.iconst 0, 1) := by decide +kernel
theorem dX4_stow_15 : decode cX4_stow 15 = .ok (.iconst 2, 1) := by decide +kernel
theorem dX4_stow_16 : decode cX4_stow 16 = .ok (.invokestatic 35, 3) := by decide +kernel
theorem dX4_stow_19 : decode cX4_stow 19 = .ok (.ifCond .ne 9, 3) := by decide +kernel
theorem dX4_stow_22 : decode cX4_stow 22 = .ok (.aload_n 0, 1) := by decide +kernel
theorem dX4_stow_23 : decode cX4_stow 23 = .ok (.iconst 1, 1) := by decide +kernel
theorem dX4_stow_24 : decode cX4_stow 24 = .ok (.invokevirtual 46, 3) := by decide +kernel
theorem dX4_stow_27 : decode cX4_stow 27 = .ok (.ireturn, 1) := by decide +kernel
theorem dX4_stow_28 : decode cX4_stow 28 = .ok (.aload_n 0, 1) := by decide +kernel
theorem dX4_stow_29 : decode cX4_stow 29 = .ok (.getfield 25, 3) := by decide +kernel
theorem dX4_stow_32 : decode cX4_stow 32 = .ok (.iconst 3, 1) := by decide +kernel
theorem dX4_stow_33 : decode cX4_stow 33 = .ok (.iload_n 2, 1) := by decide +kernel
theorem dX4_stow_34 : decode cX4_stow 34 = .ok (.iadd, 1) := by decide +kernel
theorem dX4_stow_35 : decode cX4_stow 35 = .ok (.iaload, 1) := by decide +kernel
theorem dX4_stow_36 : decode cX4_stow 36 = .ok (.ifCond .eq 22, 3) := by decide +kernel
theorem dX4_stow_39 : decode cX4_stow 39 = .ok (.aload_n 0, 1) := by decide +kernel
theorem dX4_stow_40 : decode cX4_stow 40 = .ok (.iload_n 1, 1) := by decide +kernel
theorem dX4_stow_41 : decode cX4_stow 41 = .ok (.invokevirtual 78, 3) := by decide +kernel
theorem dX4_stow_44 : decode cX4_stow 44 = .ok (.iload_n 2, 1) := by decide +kernel
theorem dX4_stow_45 : decode cX4_stow 45 = .ok (.invokestatic 81, 3) := by decide +kernel
theorem dX4_stow_48 : decode cX4_stow 48 = .ok (.iadd, 1) := by decide +kernel
theorem dX4_stow_49 : decode cX4_stow 49 = .ok (.aload_n 0, 1) := by decide +kernel
theorem dX4_stow_50 : decode cX4_stow 50 = .ok (.iload_n 1, 1) := by decide +kernel
theorem dX4_stow_51 : decode cX4_stow 51 = .ok (.iconst 0, 1) := by decide +kernel
theorem dX4_stow_52 : decode cX4_stow 52 = .ok (.invokevirtual 64, 3) := by decide +kernel
theorem dX4_stow_55 : decode cX4_stow 55 = .ok (.if_icmp .le 9, 3) := by decide +kernel
theorem dX4_stow_58 : decode cX4_stow 58 = .ok (.aload_n 0, 1) := by decide +kernel
theorem dX4_stow_59 : decode cX4_stow 59 = .ok (.iconst 2, 1) := by decide +kernel
theorem dX4_stow_60 : decode cX4_stow 60 = .ok (.invokevirtual 46, 3) := by decide +kernel
theorem dX4_stow_63 : decode cX4_stow 63 = .ok (.ireturn, 1) := by decide +kernel
theorem dX4_stow_64 : decode cX4_stow 64 = .ok (.aload_n 0, 1) := by decide +kernel
theorem dX4_stow_65 : decode cX4_stow 65 = .ok (.getfield 25, 3) := by decide +kernel
theorem dX4_stow_68 : decode cX4_stow 68 = .ok (.iconst 3, 1) := by decide +kernel
theorem dX4_stow_69 : decode cX4_stow 69 = .ok (.iload_n 2, 1) := by decide +kernel
theorem dX4_stow_70 : decode cX4_stow 70 = .ok (.iadd, 1) := by decide +kernel
theorem dX4_stow_71 : decode cX4_stow 71 = .ok (.dup2, 1) := by decide +kernel
theorem dX4_stow_72 : decode cX4_stow 72 = .ok (.iaload, 1) := by decide +kernel
theorem dX4_stow_73 : decode cX4_stow 73 = .ok (.iconst 1, 1) := by decide +kernel
theorem dX4_stow_74 : decode cX4_stow 74 = .ok (.isub, 1) := by decide +kernel
theorem dX4_stow_75 : decode cX4_stow 75 = .ok (.iastore, 1) := by decide +kernel
theorem dX4_stow_76 : decode cX4_stow 76 = .ok (.aload_n 0, 1) := by decide +kernel
theorem dX4_stow_77 : decode cX4_stow 77 = .ok (.getfield 22, 3) := by decide +kernel
theorem dX4_stow_80 : decode cX4_stow 80 = .ok (.iconst 3, 1) := by decide +kernel
theorem dX4_stow_81 : decode cX4_stow 81 = .ok (.iload_n 1, 1) := by decide +kernel
theorem dX4_stow_82 : decode cX4_stow 82 = .ok (.imul, 1) := by decide +kernel
theorem dX4_stow_83 : decode cX4_stow 83 = .ok (.iload_n 3, 1) := by decide +kernel
theorem dX4_stow_84 : decode cX4_stow 84 = .ok (.ifCond .eq 7, 3) := by decide +kernel
theorem dX4_stow_87 : decode cX4_stow 87 = .ok (.iconst 1, 1) := by decide +kernel
theorem dX4_stow_88 : decode cX4_stow 88 = .ok (.goto 4, 3) := by decide +kernel
theorem dX4_stow_91 : decode cX4_stow 91 = .ok (.iconst 2, 1) := by decide +kernel
theorem dX4_stow_92 : decode cX4_stow 92 = .ok (.iadd, 1) := by decide +kernel
theorem dX4_stow_93 : decode cX4_stow 93 = .ok (.dup2, 1) := by decide +kernel
theorem dX4_stow_94 : decode cX4_stow 94 = .ok (.iaload, 1) := by decide +kernel
theorem dX4_stow_95 : decode cX4_stow 95 = .ok (.iload_n 2, 1) := by decide +kernel
theorem dX4_stow_96 : decode cX4_stow 96 = .ok (.invokestatic 81, 3) := by decide +kernel
theorem dX4_stow_99 : decode cX4_stow 99 = .ok (.iadd, 1) := by decide +kernel
theorem dX4_stow_100 : decode cX4_stow 100 = .ok (.iastore, 1) := by decide +kernel
theorem dX4_stow_101 : decode cX4_stow 101 = .ok (.aload_n 0, 1) := by decide +kernel
theorem dX4_stow_102 : decode cX4_stow 102 = .ok (.iload_n 1, 1) := by decide +kernel
theorem dX4_stow_103 : decode cX4_stow 103 = .ok (.iconst 1, 1) := by decide +kernel
theorem dX4_stow_104 : decode cX4_stow 104 = .ok (.invokevirtual 64, 3) := by decide +kernel
theorem dX4_stow_107 : decode cX4_stow 107 = .ok (.aload_n 0, 1) := by decide +kernel
theorem dX4_stow_108 : decode cX4_stow 108 = .ok (.iload_n 1, 1) := by decide +kernel
theorem dX4_stow_109 : decode cX4_stow 109 = .ok (.iconst 2, 1) := by decide +kernel
theorem dX4_stow_110 : decode cX4_stow 110 = .ok (.invokevirtual 64, 3) := by decide +kernel
theorem dX4_stow_113 : decode cX4_stow 113 = .ok (.isub, 1) := by decide +kernel
theorem dX4_stow_114 : decode cX4_stow 114 = .ok (.ireturn, 1) := by decide +kernel
set_option maxRecDepth 20000 in
theorem ggX4_sail_X4_isBoat : GoodIn wsX4_sail wsX4_isBoat := goodIn_r _ [8, 9, 10, 11, 7, 12, 36, 37, 38, 39, 40, 41, 42, 43, 44] (by decide +kernel) (by decide +kernel)
set_option maxRecDepth 20000 in
theorem gX4_sail_X4_isBoat : GoodIn wsX4_sail (wsV RX4 75 RX4 yX4_isBoat wsX4_isBoat) := goodIn_app (goodIn_of _ (by decide +kernel)) ggX4_sail_X4_isBoat
set_option maxRecDepth 20000 in
theorem ggX4_sail_X4_fail : GoodIn wsX4_sail wsX4_fail := goodIn_r _ [16, 1, 36, 37, 38, 39, 40, 41, 42, 43, 44] (by decide +kernel) (by decide +kernel)
set_option maxRecDepth 20000 in
theorem gX4_sail_X4_fail : GoodIn wsX4_sail (wsV RX4 46 RX4 yX4_fail wsX4_fail) := goodIn_app (goodIn_of _ (by decide +kernel)) ggX4_sail_X4_fail
set_option maxRecDepth 20000 in
theorem ggX4_sail_X4_canSail : GoodIn wsX4_sail wsX4_canSail := goodIn_r _ [20, 21, 22, 23, 7, 24, 2, 25, 26, 27, 28, 29, 30, 31, 10, 11, 12, 36, 37, 38, 39, 40, 41, 42, 43, 44] (by decide +kernel) (by decide +kernel)
set_option maxRecDepth 20000 in
theorem gX4_sail_X4_canSail : GoodIn wsX4_sail (wsV RX4 84 RX4 yX4_canSail wsX4_canSail) := goodIn_app (goodIn_of _ (by decide +kernel)) ggX4_sail_X4_canSail
set_option maxRecDepth 20000 in
theorem ggX4_sail_X4_all : GoodIn wsX4_sail wsX4_all := goodIn_r _ [35, 21, 22, 23, 7, 24, 2, 36, 37, 38, 39, 40, 41, 42, 43, 44] (by decide +kernel) (by decide +kernel)
set_option maxRecDepth 20000 in
theorem gX4_sail_X4_all : GoodIn wsX4_sail (wsV RX4 78 RX4 yX4_all wsX4_all) := goodIn_app (goodIn_of _ (by decide +kernel)) ggX4_sail_X4_all
theorem dX4_sail_0 : decode cX4_sail 0 = .ok (.aload_n 0, 1) := by decide +kernel
theorem dX4_sail_1 : decode cX4_sail 1 = .ok (.iconst 0, 1) := by decide +kernel
theorem dX4_sail_2 : decode cX4_sail 2 = .ok (.putfield 28, 3) := by decide +kernel
theorem dX4_sail_5 : decode cX4_sail 5 = .ok (.aload_n 0, 1) := by decide +kernel
theorem dX4_sail_6 : decode cX4_sail 6 = .ok (.iload_n 1, 1) := by decide +kernel
theorem dX4_sail_7 : decode cX4_sail 7 = .ok (.invokevirtual 75, 3) := by decide +kernel
theorem dX4_sail_10 : decode cX4_sail 10 = .ok (.ifCond .ne 9, 3) := by decide +kernel
theorem dX4_sail_13 : decode cX4_sail 13 = .ok (.aload_n 0, 1) := by decide +kernel
theorem dX4_sail_14 : decode cX4_sail 14 = .ok (.iconst 1, 1) := by decide +kernel
theorem dX4_sail_15 : decode cX4_sail 15 = .ok (.invokevirtual 46, 3) := by decide +kernel
theorem dX4_sail_18 : decode cX4_sail 18 = .ok (.ireturn, 1) := by decide +kernel
theorem dX4_sail_19 : decode cX4_sail 19 = .ok (.aload_n 0, 1) := by decide +kernel
theorem dX4_sail_20 : decode cX4_sail 20 = .ok (.iload_n 1, 1) := by decide +kernel
theorem dX4_sail_21 : decode cX4_sail 21 = .ok (.invokevirtual 84, 3) := by decide +kernel
theorem dX4_sail_24 : decode cX4_sail 24 = .ok (.ifCond .ne 9, 3) := by decide +kernel
theorem dX4_sail_27 : decode cX4_sail 27 = .ok (.aload_n 0, 1) := by decide +kernel
theorem dX4_sail_28 : decode cX4_sail 28 = .ok (.iconst 2, 1) := by decide +kernel
theorem dX4_sail_29 : decode cX4_sail 29 = .ok (.invokevirtual 46, 3) := by decide +kernel
theorem dX4_sail_32 : decode cX4_sail 32 = .ok (.ireturn, 1) := by decide +kernel
theorem dX4_sail_33 : decode cX4_sail 33 = .ok (.iconst 3, 1) := by decide +kernel
theorem dX4_sail_34 : decode cX4_sail 34 = .ok (.aload_n 0, 1) := by decide +kernel
theorem dX4_sail_35 : decode cX4_sail 35 = .ok (.iload_n 1, 1) := by decide +kernel
theorem dX4_sail_36 : decode cX4_sail 36 = .ok (.invokevirtual 78, 3) := by decide +kernel
theorem dX4_sail_39 : decode cX4_sail 39 = .ok (.bipush 10, 2) := by decide +kernel
theorem dX4_sail_41 : decode cX4_sail 41 = .ok (.idiv, 1) := by decide +kernel
theorem dX4_sail_42 : decode cX4_sail 42 = .ok (.imul, 1) := by decide +kernel
theorem dX4_sail_43 : decode cX4_sail 43 = .ok (.istore_n 2, 1) := by decide +kernel
theorem dX4_sail_44 : decode cX4_sail 44 = .ok (.aload_n 0, 1) := by decide +kernel
theorem dX4_sail_45 : decode cX4_sail 45 = .ok (.getfield 22, 3) := by decide +kernel
theorem dX4_sail_48 : decode cX4_sail 48 = .ok (.iconst 3, 1) := by decide +kernel
theorem dX4_sail_49 : decode cX4_sail 49 = .ok (.iload_n 1, 1) := by decide +kernel
theorem dX4_sail_50 : decode cX4_sail 50 = .ok (.imul, 1) := by decide +kernel
theorem dX4_sail_51 : decode cX4_sail 51 = .ok (.iconst 1, 1) := by decide +kernel
theorem dX4_sail_52 : decode cX4_sail 52 = .ok (.iadd, 1) := by decide +kernel
theorem dX4_sail_53 : decode cX4_sail 53 = .ok (.iconst 0, 1) := by decide +kernel
theorem dX4_sail_54 : decode cX4_sail 54 = .ok (.iastore, 1) := by decide +kernel
theorem dX4_sail_55 : decode cX4_sail 55 = .ok (.aload_n 0, 1) := by decide +kernel
theorem dX4_sail_56 : decode cX4_sail 56 = .ok (.getfield 22, 3) := by decide +kernel
theorem dX4_sail_59 : decode cX4_sail 59 = .ok (.iconst 3, 1) := by decide +kernel
theorem dX4_sail_60 : decode cX4_sail 60 = .ok (.iload_n 1, 1) := by decide +kernel
theorem dX4_sail_61 : decode cX4_sail 61 = .ok (.imul, 1) := by decide +kernel
theorem dX4_sail_62 : decode cX4_sail 62 = .ok (.iconst 2, 1) := by decide +kernel
theorem dX4_sail_63 : decode cX4_sail 63 = .ok (.iadd, 1) := by decide +kernel
theorem dX4_sail_64 : decode cX4_sail 64 = .ok (.iconst 0, 1) := by decide +kernel
theorem dX4_sail_65 : decode cX4_sail 65 = .ok (.iastore, 1) := by decide +kernel
theorem dX4_sail_66 : decode cX4_sail 66 = .ok (.aload_n 0, 1) := by decide +kernel
theorem dX4_sail_67 : decode cX4_sail 67 = .ok (.getfield 25, 3) := by decide +kernel
theorem dX4_sail_70 : decode cX4_sail 70 = .ok (.iconst 1, 1) := by decide +kernel
theorem dX4_sail_71 : decode cX4_sail 71 = .ok (.dup2, 1) := by decide +kernel
theorem dX4_sail_72 : decode cX4_sail 72 = .ok (.iaload, 1) := by decide +kernel
theorem dX4_sail_73 : decode cX4_sail 73 = .ok (.iload_n 2, 1) := by decide +kernel
theorem dX4_sail_74 : decode cX4_sail 74 = .ok (.iadd, 1) := by decide +kernel
theorem dX4_sail_75 : decode cX4_sail 75 = .ok (.iastore, 1) := by decide +kernel
theorem dX4_sail_76 : decode cX4_sail 76 = .ok (.iload_n 2, 1) := by decide +kernel
theorem dX4_sail_77 : decode cX4_sail 77 = .ok (.ireturn, 1) := by decide +kernel
set_option maxRecDepth 20000 in
theorem ggX4_layerTold_X4_kind : GoodIn wsX4_layerTold wsX4_kind := goodIn_r _ [6] (by decide +kernel) (by decide +kernel)
set_option maxRecDepth 20000 in
theorem gX4_layerTold_X4_kind : GoodIn wsX4_layerTold (va_wsS RX4 61 yX4_kind wsX4_kind) := goodIn_app (goodIn_of _ (by decide +kernel)) ggX4_layerTold_X4_kind
theorem dX4_layerTold_0 : decode cX4_layerTold 0 = .ok (.iload_n 2, 1) := by decide +kernel
theorem dX4_layerTold_1 : decode cX4_layerTold 1 = .ok (.ifCond .ne 12, 3) := by decide +kernel
theorem dX4_layerTold_4 : decode cX4_layerTold 4 = .ok (.aload_n 0, 1) := by decide +kernel
theorem dX4_layerTold_5 : decode cX4_layerTold 5 = .ok (.getfield 9, 3) := by decide +kernel
theorem dX4_layerTold_8 : decode cX4_layerTold 8 = .ok (.iload_n 1, 1) := by decide +kernel
theorem dX4_layerTold_9 : decode cX4_layerTold 9 = .ok (.iaload, 1) := by decide +kernel
theorem dX4_layerTold_10 : decode cX4_layerTold 10 = .ok (.goto 46, 3) := by decide +kernel
theorem dX4_layerTold_13 : decode cX4_layerTold 13 = .ok (.iload_n 2, 1) := by decide +kernel
theorem dX4_layerTold_14 : decode cX4_layerTold 14 = .ok (.iconst 1, 1) := by decide +kernel
theorem dX4_layerTold_15 : decode cX4_layerTold 15 = .ok (.if_icmp .ne 12, 3) := by decide +kernel
theorem dX4_layerTold_18 : decode cX4_layerTold 18 = .ok (.aload_n 0, 1) := by decide +kernel
theorem dX4_layerTold_19 : decode cX4_layerTold 19 = .ok (.getfield 13, 3) := by decide +kernel
theorem dX4_layerTold_22 : decode cX4_layerTold 22 = .ok (.iload_n 1, 1) := by decide +kernel
theorem dX4_layerTold_23 : decode cX4_layerTold 23 = .ok (.iaload, 1) := by decide +kernel
theorem dX4_layerTold_24 : decode cX4_layerTold 24 = .ok (.goto 32, 3) := by decide +kernel
theorem dX4_layerTold_27 : decode cX4_layerTold 27 = .ok (.iload_n 2, 1) := by decide +kernel
theorem dX4_layerTold_28 : decode cX4_layerTold 28 = .ok (.iconst 2, 1) := by decide +kernel
theorem dX4_layerTold_29 : decode cX4_layerTold 29 = .ok (.if_icmp .ne 18, 3) := by decide +kernel
theorem dX4_layerTold_32 : decode cX4_layerTold 32 = .ok (.bipush 10, 2) := by decide +kernel
theorem dX4_layerTold_34 : decode cX4_layerTold 34 = .ok (.aload_n 0, 1) := by decide +kernel
theorem dX4_layerTold_35 : decode cX4_layerTold 35 = .ok (.getfield 13, 3) := by decide +kernel
theorem dX4_layerTold_38 : decode cX4_layerTold 38 = .ok (.iload_n 1, 1) := by decide +kernel
theorem dX4_layerTold_39 : decode cX4_layerTold 39 = .ok (.iaload, 1) := by decide +kernel
theorem dX4_layerTold_40 : decode cX4_layerTold 40 = .ok (.imul, 1) := by decide +kernel
theorem dX4_layerTold_41 : decode cX4_layerTold 41 = .ok (.invokestatic 61, 3) := by decide +kernel
theorem dX4_layerTold_44 : decode cX4_layerTold 44 = .ok (.goto 12, 3) := by decide +kernel
theorem dX4_layerTold_47 : decode cX4_layerTold 47 = .ok (.aload_n 0, 1) := by decide +kernel
theorem dX4_layerTold_48 : decode cX4_layerTold 48 = .ok (.getfield 9, 3) := by decide +kernel
theorem dX4_layerTold_51 : decode cX4_layerTold 51 = .ok (.iload_n 1, 1) := by decide +kernel
theorem dX4_layerTold_52 : decode cX4_layerTold 52 = .ok (.iaload, 1) := by decide +kernel
theorem dX4_layerTold_53 : decode cX4_layerTold 53 = .ok (.bipush 10, 2) := by decide +kernel
theorem dX4_layerTold_55 : decode cX4_layerTold 55 = .ok (.idiv, 1) := by decide +kernel
theorem dX4_layerTold_56 : decode cX4_layerTold 56 = .ok (.ireturn, 1) := by decide +kernel
set_option maxRecDepth 20000 in
theorem ggX4_layer_X4_isLayer : GoodIn wsX4_layer wsX4_isLayer := goodIn_r _ [5, 6, 7, 4, 8] (by decide +kernel) (by decide +kernel)
set_option maxRecDepth 20000 in
theorem gX4_layer_X4_isLayer : GoodIn wsX4_layer (va_wsS RX4 42 yX4_isLayer wsX4_isLayer) := goodIn_app (goodIn_of _ (by decide +kernel)) ggX4_layer_X4_isLayer
set_option maxRecDepth 20000 in
theorem ggX4_layer_X4_isIn : GoodIn wsX4_layer wsX4_isIn := goodIn_r _ [8] (by decide +kernel) (by decide +kernel)
set_option maxRecDepth 20000 in
theorem gX4_layer_X4_isIn : GoodIn wsX4_layer (va_wsS RX4 35 yX4_isIn wsX4_isIn) := goodIn_app (goodIn_of _ (by decide +kernel)) ggX4_layer_X4_isIn
set_option maxRecDepth 20000 in
theorem ggX4_layer_X4_layerTold : GoodIn wsX4_layer wsX4_layerTold := goodIn_r _ [12, 13, 14, 15, 16, 4, 17, 22, 23, 24, 25, 26, 27, 28, 29, 30] (by decide +kernel) (by decide +kernel)
set_option maxRecDepth 20000 in
theorem gX4_layer_X4_layerTold : GoodIn wsX4_layer (wsV RX4 87 RX4 yX4_layerTold wsX4_layerTold) := goodIn_app (goodIn_of _ (by decide +kernel)) ggX4_layer_X4_layerTold
set_option maxRecDepth 20000 in
theorem ggX4_layer_X4_fail : GoodIn wsX4_layer wsX4_fail := goodIn_r _ [21, 1, 22, 23, 24, 25, 26, 27, 28, 29, 30] (by decide +kernel) (by decide +kernel)
set_option maxRecDepth 20000 in
theorem gX4_layer_X4_fail : GoodIn wsX4_layer (wsV RX4 46 RX4 yX4_fail wsX4_fail) := goodIn_app (goodIn_of _ (by decide +kernel)) ggX4_layer_X4_fail
theorem dX4_layer_0 : decode cX4_layer 0 = .ok (.aload_n 0, 1) := by decide +kernel
theorem dX4_layer_1 : decode cX4_layer 1 = .ok (.iconst 0, 1) := by decide +kernel
theorem dX4_layer_2 : decode cX4_layer 2 = .ok (.putfield 28, 3) := by decide +kernel
theorem dX4_layer_5 : decode cX4_layer 5 = .ok (.iload_n 1, 1) := by decide +kernel
theorem dX4_layer_6 : decode cX4_layer 6 = .ok (.invokestatic 42, 3) := by decide +kernel
theorem dX4_layer_9 : decode cX4_layer 9 = .ok (.ifCond .eq 21, 3) := by decide +kernel
theorem dX4_layer_12 : decode cX4_layer 12 = .ok (.iload_n 2, 1) := by decide +kernel
theorem dX4_layer_13 : decode cX4_layer 13 = .ok (.iconst 0, 1) := by decide +kernel
theorem dX4_layer_14 : decode cX4_layer 14 = .ok (.iconst 3, 1) := by decide +kernel
theorem dX4_layer_15 : decode cX4_layer 15 = .ok (.invokestatic 35, 3) := by decide +kernel
theorem dX4_layer_18 : decode cX4_layer 18 = .ok (.ifCond .eq 12, 3) := by decide +kernel
theorem dX4_layer_21 : decode cX4_layer 21 = .ok (.aload_n 0, 1) := by decide +kernel
theorem dX4_layer_22 : decode cX4_layer 22 = .ok (.iload_n 1, 1) := by decide +kernel
theorem dX4_layer_23 : decode cX4_layer 23 = .ok (.iload_n 2, 1) := by decide +kernel
theorem dX4_layer_24 : decode cX4_layer 24 = .ok (.invokevirtual 87, 3) := by decide +kernel
theorem dX4_layer_27 : decode cX4_layer 27 = .ok (.goto 8, 3) := by decide +kernel
theorem dX4_layer_30 : decode cX4_layer 30 = .ok (.aload_n 0, 1) := by decide +kernel
theorem dX4_layer_31 : decode cX4_layer 31 = .ok (.iconst 1, 1) := by decide +kernel
theorem dX4_layer_32 : decode cX4_layer 32 = .ok (.invokevirtual 46, 3) := by decide +kernel
theorem dX4_layer_35 : decode cX4_layer 35 = .ok (.ireturn, 1) := by decide +kernel
set_option maxRecDepth 20000 in
theorem ggX4_sledgeTold_X4_sl : GoodIn wsX4_sledgeTold wsX4_sl := goodIn_r _ [5, 6, 10, 11, 12, 13, 14, 15, 16, 17, 18] (by decide +kernel) (by decide +kernel)
set_option maxRecDepth 20000 in
theorem gX4_sledgeTold_X4_sl : GoodIn wsX4_sledgeTold (wsV RX4 57 RX4 yX4_sl wsX4_sl) := goodIn_app (goodIn_of _ (by decide +kernel)) ggX4_sledgeTold_X4_sl
set_option maxRecDepth 20000 in
theorem ggX4_sledgeTold_X4_kind : GoodIn wsX4_sledgeTold wsX4_kind := goodIn_r _ [9] (by decide +kernel) (by decide +kernel)
set_option maxRecDepth 20000 in
theorem gX4_sledgeTold_X4_kind : GoodIn wsX4_sledgeTold (va_wsS RX4 61 yX4_kind wsX4_kind) := goodIn_app (goodIn_of _ (by decide +kernel)) ggX4_sledgeTold_X4_kind
theorem dX4_sledgeTold_0 : decode cX4_sledgeTold 0 = .ok (.iload_n 2, 1) := by decide +kernel
theorem dX4_sledgeTold_1 : decode cX4_sledgeTold 1 = .ok (.iconst 4, 1) := by decide +kernel
theorem dX4_sledgeTold_2 : decode cX4_sledgeTold 2 = .ok (.if_icmp .ge 10, 3) := by decide +kernel
theorem dX4_sledgeTold_5 : decode cX4_sledgeTold 5 = .ok (.aload_n 0, 1) := by decide +kernel
theorem dX4_sledgeTold_6 : decode cX4_sledgeTold 6 = .ok (.iload_n 1, 1) := by decide +kernel
theorem dX4_sledgeTold_7 : decode cX4_sledgeTold 7 = .ok (.iload_n 2, 1) := by decide +kernel
theorem dX4_sledgeTold_8 : decode cX4_sledgeTold 8 = .ok (.invokevirtual 57, 3) := by decide +kernel
theorem dX4_sledgeTold_11 : decode cX4_sledgeTold 11 = .ok (.ireturn, 1) := by decide +kernel
theorem dX4_sledgeTold_12 : decode cX4_sledgeTold 12 = .ok (.aload_n 0, 1) := by decide +kernel
theorem dX4_sledgeTold_13 : decode cX4_sledgeTold 13 = .ok (.iload_n 1, 1) := by decide +kernel
theorem dX4_sledgeTold_14 : decode cX4_sledgeTold 14 = .ok (.iconst 1, 1) := by decide +kernel
theorem dX4_sledgeTold_15 : decode cX4_sledgeTold 15 = .ok (.invokevirtual 57, 3) := by decide +kernel
theorem dX4_sledgeTold_18 : decode cX4_sledgeTold 18 = .ok (.istore_n 3, 1) := by decide +kernel
theorem dX4_sledgeTold_19 : decode cX4_sledgeTold 19 = .ok (.iload_n 2, 1) := by decide +kernel
theorem dX4_sledgeTold_20 : decode cX4_sledgeTold 20 = .ok (.iconst 5, 1) := by decide +kernel
theorem dX4_sledgeTold_21 : decode cX4_sledgeTold 21 = .ok (.if_icmp .ne 25, 3) := by decide +kernel
theorem dX4_sledgeTold_24 : decode cX4_sledgeTold 24 = .ok (.iload_n 3, 1) := by decide +kernel
theorem dX4_sledgeTold_25 : decode cX4_sledgeTold 25 = .ok (.ifCond .ne 7, 3) := by decide +kernel
theorem dX4_sledgeTold_28 : decode cX4_sledgeTold 28 = .ok (.iconst (-1), 1) := by decide +kernel
theorem dX4_sledgeTold_29 : decode cX4_sledgeTold 29 = .ok (.goto 16, 3) := by decide +kernel
theorem dX4_sledgeTold_32 : decode cX4_sledgeTold 32 = .ok (.aload_n 0, 1) := by decide +kernel
theorem dX4_sledgeTold_33 : decode cX4_sledgeTold 33 = .ok (.iload_n 1, 1) := by decide +kernel
theorem dX4_sledgeTold_34 : decode cX4_sledgeTold 34 = .ok (.iconst 4, 1) := by decide +kernel
theorem dX4_sledgeTold_35 : decode cX4_sledgeTold 35 = .ok (.iload_n 3, 1) := by decide +kernel
theorem dX4_sledgeTold_36 : decode cX4_sledgeTold 36 = .ok (.iadd, 1) := by decide +kernel
theorem dX4_sledgeTold_37 : decode cX4_sledgeTold 37 = .ok (.iconst 1, 1) := by decide +kernel
theorem dX4_sledgeTold_38 : decode cX4_sledgeTold 38 = .ok (.isub, 1) := by decide +kernel
theorem dX4_sledgeTold_39 : decode cX4_sledgeTold 39 = .ok (.invokevirtual 57, 3) := by decide +kernel
theorem dX4_sledgeTold_42 : decode cX4_sledgeTold 42 = .ok (.invokestatic 61, 3) := by decide +kernel
theorem dX4_sledgeTold_45 : decode cX4_sledgeTold 45 = .ok (.ireturn, 1) := by decide +kernel
theorem dX4_sledgeTold_46 : decode cX4_sledgeTold 46 = .ok (.iconst 0, 1) := by decide +kernel
theorem dX4_sledgeTold_47 : decode cX4_sledgeTold 47 = .ok (.istore 4, 2) := by decide +kernel
theorem dX4_sledgeTold_49 : decode cX4_sledgeTold 49 = .ok (.iconst 0, 1) := by decide +kernel
theorem dX4_sledgeTold_50 : decode cX4_sledgeTold 50 = .ok (.istore 5, 2) := by decide +kernel
theorem dX4_sledgeTold_52 : decode cX4_sledgeTold 52 = .ok (.iload 5, 2) := by decide +kernel
theorem dX4_sledgeTold_54 : decode cX4_sledgeTold 54 = .ok (.iload_n 3, 1) := by decide +kernel
theorem dX4_sledgeTold_55 : decode cX4_sledgeTold 55 = .ok (.if_icmp .ge 23, 3) := by decide +kernel
theorem dX4_sledgeTold_58 : decode cX4_sledgeTold 58 = .ok (.iload 4, 2) := by decide +kernel
theorem dX4_sledgeTold_60 : decode cX4_sledgeTold 60 = .ok (.aload_n 0, 1) := by decide +kernel
theorem dX4_sledgeTold_61 : decode cX4_sledgeTold 61 = .ok (.iload_n 1, 1) := by decide +kernel
theorem dX4_sledgeTold_62 : decode cX4_sledgeTold 62 = .ok (.iconst 4, 1) := by decide +kernel
theorem dX4_sledgeTold_63 : decode cX4_sledgeTold 63 = .ok (.iload 5, 2) := by decide +kernel
theorem dX4_sledgeTold_65 : decode cX4_sledgeTold 65 = .ok (.iadd, 1) := by decide +kernel
theorem dX4_sledgeTold_66 : decode cX4_sledgeTold 66 = .ok (.invokevirtual 57, 3) := by decide +kernel
theorem dX4_sledgeTold_69 : decode cX4_sledgeTold 69 = .ok (.iadd, 1) := by decide +kernel
theorem dX4_sledgeTold_70 : decode cX4_sledgeTold 70 = .ok (.istore 4, 2) := by decide +kernel
theorem dX4_sledgeTold_72 : decode cX4_sledgeTold 72 = .ok (.iinc 5 1, 3) := by decide +kernel
theorem dX4_sledgeTold_75 : decode cX4_sledgeTold 75 = .ok (.goto (-23), 3) := by decide +kernel
theorem dX4_sledgeTold_78 : decode cX4_sledgeTold 78 = .ok (.iload 4, 2) := by decide +kernel
theorem dX4_sledgeTold_80 : decode cX4_sledgeTold 80 = .ok (.ireturn, 1) := by decide +kernel
set_option maxRecDepth 20000 in
theorem ggX4_told_X4_isSledge : GoodIn wsX4_told wsX4_isSledge := goodIn_r _ [6, 7, 8, 9, 5, 10, 27, 28, 29, 30, 31, 32, 33, 34, 35] (by decide +kernel) (by decide +kernel)
set_option maxRecDepth 20000 in
theorem gX4_told_X4_isSledge : GoodIn wsX4_told (wsV RX4 54 RX4 yX4_isSledge wsX4_isSledge) := goodIn_app (goodIn_of _ (by decide +kernel)) ggX4_told_X4_isSledge
set_option maxRecDepth 20000 in
theorem ggX4_told_X4_isIn : GoodIn wsX4_told wsX4_isIn := goodIn_r _ [10] (by decide +kernel) (by decide +kernel)
set_option maxRecDepth 20000 in
theorem gX4_told_X4_isIn : GoodIn wsX4_told (va_wsS RX4 35 yX4_isIn wsX4_isIn) := goodIn_app (goodIn_of _ (by decide +kernel)) ggX4_told_X4_isIn
set_option maxRecDepth 20000 in
theorem ggX4_told_X4_sledgeTold : GoodIn wsX4_told wsX4_sledgeTold := goodIn_r _ [14, 15, 16, 17, 5, 18, 19, 20, 21, 22, 27, 28, 29, 30, 31, 32, 33, 34, 35] (by decide +kernel) (by decide +kernel)
set_option maxRecDepth 20000 in
theorem gX4_told_X4_sledgeTold : GoodIn wsX4_told (wsV RX4 90 RX4 yX4_sledgeTold wsX4_sledgeTold) := goodIn_app (goodIn_of _ (by decide +kernel)) ggX4_told_X4_sledgeTold
set_option maxRecDepth 20000 in
theorem ggX4_told_X4_fail : GoodIn wsX4_told wsX4_fail := goodIn_r _ [26, 1, 27, 28, 29, 30, 31, 32, 33, 34, 35] (by decide +kernel) (by decide +kernel)
set_option maxRecDepth 20000 in
theorem gX4_told_X4_fail : GoodIn wsX4_told (wsV RX4 46 RX4 yX4_fail wsX4_fail) := goodIn_app (goodIn_of _ (by decide +kernel)) ggX4_told_X4_fail
theorem dX4_told_0 : decode cX4_told 0 = .ok (.aload_n 0, 1) := by decide +kernel
theorem dX4_told_1 : decode cX4_told 1 = .ok (.iconst 0, 1) := by decide +kernel
theorem dX4_told_2 : decode cX4_told 2 = .ok (.putfield 28, 3) := by decide +kernel
theorem dX4_told_5 : decode cX4_told 5 = .ok (.aload_n 0, 1) := by decide +kernel
theorem dX4_told_6 : decode cX4_told 6 = .ok (.iload_n 1, 1) := by decide +kernel
theorem dX4_told_7 : decode cX4_told 7 = .ok (.invokevirtual 54, 3) := by decide +kernel
theorem dX4_told_10 : decode cX4_told 10 = .ok (.ifCond .eq 21, 3) := by decide +kernel
theorem dX4_told_13 : decode cX4_told 13 = .ok (.iload_n 2, 1) := by decide +kernel
theorem dX4_told_14 : decode cX4_told 14 = .ok (.iconst 0, 1) := by decide +kernel
theorem dX4_told_15 : decode cX4_told 15 = .ok (.iconst 5, 1) := by decide +kernel
theorem dX4_told_16 : decode cX4_told 16 = .ok (.invokestatic 35, 3) := by decide +kernel
theorem dX4_told_19 : decode cX4_told 19 = .ok (.ifCond .eq 12, 3) := by decide +kernel
theorem dX4_told_22 : decode cX4_told 22 = .ok (.aload_n 0, 1) := by decide +kernel
theorem dX4_told_23 : decode cX4_told 23 = .ok (.iload_n 1, 1) := by decide +kernel
theorem dX4_told_24 : decode cX4_told 24 = .ok (.iload_n 2, 1) := by decide +kernel
theorem dX4_told_25 : decode cX4_told 25 = .ok (.invokevirtual 90, 3) := by decide +kernel
theorem dX4_told_28 : decode cX4_told 28 = .ok (.goto 8, 3) := by decide +kernel
theorem dX4_told_31 : decode cX4_told 31 = .ok (.aload_n 0, 1) := by decide +kernel
theorem dX4_told_32 : decode cX4_told 32 = .ok (.iconst 1, 1) := by decide +kernel
theorem dX4_told_33 : decode cX4_told 33 = .ok (.invokevirtual 46, 3) := by decide +kernel
theorem dX4_told_36 : decode cX4_told 36 = .ok (.ireturn, 1) := by decide +kernel
set_option maxRecDepth 20000 in
theorem ggX4_boatTold_X4_bo : GoodIn wsX4_boatTold wsX4_bo := goodIn_r _ [5, 6, 25, 26, 27, 28, 29, 30, 31, 32, 33] (by decide +kernel) (by decide +kernel)
set_option maxRecDepth 20000 in
theorem gX4_boatTold_X4_bo : GoodIn wsX4_boatTold (wsV RX4 64 RX4 yX4_bo wsX4_bo) := goodIn_app (goodIn_of _ (by decide +kernel)) ggX4_boatTold_X4_bo
set_option maxRecDepth 20000 in
theorem ggX4_boatTold_X4_depth : GoodIn wsX4_boatTold wsX4_depth := goodIn_r _ [9, 10, 11, 12, 13] (by decide +kernel) (by decide +kernel)
set_option maxRecDepth 20000 in
theorem gX4_boatTold_X4_depth : GoodIn wsX4_boatTold (va_wsS RX4 72 yX4_depth wsX4_depth) := goodIn_app (goodIn_of _ (by decide +kernel)) ggX4_boatTold_X4_depth
set_option maxRecDepth 20000 in
theorem ggX4_boatTold_X4_canSail : GoodIn wsX4_boatTold wsX4_canSail := goodIn_r _ [17, 1, 2, 3, 4, 5, 6, 7, 8, 9, 10, 11, 12, 13, 18, 19, 20, 25, 26, 27, 28, 29, 30, 31, 32, 33] (by decide +kernel) (by decide +kernel)
set_option maxRecDepth 20000 in
theorem gX4_boatTold_X4_canSail : GoodIn wsX4_boatTold (wsV RX4 84 RX4 yX4_canSail wsX4_canSail) := goodIn_app (goodIn_of _ (by decide +kernel)) ggX4_boatTold_X4_canSail
set_option maxRecDepth 20000 in
theorem ggX4_boatTold_X4_all : GoodIn wsX4_boatTold wsX4_all := goodIn_r _ [24, 1, 2, 3, 4, 5, 6, 25, 26, 27, 28, 29, 30, 31, 32, 33] (by decide +kernel) (by decide +kernel)
set_option maxRecDepth 20000 in
theorem gX4_boatTold_X4_all : GoodIn wsX4_boatTold (wsV RX4 78 RX4 yX4_all wsX4_all) := goodIn_app (goodIn_of _ (by decide +kernel)) ggX4_boatTold_X4_all
theorem dX4_boatTold_0 : decode cX4_boatTold 0 = .ok (.iload_n 2, 1) := by decide +kernel
theorem dX4_boatTold_1 : decode cX4_boatTold 1 = .ok (.tableswitch 104 0 5 #[39, 46, 53, 60, 74, 90], 39) := by decide +kernel
theorem dX4_boatTold_40 : decode cX4_boatTold 40 = .ok (.aload_n 0, 1) := by decide +kernel
theorem dX4_boatTold_41 : decode cX4_boatTold 41 = .ok (.iload_n 1, 1) := by decide +kernel
theorem dX4_boatTold_42 : decode cX4_boatTold 42 = .ok (.iconst 0, 1) := by decide +kernel
theorem dX4_boatTold_43 : decode cX4_boatTold 43 = .ok (.invokevirtual 64, 3) := by decide +kernel
theorem dX4_boatTold_46 : decode cX4_boatTold 46 = .ok (.ireturn, 1) := by decide +kernel
theorem dX4_boatTold_47 : decode cX4_boatTold 47 = .ok (.aload_n 0, 1) := by decide +kernel
theorem dX4_boatTold_48 : decode cX4_boatTold 48 = .ok (.iload_n 1, 1) := by decide +kernel
theorem dX4_boatTold_49 : decode cX4_boatTold 49 = .ok (.iconst 1, 1) := by decide +kernel
theorem dX4_boatTold_50 : decode cX4_boatTold 50 = .ok (.invokevirtual 64, 3) := by decide +kernel
theorem dX4_boatTold_53 : decode cX4_boatTold 53 = .ok (.ireturn, 1) := by decide +kernel
theorem dX4_boatTold_54 : decode cX4_boatTold 54 = .ok (.aload_n 0, 1) := by decide +kernel
theorem dX4_boatTold_55 : decode cX4_boatTold 55 = .ok (.iload_n 1, 1) := by decide +kernel
theorem dX4_boatTold_56 : decode cX4_boatTold 56 = .ok (.iconst 2, 1) := by decide +kernel
theorem dX4_boatTold_57 : decode cX4_boatTold 57 = .ok (.invokevirtual 64, 3) := by decide +kernel
theorem dX4_boatTold_60 : decode cX4_boatTold 60 = .ok (.ireturn, 1) := by decide +kernel
theorem dX4_boatTold_61 : decode cX4_boatTold 61 = .ok (.aload_n 0, 1) := by decide +kernel
theorem dX4_boatTold_62 : decode cX4_boatTold 62 = .ok (.iload_n 1, 1) := by decide +kernel
theorem dX4_boatTold_63 : decode cX4_boatTold 63 = .ok (.iconst 1, 1) := by decide +kernel
theorem dX4_boatTold_64 : decode cX4_boatTold 64 = .ok (.invokevirtual 64, 3) := by decide +kernel
theorem dX4_boatTold_67 : decode cX4_boatTold 67 = .ok (.aload_n 0, 1) := by decide +kernel
theorem dX4_boatTold_68 : decode cX4_boatTold 68 = .ok (.iload_n 1, 1) := by decide +kernel
theorem dX4_boatTold_69 : decode cX4_boatTold 69 = .ok (.iconst 2, 1) := by decide +kernel
theorem dX4_boatTold_70 : decode cX4_boatTold 70 = .ok (.invokevirtual 64, 3) := by decide +kernel
theorem dX4_boatTold_73 : decode cX4_boatTold 73 = .ok (.isub, 1) := by decide +kernel
theorem dX4_boatTold_74 : decode cX4_boatTold 74 = .ok (.ireturn, 1) := by decide +kernel
theorem dX4_boatTold_75 : decode cX4_boatTold 75 = .ok (.aload_n 0, 1) := by decide +kernel
theorem dX4_boatTold_76 : decode cX4_boatTold 76 = .ok (.iload_n 1, 1) := by decide +kernel
theorem dX4_boatTold_77 : decode cX4_boatTold 77 = .ok (.iconst 1, 1) := by decide +kernel
theorem dX4_boatTold_78 : decode cX4_boatTold 78 = .ok (.invokevirtual 64, 3) := by decide +kernel
theorem dX4_boatTold_81 : decode cX4_boatTold 81 = .ok (.aload_n 0, 1) := by decide +kernel
theorem dX4_boatTold_82 : decode cX4_boatTold 82 = .ok (.iload_n 1, 1) := by decide +kernel
theorem dX4_boatTold_83 : decode cX4_boatTold 83 = .ok (.iconst 2, 1) := by decide +kernel
theorem dX4_boatTold_84 : decode cX4_boatTold 84 = .ok (.invokevirtual 64, 3) := by decide +kernel
theorem dX4_boatTold_87 : decode cX4_boatTold 87 = .ok (.invokestatic 72, 3) := by decide +kernel
theorem dX4_boatTold_90 : decode cX4_boatTold 90 = .ok (.ireturn, 1) := by decide +kernel
theorem dX4_boatTold_91 : decode cX4_boatTold 91 = .ok (.aload_n 0, 1) := by decide +kernel
theorem dX4_boatTold_92 : decode cX4_boatTold 92 = .ok (.iload_n 1, 1) := by decide +kernel
theorem dX4_boatTold_93 : decode cX4_boatTold 93 = .ok (.invokevirtual 84, 3) := by decide +kernel
theorem dX4_boatTold_96 : decode cX4_boatTold 96 = .ok (.ifCond .eq 7, 3) := by decide +kernel
theorem dX4_boatTold_99 : decode cX4_boatTold 99 = .ok (.iconst 1, 1) := by decide +kernel
theorem dX4_boatTold_100 : decode cX4_boatTold 100 = .ok (.goto 4, 3) := by decide +kernel
theorem dX4_boatTold_103 : decode cX4_boatTold 103 = .ok (.iconst 0, 1) := by decide +kernel
theorem dX4_boatTold_104 : decode cX4_boatTold 104 = .ok (.ireturn, 1) := by decide +kernel
theorem dX4_boatTold_105 : decode cX4_boatTold 105 = .ok (.aload_n 0, 1) := by decide +kernel
theorem dX4_boatTold_106 : decode cX4_boatTold 106 = .ok (.iload_n 1, 1) := by decide +kernel
theorem dX4_boatTold_107 : decode cX4_boatTold 107 = .ok (.iconst 0, 1) := by decide +kernel
theorem dX4_boatTold_108 : decode cX4_boatTold 108 = .ok (.invokevirtual 64, 3) := by decide +kernel
theorem dX4_boatTold_111 : decode cX4_boatTold 111 = .ok (.aload_n 0, 1) := by decide +kernel
theorem dX4_boatTold_112 : decode cX4_boatTold 112 = .ok (.iload_n 1, 1) := by decide +kernel
theorem dX4_boatTold_113 : decode cX4_boatTold 113 = .ok (.invokevirtual 78, 3) := by decide +kernel
theorem dX4_boatTold_116 : decode cX4_boatTold 116 = .ok (.isub, 1) := by decide +kernel
theorem dX4_boatTold_117 : decode cX4_boatTold 117 = .ok (.ireturn, 1) := by decide +kernel
set_option maxRecDepth 20000 in
theorem ggX4_boat_X4_isBoat : GoodIn wsX4_boat wsX4_isBoat := goodIn_r _ [6, 7, 8, 9, 5, 10, 39, 40, 41, 42, 43, 44, 45, 46, 47] (by decide +kernel) (by decide +kernel)
set_option maxRecDepth 20000 in
theorem gX4_boat_X4_isBoat : GoodIn wsX4_boat (wsV RX4 75 RX4 yX4_isBoat wsX4_isBoat) := goodIn_app (goodIn_of _ (by decide +kernel)) ggX4_boat_X4_isBoat
set_option maxRecDepth 20000 in
theorem ggX4_boat_X4_isIn : GoodIn wsX4_boat wsX4_isIn := goodIn_r _ [10] (by decide +kernel) (by decide +kernel)
set_option maxRecDepth 20000 in
theorem gX4_boat_X4_isIn : GoodIn wsX4_boat (va_wsS RX4 35 yX4_isIn wsX4_isIn) := goodIn_app (goodIn_of _ (by decide +kernel)) ggX4_boat_X4_isIn
set_option maxRecDepth 20000 in
theorem ggX4_boat_X4_boatTold : GoodIn wsX4_boat wsX4_boatTold := goodIn_r _ [14, 15, 16, 17, 5, 18, 19, 20, 21, 22, 23, 24, 25, 26, 27, 28, 29, 30, 8, 9, 10, 31, 32, 33, 34, 39, 40, 41, 42, 43, 44, 45, 46, 47] (by decide +kernel) (by decide +kernel)
set_option maxRecDepth 20000 in
theorem gX4_boat_X4_boatTold : GoodIn wsX4_boat (wsV RX4 93 RX4 yX4_boatTold wsX4_boatTold) := goodIn_app (goodIn_of _ (by decide +kernel)) ggX4_boat_X4_boatTold
set_option maxRecDepth 20000 in
theorem ggX4_boat_X4_fail : GoodIn wsX4_boat wsX4_fail := goodIn_r _ [38, 1, 39, 40, 41, 42, 43, 44, 45, 46, 47] (by decide +kernel) (by decide +kernel)
set_option maxRecDepth 20000 in
theorem gX4_boat_X4_fail : GoodIn wsX4_boat (wsV RX4 46 RX4 yX4_fail wsX4_fail) := goodIn_app (goodIn_of _ (by decide +kernel)) ggX4_boat_X4_fail
theorem dX4_boat_0 : decode cX4_boat 0 = .ok (.aload_n 0, 1) := by decide +kernel
theorem dX4_boat_1 : decode cX4_boat 1 = .ok (.iconst 0, 1) := by decide +kernel
theorem dX4_boat_2 : decode cX4_boat 2 = .ok (.putfield 28, 3) := by decide +kernel
theorem dX4_boat_5 : decode cX4_boat 5 = .ok (.aload_n 0, 1) := by decide +kernel
theorem dX4_boat_6 : decode cX4_boat 6 = .ok (.iload_n 1, 1) := by decide +kernel
theorem dX4_boat_7 : decode cX4_boat 7 = .ok (.invokevirtual 75, 3) := by decide +kernel
theorem dX4_boat_10 : decode cX4_boat 10 = .ok (.ifCond .eq 22, 3) := by decide +kernel
theorem dX4_boat_13 : decode cX4_boat 13 = .ok (.iload_n 2, 1) := by decide +kernel
theorem dX4_boat_14 : decode cX4_boat 14 = .ok (.iconst 0, 1) := by decide +kernel
theorem dX4_boat_15 : decode cX4_boat 15 = .ok (.bipush 6, 2) := by decide +kernel
theorem dX4_boat_17 : decode cX4_boat 17 = .ok (.invokestatic 35, 3) := by decide +kernel
theorem dX4_boat_20 : decode cX4_boat 20 = .ok (.ifCond .eq 12, 3) := by decide +kernel
theorem dX4_boat_23 : decode cX4_boat 23 = .ok (.aload_n 0, 1) := by decide +kernel
theorem dX4_boat_24 : decode cX4_boat 24 = .ok (.iload_n 1, 1) := by decide +kernel
theorem dX4_boat_25 : decode cX4_boat 25 = .ok (.iload_n 2, 1) := by decide +kernel
theorem dX4_boat_26 : decode cX4_boat 26 = .ok (.invokevirtual 93, 3) := by decide +kernel
theorem dX4_boat_29 : decode cX4_boat 29 = .ok (.goto 8, 3) := by decide +kernel
theorem dX4_boat_32 : decode cX4_boat 32 = .ok (.aload_n 0, 1) := by decide +kernel
theorem dX4_boat_33 : decode cX4_boat 33 = .ok (.iconst 1, 1) := by decide +kernel
theorem dX4_boat_34 : decode cX4_boat 34 = .ok (.invokevirtual 46, 3) := by decide +kernel
theorem dX4_boat_37 : decode cX4_boat 37 = .ok (.ireturn, 1) := by decide +kernel
set_option maxRecDepth 20000 in
theorem ggX4_beach_X4_isIn : GoodIn wsX4_beach wsX4_isIn := goodIn_r _ [6] (by decide +kernel) (by decide +kernel)
set_option maxRecDepth 20000 in
theorem gX4_beach_X4_isIn : GoodIn wsX4_beach (va_wsS RX4 35 yX4_isIn wsX4_isIn) := goodIn_app (goodIn_of _ (by decide +kernel)) ggX4_beach_X4_isIn
set_option maxRecDepth 20000 in
theorem ggX4_beach_X4_fail : GoodIn wsX4_beach wsX4_fail := goodIn_r _ [10, 1, 11, 12, 13, 14, 15, 16, 17, 18, 19] (by decide +kernel) (by decide +kernel)
set_option maxRecDepth 20000 in
theorem gX4_beach_X4_fail : GoodIn wsX4_beach (wsV RX4 46 RX4 yX4_fail wsX4_fail) := goodIn_app (goodIn_of _ (by decide +kernel)) ggX4_beach_X4_fail
theorem dX4_beach_0 : decode cX4_beach 0 = .ok (.aload_n 0, 1) := by decide +kernel
theorem dX4_beach_1 : decode cX4_beach 1 = .ok (.iconst 0, 1) := by decide +kernel
theorem dX4_beach_2 : decode cX4_beach 2 = .ok (.putfield 28, 3) := by decide +kernel
theorem dX4_beach_5 : decode cX4_beach 5 = .ok (.iload_n 1, 1) := by decide +kernel
theorem dX4_beach_6 : decode cX4_beach 6 = .ok (.iconst 0, 1) := by decide +kernel
theorem dX4_beach_7 : decode cX4_beach 7 = .ok (.iconst 2, 1) := by decide +kernel
theorem dX4_beach_8 : decode cX4_beach 8 = .ok (.invokestatic 35, 3) := by decide +kernel
theorem dX4_beach_11 : decode cX4_beach 11 = .ok (.ifCond .eq 14, 3) := by decide +kernel
theorem dX4_beach_14 : decode cX4_beach 14 = .ok (.aload_n 0, 1) := by decide +kernel
theorem dX4_beach_15 : decode cX4_beach 15 = .ok (.getfield 25, 3) := by decide +kernel
theorem dX4_beach_18 : decode cX4_beach 18 = .ok (.iconst 3, 1) := by decide +kernel
theorem dX4_beach_19 : decode cX4_beach 19 = .ok (.iload_n 1, 1) := by decide +kernel
theorem dX4_beach_20 : decode cX4_beach 20 = .ok (.iadd, 1) := by decide +kernel
theorem dX4_beach_21 : decode cX4_beach 21 = .ok (.iaload, 1) := by decide +kernel
theorem dX4_beach_22 : decode cX4_beach 22 = .ok (.goto 8, 3) := by decide +kernel
theorem dX4_beach_25 : decode cX4_beach 25 = .ok (.aload_n 0, 1) := by decide +kernel
theorem dX4_beach_26 : decode cX4_beach 26 = .ok (.iconst 1, 1) := by decide +kernel
theorem dX4_beach_27 : decode cX4_beach 27 = .ok (.invokevirtual 46, 3) := by decide +kernel
theorem dX4_beach_30 : decode cX4_beach 30 = .ok (.ireturn, 1) := by decide +kernel
theorem dX4_gust_0 : decode cX4_gust 0 = .ok (.aload_n 0, 1) := by decide +kernel
theorem dX4_gust_1 : decode cX4_gust 1 = .ok (.getfield 16, 3) := by decide +kernel
theorem dX4_gust_4 : decode cX4_gust 4 = .ok (.aload_n 0, 1) := by decide +kernel
theorem dX4_gust_5 : decode cX4_gust 5 = .ok (.getfield 25, 3) := by decide +kernel
theorem dX4_gust_8 : decode cX4_gust 8 = .ok (.iconst 0, 1) := by decide +kernel
theorem dX4_gust_9 : decode cX4_gust 9 = .ok (.iaload, 1) := by decide +kernel
theorem dX4_gust_10 : decode cX4_gust 10 = .ok (.bipush 8, 2) := by decide +kernel
theorem dX4_gust_12 : decode cX4_gust 12 = .ok (.irem, 1) := by decide +kernel
theorem dX4_gust_13 : decode cX4_gust 13 = .ok (.iaload, 1) := by decide +kernel
theorem dX4_gust_14 : decode cX4_gust 14 = .ok (.ireturn, 1) := by decide +kernel
set_option maxRecDepth 20000 in
theorem ggX4_aboard_X4_sl : GoodIn wsX4_aboard wsX4_sl := goodIn_r _ [6, 7, 8, 9, 10, 11, 12, 13, 14, 15, 16] (by decide +kernel) (by decide +kernel)
set_option maxRecDepth 20000 in
theorem gX4_aboard_X4_sl : GoodIn wsX4_aboard (wsV RX4 57 RX4 yX4_sl wsX4_sl) := goodIn_app (goodIn_of _ (by decide +kernel)) ggX4_aboard_X4_sl
theorem dX4_aboard_0 : decode cX4_aboard 0 = .ok (.iconst 0, 1) := by decide +kernel
theorem dX4_aboard_1 : decode cX4_aboard 1 = .ok (.istore_n 1, 1) := by decide +kernel
theorem dX4_aboard_2 : decode cX4_aboard 2 = .ok (.iconst 0, 1) := by decide +kernel
theorem dX4_aboard_3 : decode cX4_aboard 3 = .ok (.istore_n 2, 1) := by decide +kernel
theorem dX4_aboard_4 : decode cX4_aboard 4 = .ok (.iload_n 2, 1) := by decide +kernel
theorem dX4_aboard_5 : decode cX4_aboard 5 = .ok (.aload_n 0, 1) := by decide +kernel
theorem dX4_aboard_6 : decode cX4_aboard 6 = .ok (.getfield 32, 3) := by decide +kernel
theorem dX4_aboard_9 : decode cX4_aboard 9 = .ok (.if_icmp .ge 18, 3) := by decide +kernel
theorem dX4_aboard_12 : decode cX4_aboard 12 = .ok (.iload_n 1, 1) := by decide +kernel
theorem dX4_aboard_13 : decode cX4_aboard 13 = .ok (.aload_n 0, 1) := by decide +kernel
theorem dX4_aboard_14 : decode cX4_aboard 14 = .ok (.iload_n 2, 1) := by decide +kernel
theorem dX4_aboard_15 : decode cX4_aboard 15 = .ok (.iconst 1, 1) := by decide +kernel
theorem dX4_aboard_16 : decode cX4_aboard 16 = .ok (.invokevirtual 57, 3) := by decide +kernel
theorem dX4_aboard_19 : decode cX4_aboard 19 = .ok (.iadd, 1) := by decide +kernel
theorem dX4_aboard_20 : decode cX4_aboard 20 = .ok (.istore_n 1, 1) := by decide +kernel
theorem dX4_aboard_21 : decode cX4_aboard 21 = .ok (.iinc 2 1, 3) := by decide +kernel
theorem dX4_aboard_24 : decode cX4_aboard 24 = .ok (.goto (-20), 3) := by decide +kernel
theorem dX4_aboard_27 : decode cX4_aboard 27 = .ok (.iload_n 1, 1) := by decide +kernel
theorem dX4_aboard_28 : decode cX4_aboard 28 = .ok (.ireturn, 1) := by decide +kernel
theorem dX4_ashore_0 : decode cX4_ashore 0 = .ok (.aload_n 0, 1) := by decide +kernel
theorem dX4_ashore_1 : decode cX4_ashore 1 = .ok (.getfield 25, 3) := by decide +kernel
theorem dX4_ashore_4 : decode cX4_ashore 4 = .ok (.iconst 3, 1) := by decide +kernel
theorem dX4_ashore_5 : decode cX4_ashore 5 = .ok (.iaload, 1) := by decide +kernel
theorem dX4_ashore_6 : decode cX4_ashore 6 = .ok (.aload_n 0, 1) := by decide +kernel
theorem dX4_ashore_7 : decode cX4_ashore 7 = .ok (.getfield 25, 3) := by decide +kernel
theorem dX4_ashore_10 : decode cX4_ashore 10 = .ok (.iconst 4, 1) := by decide +kernel
theorem dX4_ashore_11 : decode cX4_ashore 11 = .ok (.iaload, 1) := by decide +kernel
theorem dX4_ashore_12 : decode cX4_ashore 12 = .ok (.iadd, 1) := by decide +kernel
theorem dX4_ashore_13 : decode cX4_ashore 13 = .ok (.aload_n 0, 1) := by decide +kernel
theorem dX4_ashore_14 : decode cX4_ashore 14 = .ok (.getfield 25, 3) := by decide +kernel
theorem dX4_ashore_17 : decode cX4_ashore 17 = .ok (.iconst 5, 1) := by decide +kernel
theorem dX4_ashore_18 : decode cX4_ashore 18 = .ok (.iaload, 1) := by decide +kernel
theorem dX4_ashore_19 : decode cX4_ashore 19 = .ok (.iadd, 1) := by decide +kernel
theorem dX4_ashore_20 : decode cX4_ashore 20 = .ok (.ireturn, 1) := by decide +kernel
set_option maxRecDepth 20000 in
theorem ggX4_counted_X4_gust : GoodIn wsX4_counted wsX4_gust := goodIn_r _ [9, 10, 1, 24, 25, 26, 27, 28, 29, 30, 31, 32] (by decide +kernel) (by decide +kernel)
set_option maxRecDepth 20000 in
theorem gX4_counted_X4_gust : GoodIn wsX4_counted (wsV RX4 96 RX4 yX4_gust wsX4_gust) := goodIn_app (goodIn_of _ (by decide +kernel)) ggX4_counted_X4_gust
set_option maxRecDepth 20000 in
theorem ggX4_counted_X4_aboard : GoodIn wsX4_counted wsX4_aboard := goodIn_r _ [14, 2, 15, 16, 17, 8, 18, 19, 24, 25, 26, 27, 28, 29, 30, 31, 32] (by decide +kernel) (by decide +kernel)
set_option maxRecDepth 20000 in
theorem gX4_counted_X4_aboard : GoodIn wsX4_counted (wsV RX4 100 RX4 yX4_aboard wsX4_aboard) := goodIn_app (goodIn_of _ (by decide +kernel)) ggX4_counted_X4_aboard
set_option maxRecDepth 20000 in
theorem ggX4_counted_X4_ashore : GoodIn wsX4_counted wsX4_ashore := goodIn_r _ [23, 1, 24, 25, 26, 27, 28, 29, 30, 31, 32] (by decide +kernel) (by decide +kernel)
set_option maxRecDepth 20000 in
theorem gX4_counted_X4_ashore : GoodIn wsX4_counted (wsV RX4 103 RX4 yX4_ashore wsX4_ashore) := goodIn_app (goodIn_of _ (by decide +kernel)) ggX4_counted_X4_ashore
theorem dX4_counted_0 : decode cX4_counted 0 = .ok (.iconst 0, 1) := by decide +kernel
theorem dX4_counted_1 : decode cX4_counted 1 = .ok (.istore_n 2, 1) := by decide +kernel
theorem dX4_counted_2 : decode cX4_counted 2 = .ok (.iload_n 1, 1) := by decide +kernel
theorem dX4_counted_3 : decode cX4_counted 3 = .ok (.tableswitch 91 0 7 #[45, 52, 57, 62, 67, 74, 79, 84], 45) := by decide +kernel
theorem dX4_counted_48 : decode cX4_counted 48 = .ok (.aload_n 0, 1) := by decide +kernel
theorem dX4_counted_49 : decode cX4_counted 49 = .ok (.getfield 25, 3) := by decide +kernel
theorem dX4_counted_52 : decode cX4_counted 52 = .ok (.iconst 0, 1) := by decide +kernel
theorem dX4_counted_53 : decode cX4_counted 53 = .ok (.iaload, 1) := by decide +kernel
theorem dX4_counted_54 : decode cX4_counted 54 = .ok (.ireturn, 1) := by decide +kernel
theorem dX4_counted_55 : decode cX4_counted 55 = .ok (.aload_n 0, 1) := by decide +kernel
theorem dX4_counted_56 : decode cX4_counted 56 = .ok (.invokevirtual 96, 3) := by decide +kernel
theorem dX4_counted_59 : decode cX4_counted 59 = .ok (.ireturn, 1) := by decide +kernel
theorem dX4_counted_60 : decode cX4_counted 60 = .ok (.aload_n 0, 1) := by decide +kernel
theorem dX4_counted_61 : decode cX4_counted 61 = .ok (.getfield 32, 3) := by decide +kernel
theorem dX4_counted_64 : decode cX4_counted 64 = .ok (.ireturn, 1) := by decide +kernel
theorem dX4_counted_65 : decode cX4_counted 65 = .ok (.aload_n 0, 1) := by decide +kernel
theorem dX4_counted_66 : decode cX4_counted 66 = .ok (.getfield 39, 3) := by decide +kernel
theorem dX4_counted_69 : decode cX4_counted 69 = .ok (.ireturn, 1) := by decide +kernel
theorem dX4_counted_70 : decode cX4_counted 70 = .ok (.aload_n 0, 1) := by decide +kernel
theorem dX4_counted_71 : decode cX4_counted 71 = .ok (.getfield 25, 3) := by decide +kernel
theorem dX4_counted_74 : decode cX4_counted 74 = .ok (.iconst 1, 1) := by decide +kernel
theorem dX4_counted_75 : decode cX4_counted 75 = .ok (.iaload, 1) := by decide +kernel
theorem dX4_counted_76 : decode cX4_counted 76 = .ok (.ireturn, 1) := by decide +kernel
theorem dX4_counted_77 : decode cX4_counted 77 = .ok (.aload_n 0, 1) := by decide +kernel
theorem dX4_counted_78 : decode cX4_counted 78 = .ok (.invokevirtual 100, 3) := by decide +kernel
theorem dX4_counted_81 : decode cX4_counted 81 = .ok (.ireturn, 1) := by decide +kernel
theorem dX4_counted_82 : decode cX4_counted 82 = .ok (.aload_n 0, 1) := by decide +kernel
theorem dX4_counted_83 : decode cX4_counted 83 = .ok (.invokevirtual 103, 3) := by decide +kernel
theorem dX4_counted_86 : decode cX4_counted 86 = .ok (.ireturn, 1) := by decide +kernel
theorem dX4_counted_87 : decode cX4_counted 87 = .ok (.aload_n 0, 1) := by decide +kernel
theorem dX4_counted_88 : decode cX4_counted 88 = .ok (.getfield 25, 3) := by decide +kernel
theorem dX4_counted_91 : decode cX4_counted 91 = .ok (.iconst 2, 1) := by decide +kernel
theorem dX4_counted_92 : decode cX4_counted 92 = .ok (.iaload, 1) := by decide +kernel
theorem dX4_counted_93 : decode cX4_counted 93 = .ok (.ireturn, 1) := by decide +kernel
theorem dX4_counted_94 : decode cX4_counted 94 = .ok (.aload_n 0, 1) := by decide +kernel
theorem dX4_counted_95 : decode cX4_counted 95 = .ok (.getfield 9, 3) := by decide +kernel
theorem dX4_counted_98 : decode cX4_counted 98 = .ok (.astore_n 3, 1) := by decide +kernel
theorem dX4_counted_99 : decode cX4_counted 99 = .ok (.aload_n 3, 1) := by decide +kernel
theorem dX4_counted_100 : decode cX4_counted 100 = .ok (.arraylength, 1) := by decide +kernel
theorem dX4_counted_101 : decode cX4_counted 101 = .ok (.istore 4, 2) := by decide +kernel
theorem dX4_counted_103 : decode cX4_counted 103 = .ok (.iconst 0, 1) := by decide +kernel
theorem dX4_counted_104 : decode cX4_counted 104 = .ok (.istore 5, 2) := by decide +kernel
theorem dX4_counted_106 : decode cX4_counted 106 = .ok (.iload 5, 2) := by decide +kernel
theorem dX4_counted_108 : decode cX4_counted 108 = .ok (.iload 4, 2) := by decide +kernel
theorem dX4_counted_110 : decode cX4_counted 110 = .ok (.if_icmp .ge 20, 3) := by decide +kernel
theorem dX4_counted_113 : decode cX4_counted 113 = .ok (.aload_n 3, 1) := by decide +kernel
theorem dX4_counted_114 : decode cX4_counted 114 = .ok (.iload 5, 2) := by decide +kernel
theorem dX4_counted_116 : decode cX4_counted 116 = .ok (.iaload, 1) := by decide +kernel
theorem dX4_counted_117 : decode cX4_counted 117 = .ok (.istore 6, 2) := by decide +kernel
theorem dX4_counted_119 : decode cX4_counted 119 = .ok (.iload_n 2, 1) := by decide +kernel
theorem dX4_counted_120 : decode cX4_counted 120 = .ok (.iload 6, 2) := by decide +kernel
theorem dX4_counted_122 : decode cX4_counted 122 = .ok (.iadd, 1) := by decide +kernel
theorem dX4_counted_123 : decode cX4_counted 123 = .ok (.istore_n 2, 1) := by decide +kernel
theorem dX4_counted_124 : decode cX4_counted 124 = .ok (.iinc 5 1, 3) := by decide +kernel
theorem dX4_counted_127 : decode cX4_counted 127 = .ok (.goto (-21), 3) := by decide +kernel
theorem dX4_counted_130 : decode cX4_counted 130 = .ok (.iload_n 2, 1) := by decide +kernel
theorem dX4_counted_131 : decode cX4_counted 131 = .ok (.ireturn, 1) := by decide +kernel
set_option maxRecDepth 20000 in
theorem ggX4_count_X4_isIn : GoodIn wsX4_count wsX4_isIn := goodIn_r _ [5] (by decide +kernel) (by decide +kernel)
set_option maxRecDepth 20000 in
theorem gX4_count_X4_isIn : GoodIn wsX4_count (va_wsS RX4 35 yX4_isIn wsX4_isIn) := goodIn_app (goodIn_of _ (by decide +kernel)) ggX4_count_X4_isIn
set_option maxRecDepth 20000 in
theorem ggX4_count_X4_counted : GoodIn wsX4_count wsX4_counted := goodIn_r _ [9, 10, 11, 12, 13, 14, 15, 16, 4, 17, 18, 19, 20, 21, 22, 23, 24, 25, 26, 27, 28, 29, 30, 31, 36, 37, 38, 39, 40, 41, 42, 43, 44] (by decide +kernel) (by decide +kernel)
set_option maxRecDepth 20000 in
theorem gX4_count_X4_counted : GoodIn wsX4_count (wsV RX4 106 RX4 yX4_counted wsX4_counted) := goodIn_app (goodIn_of _ (by decide +kernel)) ggX4_count_X4_counted
set_option maxRecDepth 20000 in
theorem ggX4_count_X4_fail : GoodIn wsX4_count wsX4_fail := goodIn_r _ [35, 1, 36, 37, 38, 39, 40, 41, 42, 43, 44] (by decide +kernel) (by decide +kernel)
set_option maxRecDepth 20000 in
theorem gX4_count_X4_fail : GoodIn wsX4_count (wsV RX4 46 RX4 yX4_fail wsX4_fail) := goodIn_app (goodIn_of _ (by decide +kernel)) ggX4_count_X4_fail
theorem dX4_count_0 : decode cX4_count 0 = .ok (.aload_n 0, 1) := by decide +kernel
theorem dX4_count_1 : decode cX4_count 1 = .ok (.iconst 0, 1) := by decide +kernel
theorem dX4_count_2 : decode cX4_count 2 = .ok (.putfield 28, 3) := by decide +kernel
theorem dX4_count_5 : decode cX4_count 5 = .ok (.iload_n 1, 1) := by decide +kernel
theorem dX4_count_6 : decode cX4_count 6 = .ok (.iconst 0, 1) := by decide +kernel
theorem dX4_count_7 : decode cX4_count 7 = .ok (.bipush 8, 2) := by decide +kernel
theorem dX4_count_9 : decode cX4_count 9 = .ok (.invokestatic 35, 3) := by decide +kernel
theorem dX4_count_12 : decode cX4_count 12 = .ok (.ifCond .eq 11, 3) := by decide +kernel
theorem dX4_count_15 : decode cX4_count 15 = .ok (.aload_n 0, 1) := by decide +kernel
theorem dX4_count_16 : decode cX4_count 16 = .ok (.iload_n 1, 1) := by decide +kernel
theorem dX4_count_17 : decode cX4_count 17 = .ok (.invokevirtual 106, 3) := by decide +kernel
theorem dX4_count_20 : decode cX4_count 20 = .ok (.goto 8, 3) := by decide +kernel
theorem dX4_count_23 : decode cX4_count 23 = .ok (.aload_n 0, 1) := by decide +kernel
theorem dX4_count_24 : decode cX4_count 24 = .ok (.iconst 1, 1) := by decide +kernel
theorem dX4_count_25 : decode cX4_count 25 = .ok (.invokevirtual 46, 3) := by decide +kernel
theorem dX4_count_28 : decode cX4_count 28 = .ok (.ireturn, 1) := by decide +kernel
set_option maxRecDepth 20000 in
theorem ggX4_slide_X4_sl : GoodIn wsX4_slide wsX4_sl := goodIn_r _ [10, 11, 21, 22, 23, 24, 25, 26, 27, 28, 29] (by decide +kernel) (by decide +kernel)
set_option maxRecDepth 20000 in
theorem gX4_slide_X4_sl : GoodIn wsX4_slide (wsV RX4 57 RX4 yX4_sl wsX4_sl) := goodIn_app (goodIn_of _ (by decide +kernel)) ggX4_slide_X4_sl
set_option maxRecDepth 20000 in
theorem ggX4_slide_X4_gust : GoodIn wsX4_slide wsX4_gust := goodIn_r _ [15, 16, 1, 21, 22, 23, 24, 25, 26, 27, 28, 29] (by decide +kernel) (by decide +kernel)
set_option maxRecDepth 20000 in
theorem gX4_slide_X4_gust : GoodIn wsX4_slide (wsV RX4 96 RX4 yX4_gust wsX4_gust) := goodIn_app (goodIn_of _ (by decide +kernel)) ggX4_slide_X4_gust
set_option maxRecDepth 20000 in
theorem ggX4_slide_X4_put : GoodIn wsX4_slide wsX4_put := goodIn_r _ [20, 11, 21, 22, 23, 24, 25, 26, 27, 28, 29] (by decide +kernel) (by decide +kernel)
set_option maxRecDepth 20000 in
theorem gX4_slide_X4_put : GoodIn wsX4_slide (wsV RX4 50 RX4 yX4_put wsX4_put) := goodIn_app (goodIn_of _ (by decide +kernel)) ggX4_slide_X4_put
theorem dX4_slide_0 : decode cX4_slide 0 = .ok (.aload_n 0, 1) := by decide +kernel
theorem dX4_slide_1 : decode cX4_slide 1 = .ok (.iload_n 1, 1) := by decide +kernel
theorem dX4_slide_2 : decode cX4_slide 2 = .ok (.iconst 1, 1) := by decide +kernel
theorem dX4_slide_3 : decode cX4_slide 3 = .ok (.invokevirtual 57, 3) := by decide +kernel
theorem dX4_slide_6 : decode cX4_slide 6 = .ok (.ifCond .le 44, 3) := by decide +kernel
theorem dX4_slide_9 : decode cX4_slide 9 = .ok (.aload_n 0, 1) := by decide +kernel
theorem dX4_slide_10 : decode cX4_slide 10 = .ok (.invokevirtual 96, 3) := by decide +kernel
theorem dX4_slide_13 : decode cX4_slide 13 = .ok (.iconst 4, 1) := by decide +kernel
theorem dX4_slide_14 : decode cX4_slide 14 = .ok (.iconst 2, 1) := by decide +kernel
theorem dX4_slide_15 : decode cX4_slide 15 = .ok (.aload_n 0, 1) := by decide +kernel
theorem dX4_slide_16 : decode cX4_slide 16 = .ok (.iload_n 1, 1) := by decide +kernel
theorem dX4_slide_17 : decode cX4_slide 17 = .ok (.iconst 1, 1) := by decide +kernel
theorem dX4_slide_18 : decode cX4_slide 18 = .ok (.invokevirtual 57, 3) := by decide +kernel
theorem dX4_slide_21 : decode cX4_slide 21 = .ok (.imul, 1) := by decide +kernel
theorem dX4_slide_22 : decode cX4_slide 22 = .ok (.iadd, 1) := by decide +kernel
theorem dX4_slide_23 : decode cX4_slide 23 = .ok (.if_icmp .le 27, 3) := by decide +kernel
theorem dX4_slide_26 : decode cX4_slide 26 = .ok (.aload_n 0, 1) := by decide +kernel
theorem dX4_slide_27 : decode cX4_slide 27 = .ok (.iload_n 1, 1) := by decide +kernel
theorem dX4_slide_28 : decode cX4_slide 28 = .ok (.iconst 1, 1) := by decide +kernel
theorem dX4_slide_29 : decode cX4_slide 29 = .ok (.aload_n 0, 1) := by decide +kernel
theorem dX4_slide_30 : decode cX4_slide 30 = .ok (.iload_n 1, 1) := by decide +kernel
theorem dX4_slide_31 : decode cX4_slide 31 = .ok (.iconst 1, 1) := by decide +kernel
theorem dX4_slide_32 : decode cX4_slide 32 = .ok (.invokevirtual 57, 3) := by decide +kernel
theorem dX4_slide_35 : decode cX4_slide 35 = .ok (.iconst 1, 1) := by decide +kernel
theorem dX4_slide_36 : decode cX4_slide 36 = .ok (.isub, 1) := by decide +kernel
theorem dX4_slide_37 : decode cX4_slide 37 = .ok (.invokevirtual 50, 3) := by decide +kernel
theorem dX4_slide_40 : decode cX4_slide 40 = .ok (.aload_n 0, 1) := by decide +kernel
theorem dX4_slide_41 : decode cX4_slide 41 = .ok (.getfield 25, 3) := by decide +kernel
theorem dX4_slide_44 : decode cX4_slide 44 = .ok (.iconst 2, 1) := by decide +kernel
theorem dX4_slide_45 : decode cX4_slide 45 = .ok (.dup2, 1) := by decide +kernel
theorem dX4_slide_46 : decode cX4_slide 46 = .ok (.iaload, 1) := by decide +kernel
theorem dX4_slide_47 : decode cX4_slide 47 = .ok (.iconst 1, 1) := by decide +kernel
theorem dX4_slide_48 : decode cX4_slide 48 = .ok (.iadd, 1) := by decide +kernel
theorem dX4_slide_49 : decode cX4_slide 49 = .ok (.iastore, 1) := by decide +kernel
theorem dX4_slide_50 : decode cX4_slide 50 = .ok (.aload_n 0, 1) := by decide +kernel
theorem dX4_slide_51 : decode cX4_slide 51 = .ok (.iload_n 1, 1) := by decide +kernel
theorem dX4_slide_52 : decode cX4_slide 52 = .ok (.iconst 2, 1) := by decide +kernel
theorem dX4_slide_53 : decode cX4_slide 53 = .ok (.iconst 0, 1) := by decide +kernel
theorem dX4_slide_54 : decode cX4_slide 54 = .ok (.aload_n 0, 1) := by decide +kernel
theorem dX4_slide_55 : decode cX4_slide 55 = .ok (.iload_n 1, 1) := by decide +kernel
theorem dX4_slide_56 : decode cX4_slide 56 = .ok (.iconst 2, 1) := by decide +kernel
theorem dX4_slide_57 : decode cX4_slide 57 = .ok (.invokevirtual 57, 3) := by decide +kernel
theorem dX4_slide_60 : decode cX4_slide 60 = .ok (.iconst 4, 1) := by decide +kernel
theorem dX4_slide_61 : decode cX4_slide 61 = .ok (.aload_n 0, 1) := by decide +kernel
theorem dX4_slide_62 : decode cX4_slide 62 = .ok (.iload_n 1, 1) := by decide +kernel
theorem dX4_slide_63 : decode cX4_slide 63 = .ok (.iconst 1, 1) := by decide +kernel
theorem dX4_slide_64 : decode cX4_slide 64 = .ok (.invokevirtual 57, 3) := by decide +kernel
theorem dX4_slide_67 : decode cX4_slide 67 = .ok (.iconst 3, 1) := by decide +kernel
theorem dX4_slide_68 : decode cX4_slide 68 = .ok (.idiv, 1) := by decide +kernel
theorem dX4_slide_69 : decode cX4_slide 69 = .ok (.isub, 1) := by decide +kernel
theorem dX4_slide_70 : decode cX4_slide 70 = .ok (.aload_n 0, 1) := by decide +kernel
theorem dX4_slide_71 : decode cX4_slide 71 = .ok (.invokevirtual 96, 3) := by decide +kernel
theorem dX4_slide_74 : decode cX4_slide 74 = .ok (.iconst 2, 1) := by decide +kernel
theorem dX4_slide_75 : decode cX4_slide 75 = .ok (.idiv, 1) := by decide +kernel
theorem dX4_slide_76 : decode cX4_slide 76 = .ok (.iadd, 1) := by decide +kernel
theorem dX4_slide_77 : decode cX4_slide 77 = .ok (.isub, 1) := by decide +kernel
theorem dX4_slide_78 : decode cX4_slide 78 = .ok (.invokestatic 109, 3) := by decide +kernel
theorem dX4_slide_81 : decode cX4_slide 81 = .ok (.invokevirtual 50, 3) := by decide +kernel
theorem dX4_slide_84 : decode cX4_slide 84 = .ok (.return_, 1) := by decide +kernel
set_option maxRecDepth 20000 in
theorem ggX4_climb_X4_sl : GoodIn wsX4_climb wsX4_sl := goodIn_r _ [9, 10, 15, 16, 17, 18, 19, 20, 21, 22, 23] (by decide +kernel) (by decide +kernel)
set_option maxRecDepth 20000 in
theorem gX4_climb_X4_sl : GoodIn wsX4_climb (wsV RX4 57 RX4 yX4_sl wsX4_sl) := goodIn_app (goodIn_of _ (by decide +kernel)) ggX4_climb_X4_sl
set_option maxRecDepth 20000 in
theorem ggX4_climb_X4_put : GoodIn wsX4_climb wsX4_put := goodIn_r _ [14, 10, 15, 16, 17, 18, 19, 20, 21, 22, 23] (by decide +kernel) (by decide +kernel)
set_option maxRecDepth 20000 in
theorem gX4_climb_X4_put : GoodIn wsX4_climb (wsV RX4 50 RX4 yX4_put wsX4_put) := goodIn_app (goodIn_of _ (by decide +kernel)) ggX4_climb_X4_put
theorem dX4_climb_0 : decode cX4_climb 0 = .ok (.aload_n 0, 1) := by decide +kernel
theorem dX4_climb_1 : decode cX4_climb 1 = .ok (.iload_n 1, 1) := by decide +kernel
theorem dX4_climb_2 : decode cX4_climb 2 = .ok (.iconst 2, 1) := by decide +kernel
theorem dX4_climb_3 : decode cX4_climb 3 = .ok (.bipush 20, 2) := by decide +kernel
theorem dX4_climb_5 : decode cX4_climb 5 = .ok (.aload_n 0, 1) := by decide +kernel
theorem dX4_climb_6 : decode cX4_climb 6 = .ok (.iload_n 1, 1) := by decide +kernel
theorem dX4_climb_7 : decode cX4_climb 7 = .ok (.iconst 2, 1) := by decide +kernel
theorem dX4_climb_8 : decode cX4_climb 8 = .ok (.invokevirtual 57, 3) := by decide +kernel
theorem dX4_climb_11 : decode cX4_climb 11 = .ok (.iconst 5, 1) := by decide +kernel
theorem dX4_climb_12 : decode cX4_climb 12 = .ok (.iadd, 1) := by decide +kernel
theorem dX4_climb_13 : decode cX4_climb 13 = .ok (.invokestatic 112, 3) := by decide +kernel
theorem dX4_climb_16 : decode cX4_climb 16 = .ok (.invokevirtual 50, 3) := by decide +kernel
theorem dX4_climb_19 : decode cX4_climb 19 = .ok (.aload_n 0, 1) := by decide +kernel
theorem dX4_climb_20 : decode cX4_climb 20 = .ok (.iload_n 1, 1) := by decide +kernel
theorem dX4_climb_21 : decode cX4_climb 21 = .ok (.iconst 2, 1) := by decide +kernel
theorem dX4_climb_22 : decode cX4_climb 22 = .ok (.invokevirtual 57, 3) := by decide +kernel
theorem dX4_climb_25 : decode cX4_climb 25 = .ok (.bipush 20, 2) := by decide +kernel
theorem dX4_climb_27 : decode cX4_climb 27 = .ok (.if_icmp .ne 10, 3) := by decide +kernel
theorem dX4_climb_30 : decode cX4_climb 30 = .ok (.aload_n 0, 1) := by decide +kernel
theorem dX4_climb_31 : decode cX4_climb 31 = .ok (.iload_n 1, 1) := by decide +kernel
theorem dX4_climb_32 : decode cX4_climb 32 = .ok (.iconst 3, 1) := by decide +kernel
theorem dX4_climb_33 : decode cX4_climb 33 = .ok (.iconst 0, 1) := by decide +kernel
theorem dX4_climb_34 : decode cX4_climb 34 = .ok (.invokevirtual 50, 3) := by decide +kernel
theorem dX4_climb_37 : decode cX4_climb 37 = .ok (.return_, 1) := by decide +kernel
set_option maxRecDepth 20000 in
theorem ggX4_unload_X4_sl : GoodIn wsX4_unload wsX4_sl := goodIn_r _ [6, 7, 15, 16, 17, 18, 19, 20, 21, 22, 23] (by decide +kernel) (by decide +kernel)
set_option maxRecDepth 20000 in
theorem gX4_unload_X4_sl : GoodIn wsX4_unload (wsV RX4 57 RX4 yX4_sl wsX4_sl) := goodIn_app (goodIn_of _ (by decide +kernel)) ggX4_unload_X4_sl
set_option maxRecDepth 20000 in
theorem ggX4_unload_X4_kind : GoodIn wsX4_unload wsX4_kind := goodIn_r _ [10] (by decide +kernel) (by decide +kernel)
set_option maxRecDepth 20000 in
theorem gX4_unload_X4_kind : GoodIn wsX4_unload (va_wsS RX4 61 yX4_kind wsX4_kind) := goodIn_app (goodIn_of _ (by decide +kernel)) ggX4_unload_X4_kind
set_option maxRecDepth 20000 in
theorem ggX4_unload_X4_put : GoodIn wsX4_unload wsX4_put := goodIn_r _ [14, 7, 15, 16, 17, 18, 19, 20, 21, 22, 23] (by decide +kernel) (by decide +kernel)
set_option maxRecDepth 20000 in
theorem gX4_unload_X4_put : GoodIn wsX4_unload (wsV RX4 50 RX4 yX4_put wsX4_put) := goodIn_app (goodIn_of _ (by decide +kernel)) ggX4_unload_X4_put
theorem dX4_unload_0 : decode cX4_unload 0 = .ok (.iconst 0, 1) := by decide +kernel
theorem dX4_unload_1 : decode cX4_unload 1 = .ok (.istore_n 2, 1) := by decide +kernel
theorem dX4_unload_2 : decode cX4_unload 2 = .ok (.iload_n 2, 1) := by decide +kernel
theorem dX4_unload_3 : decode cX4_unload 3 = .ok (.aload_n 0, 1) := by decide +kernel
theorem dX4_unload_4 : decode cX4_unload 4 = .ok (.iload_n 1, 1) := by decide +kernel
theorem dX4_unload_5 : decode cX4_unload 5 = .ok (.iconst 1, 1) := by decide +kernel
theorem dX4_unload_6 : decode cX4_unload 6 = .ok (.invokevirtual 57, 3) := by decide +kernel
theorem dX4_unload_9 : decode cX4_unload 9 = .ok (.if_icmp .ge 31, 3) := by decide +kernel
theorem dX4_unload_12 : decode cX4_unload 12 = .ok (.aload_n 0, 1) := by decide +kernel
theorem dX4_unload_13 : decode cX4_unload 13 = .ok (.getfield 25, 3) := by decide +kernel
theorem dX4_unload_16 : decode cX4_unload 16 = .ok (.iconst 3, 1) := by decide +kernel
theorem dX4_unload_17 : decode cX4_unload 17 = .ok (.aload_n 0, 1) := by decide +kernel
theorem dX4_unload_18 : decode cX4_unload 18 = .ok (.iload_n 1, 1) := by decide +kernel
theorem dX4_unload_19 : decode cX4_unload 19 = .ok (.iconst 4, 1) := by decide +kernel
theorem dX4_unload_20 : decode cX4_unload 20 = .ok (.iload_n 2, 1) := by decide +kernel
theorem dX4_unload_21 : decode cX4_unload 21 = .ok (.iadd, 1) := by decide +kernel
theorem dX4_unload_22 : decode cX4_unload 22 = .ok (.invokevirtual 57, 3) := by decide +kernel
theorem dX4_unload_25 : decode cX4_unload 25 = .ok (.invokestatic 61, 3) := by decide +kernel
theorem dX4_unload_28 : decode cX4_unload 28 = .ok (.iadd, 1) := by decide +kernel
theorem dX4_unload_29 : decode cX4_unload 29 = .ok (.dup2, 1) := by decide +kernel
theorem dX4_unload_30 : decode cX4_unload 30 = .ok (.iaload, 1) := by decide +kernel
theorem dX4_unload_31 : decode cX4_unload 31 = .ok (.iconst 1, 1) := by decide +kernel
theorem dX4_unload_32 : decode cX4_unload 32 = .ok (.iadd, 1) := by decide +kernel
theorem dX4_unload_33 : decode cX4_unload 33 = .ok (.iastore, 1) := by decide +kernel
theorem dX4_unload_34 : decode cX4_unload 34 = .ok (.iinc 2 1, 3) := by decide +kernel
theorem dX4_unload_37 : decode cX4_unload 37 = .ok (.goto (-35), 3) := by decide +kernel
theorem dX4_unload_40 : decode cX4_unload 40 = .ok (.aload_n 0, 1) := by decide +kernel
theorem dX4_unload_41 : decode cX4_unload 41 = .ok (.iload_n 1, 1) := by decide +kernel
theorem dX4_unload_42 : decode cX4_unload 42 = .ok (.iconst 1, 1) := by decide +kernel
theorem dX4_unload_43 : decode cX4_unload 43 = .ok (.iconst 0, 1) := by decide +kernel
theorem dX4_unload_44 : decode cX4_unload 44 = .ok (.invokevirtual 50, 3) := by decide +kernel
theorem dX4_unload_47 : decode cX4_unload 47 = .ok (.aload_n 0, 1) := by decide +kernel
theorem dX4_unload_48 : decode cX4_unload 48 = .ok (.iload_n 1, 1) := by decide +kernel
theorem dX4_unload_49 : decode cX4_unload 49 = .ok (.iconst 3, 1) := by decide +kernel
theorem dX4_unload_50 : decode cX4_unload 50 = .ok (.iconst 2, 1) := by decide +kernel
theorem dX4_unload_51 : decode cX4_unload 51 = .ok (.invokevirtual 50, 3) := by decide +kernel
theorem dX4_unload_54 : decode cX4_unload 54 = .ok (.return_, 1) := by decide +kernel
set_option maxRecDepth 20000 in
theorem ggX4_hourOn_X4_sl : GoodIn wsX4_hourOn wsX4_sl := goodIn_r _ [7, 8, 40, 41, 42, 43, 44, 45, 46, 47, 48] (by decide +kernel) (by decide +kernel)
set_option maxRecDepth 20000 in
theorem gX4_hourOn_X4_sl : GoodIn wsX4_hourOn (wsV RX4 57 RX4 yX4_sl wsX4_sl) := goodIn_app (goodIn_of _ (by decide +kernel)) ggX4_hourOn_X4_sl
set_option maxRecDepth 20000 in
theorem ggX4_hourOn_X4_slide : GoodIn wsX4_hourOn wsX4_slide := goodIn_r _ [12, 2, 13, 14, 15, 16, 3, 4, 5, 6, 7, 8, 17, 18, 19, 20, 21, 22, 23, 24, 25, 40, 41, 42, 43, 44, 45, 46, 47, 48] (by decide +kernel) (by decide +kernel)
set_option maxRecDepth 20000 in
theorem gX4_hourOn_X4_slide : GoodIn wsX4_hourOn (wsV RX4 115 RX4 yX4_slide wsX4_slide) := goodIn_app (goodIn_of _ (by decide +kernel)) ggX4_hourOn_X4_slide
set_option maxRecDepth 20000 in
theorem ggX4_hourOn_X4_climb : GoodIn wsX4_hourOn wsX4_climb := goodIn_r _ [29, 30, 31, 15, 32, 3, 4, 5, 6, 7, 8, 22, 23, 24, 25, 40, 41, 42, 43, 44, 45, 46, 47, 48] (by decide +kernel) (by decide +kernel)
set_option maxRecDepth 20000 in
theorem gX4_hourOn_X4_climb : GoodIn wsX4_hourOn (wsV RX4 119 RX4 yX4_climb wsX4_climb) := goodIn_app (goodIn_of _ (by decide +kernel)) ggX4_hourOn_X4_climb
set_option maxRecDepth 20000 in
theorem ggX4_hourOn_X4_unload : GoodIn wsX4_hourOn wsX4_unload := goodIn_r _ [36, 2, 3, 4, 5, 6, 7, 8, 37, 38, 39, 22, 23, 24, 25, 40, 41, 42, 43, 44, 45, 46, 47, 48] (by decide +kernel) (by decide +kernel)
set_option maxRecDepth 20000 in
theorem gX4_hourOn_X4_unload : GoodIn wsX4_hourOn (wsV RX4 122 RX4 yX4_unload wsX4_unload) := goodIn_app (goodIn_of _ (by decide +kernel)) ggX4_hourOn_X4_unload
theorem dX4_hourOn_0 : decode cX4_hourOn 0 = .ok (.iconst 0, 1) := by decide +kernel
theorem dX4_hourOn_1 : decode cX4_hourOn 1 = .ok (.istore_n 1, 1) := by decide +kernel
theorem dX4_hourOn_2 : decode cX4_hourOn 2 = .ok (.iload_n 1, 1) := by decide +kernel
theorem dX4_hourOn_3 : decode cX4_hourOn 3 = .ok (.aload_n 0, 1) := by decide +kernel
theorem dX4_hourOn_4 : decode cX4_hourOn 4 = .ok (.getfield 32, 3) := by decide +kernel
theorem dX4_hourOn_7 : decode cX4_hourOn 7 = .ok (.if_icmp .ge 24, 3) := by decide +kernel
theorem dX4_hourOn_10 : decode cX4_hourOn 10 = .ok (.aload_n 0, 1) := by decide +kernel
theorem dX4_hourOn_11 : decode cX4_hourOn 11 = .ok (.iload_n 1, 1) := by decide +kernel
theorem dX4_hourOn_12 : decode cX4_hourOn 12 = .ok (.iconst 3, 1) := by decide +kernel
theorem dX4_hourOn_13 : decode cX4_hourOn 13 = .ok (.invokevirtual 57, 3) := by decide +kernel
theorem dX4_hourOn_16 : decode cX4_hourOn 16 = .ok (.iconst 1, 1) := by decide +kernel
theorem dX4_hourOn_17 : decode cX4_hourOn 17 = .ok (.if_icmp .ne 8, 3) := by decide +kernel
theorem dX4_hourOn_20 : decode cX4_hourOn 20 = .ok (.aload_n 0, 1) := by decide +kernel
theorem dX4_hourOn_21 : decode cX4_hourOn 21 = .ok (.iload_n 1, 1) := by decide +kernel
theorem dX4_hourOn_22 : decode cX4_hourOn 22 = .ok (.invokevirtual 115, 3) := by decide +kernel
theorem dX4_hourOn_25 : decode cX4_hourOn 25 = .ok (.iinc 1 1, 3) := by decide +kernel
theorem dX4_hourOn_28 : decode cX4_hourOn 28 = .ok (.goto (-26), 3) := by decide +kernel
theorem dX4_hourOn_31 : decode cX4_hourOn 31 = .ok (.iconst 0, 1) := by decide +kernel
theorem dX4_hourOn_32 : decode cX4_hourOn 32 = .ok (.istore_n 1, 1) := by decide +kernel
theorem dX4_hourOn_33 : decode cX4_hourOn 33 = .ok (.iload_n 1, 1) := by decide +kernel
theorem dX4_hourOn_34 : decode cX4_hourOn 34 = .ok (.aload_n 0, 1) := by decide +kernel
theorem dX4_hourOn_35 : decode cX4_hourOn 35 = .ok (.getfield 32, 3) := by decide +kernel
theorem dX4_hourOn_38 : decode cX4_hourOn 38 = .ok (.if_icmp .ge 24, 3) := by decide +kernel
theorem dX4_hourOn_41 : decode cX4_hourOn 41 = .ok (.aload_n 0, 1) := by decide +kernel
theorem dX4_hourOn_42 : decode cX4_hourOn 42 = .ok (.iload_n 1, 1) := by decide +kernel
theorem dX4_hourOn_43 : decode cX4_hourOn 43 = .ok (.iconst 3, 1) := by decide +kernel
theorem dX4_hourOn_44 : decode cX4_hourOn 44 = .ok (.invokevirtual 57, 3) := by decide +kernel
theorem dX4_hourOn_47 : decode cX4_hourOn 47 = .ok (.iconst 2, 1) := by decide +kernel
theorem dX4_hourOn_48 : decode cX4_hourOn 48 = .ok (.if_icmp .ne 8, 3) := by decide +kernel
theorem dX4_hourOn_51 : decode cX4_hourOn 51 = .ok (.aload_n 0, 1) := by decide +kernel
theorem dX4_hourOn_52 : decode cX4_hourOn 52 = .ok (.iload_n 1, 1) := by decide +kernel
theorem dX4_hourOn_53 : decode cX4_hourOn 53 = .ok (.invokevirtual 119, 3) := by decide +kernel
theorem dX4_hourOn_56 : decode cX4_hourOn 56 = .ok (.iinc 1 1, 3) := by decide +kernel
theorem dX4_hourOn_59 : decode cX4_hourOn 59 = .ok (.goto (-26), 3) := by decide +kernel
theorem dX4_hourOn_62 : decode cX4_hourOn 62 = .ok (.iconst 0, 1) := by decide +kernel
theorem dX4_hourOn_63 : decode cX4_hourOn 63 = .ok (.istore_n 1, 1) := by decide +kernel
theorem dX4_hourOn_64 : decode cX4_hourOn 64 = .ok (.iload_n 1, 1) := by decide +kernel
theorem dX4_hourOn_65 : decode cX4_hourOn 65 = .ok (.aload_n 0, 1) := by decide +kernel
theorem dX4_hourOn_66 : decode cX4_hourOn 66 = .ok (.getfield 32, 3) := by decide +kernel
theorem dX4_hourOn_69 : decode cX4_hourOn 69 = .ok (.if_icmp .ge 33, 3) := by decide +kernel
theorem dX4_hourOn_72 : decode cX4_hourOn 72 = .ok (.aload_n 0, 1) := by decide +kernel
theorem dX4_hourOn_73 : decode cX4_hourOn 73 = .ok (.iload_n 1, 1) := by decide +kernel
theorem dX4_hourOn_74 : decode cX4_hourOn 74 = .ok (.iconst 3, 1) := by decide +kernel
theorem dX4_hourOn_75 : decode cX4_hourOn 75 = .ok (.invokevirtual 57, 3) := by decide +kernel
theorem dX4_hourOn_78 : decode cX4_hourOn 78 = .ok (.iconst 1, 1) := by decide +kernel
theorem dX4_hourOn_79 : decode cX4_hourOn 79 = .ok (.if_icmp .ne 17, 3) := by decide +kernel
theorem dX4_hourOn_82 : decode cX4_hourOn 82 = .ok (.aload_n 0, 1) := by decide +kernel
theorem dX4_hourOn_83 : decode cX4_hourOn 83 = .ok (.iload_n 1, 1) := by decide +kernel
theorem dX4_hourOn_84 : decode cX4_hourOn 84 = .ok (.iconst 2, 1) := by decide +kernel
theorem dX4_hourOn_85 : decode cX4_hourOn 85 = .ok (.invokevirtual 57, 3) := by decide +kernel
theorem dX4_hourOn_88 : decode cX4_hourOn 88 = .ok (.ifCond .ne 8, 3) := by decide +kernel
theorem dX4_hourOn_91 : decode cX4_hourOn 91 = .ok (.aload_n 0, 1) := by decide +kernel
theorem dX4_hourOn_92 : decode cX4_hourOn 92 = .ok (.iload_n 1, 1) := by decide +kernel
theorem dX4_hourOn_93 : decode cX4_hourOn 93 = .ok (.invokevirtual 122, 3) := by decide +kernel
theorem dX4_hourOn_96 : decode cX4_hourOn 96 = .ok (.iinc 1 1, 3) := by decide +kernel
theorem dX4_hourOn_99 : decode cX4_hourOn 99 = .ok (.goto (-35), 3) := by decide +kernel
theorem dX4_hourOn_102 : decode cX4_hourOn 102 = .ok (.aload_n 0, 1) := by decide +kernel
theorem dX4_hourOn_103 : decode cX4_hourOn 103 = .ok (.getfield 25, 3) := by decide +kernel
theorem dX4_hourOn_106 : decode cX4_hourOn 106 = .ok (.iconst 0, 1) := by decide +kernel
theorem dX4_hourOn_107 : decode cX4_hourOn 107 = .ok (.dup2, 1) := by decide +kernel
theorem dX4_hourOn_108 : decode cX4_hourOn 108 = .ok (.iaload, 1) := by decide +kernel
theorem dX4_hourOn_109 : decode cX4_hourOn 109 = .ok (.iconst 1, 1) := by decide +kernel
theorem dX4_hourOn_110 : decode cX4_hourOn 110 = .ok (.iadd, 1) := by decide +kernel
theorem dX4_hourOn_111 : decode cX4_hourOn 111 = .ok (.iastore, 1) := by decide +kernel
theorem dX4_hourOn_112 : decode cX4_hourOn 112 = .ok (.return_, 1) := by decide +kernel
set_option maxRecDepth 20000 in
theorem ggX4_hoursOn_X4_ashore : GoodIn wsX4_hoursOn wsX4_ashore := goodIn_r _ [5, 6, 48, 49, 50, 51, 52, 53, 54, 55, 56] (by decide +kernel) (by decide +kernel)
set_option maxRecDepth 20000 in
theorem gX4_hoursOn_X4_ashore : GoodIn wsX4_hoursOn (wsV RX4 103 RX4 yX4_ashore wsX4_ashore) := goodIn_app (goodIn_of _ (by decide +kernel)) ggX4_hoursOn_X4_ashore
set_option maxRecDepth 20000 in
theorem ggX4_hoursOn_X4_hourOn : GoodIn wsX4_hoursOn wsX4_hourOn := goodIn_r _ [10, 11, 6, 12, 13, 14, 4, 15, 16, 17, 18, 19, 20, 21, 22, 23, 24, 25, 26, 27, 28, 29, 30, 31, 32, 33, 34, 35, 36, 37, 38, 39, 40, 41, 42, 43, 44, 45, 46, 47, 48, 49, 50, 51, 52, 53, 54, 55, 56] (by decide +kernel) (by decide +kernel)
set_option maxRecDepth 20000 in
theorem gX4_hoursOn_X4_hourOn : GoodIn wsX4_hoursOn (wsV RX4 125 RX4 yX4_hourOn wsX4_hourOn) := goodIn_app (goodIn_of _ (by decide +kernel)) ggX4_hoursOn_X4_hourOn
theorem dX4_hoursOn_0 : decode cX4_hoursOn 0 = .ok (.aload_n 0, 1) := by decide +kernel
theorem dX4_hoursOn_1 : decode cX4_hoursOn 1 = .ok (.invokevirtual 103, 3) := by decide +kernel
theorem dX4_hoursOn_4 : decode cX4_hoursOn 4 = .ok (.istore_n 2, 1) := by decide +kernel
theorem dX4_hoursOn_5 : decode cX4_hoursOn 5 = .ok (.iconst 0, 1) := by decide +kernel
theorem dX4_hoursOn_6 : decode cX4_hoursOn 6 = .ok (.istore_n 3, 1) := by decide +kernel
theorem dX4_hoursOn_7 : decode cX4_hoursOn 7 = .ok (.iload_n 3, 1) := by decide +kernel
theorem dX4_hoursOn_8 : decode cX4_hoursOn 8 = .ok (.iload_n 1, 1) := by decide +kernel
theorem dX4_hoursOn_9 : decode cX4_hoursOn 9 = .ok (.if_icmp .ge 13, 3) := by decide +kernel
theorem dX4_hoursOn_12 : decode cX4_hoursOn 12 = .ok (.aload_n 0, 1) := by decide +kernel
theorem dX4_hoursOn_13 : decode cX4_hoursOn 13 = .ok (.invokevirtual 125, 3) := by decide +kernel
theorem dX4_hoursOn_16 : decode cX4_hoursOn 16 = .ok (.iinc 3 1, 3) := by decide +kernel
theorem dX4_hoursOn_19 : decode cX4_hoursOn 19 = .ok (.goto (-12), 3) := by decide +kernel
theorem dX4_hoursOn_22 : decode cX4_hoursOn 22 = .ok (.aload_n 0, 1) := by decide +kernel
theorem dX4_hoursOn_23 : decode cX4_hoursOn 23 = .ok (.invokevirtual 103, 3) := by decide +kernel
theorem dX4_hoursOn_26 : decode cX4_hoursOn 26 = .ok (.iload_n 2, 1) := by decide +kernel
theorem dX4_hoursOn_27 : decode cX4_hoursOn 27 = .ok (.isub, 1) := by decide +kernel
theorem dX4_hoursOn_28 : decode cX4_hoursOn 28 = .ok (.ireturn, 1) := by decide +kernel
set_option maxRecDepth 20000 in
theorem ggX4_pass_X4_isIn : GoodIn wsX4_pass wsX4_isIn := goodIn_r _ [5] (by decide +kernel) (by decide +kernel)
set_option maxRecDepth 20000 in
theorem gX4_pass_X4_isIn : GoodIn wsX4_pass (va_wsS RX4 35 yX4_isIn wsX4_isIn) := goodIn_app (goodIn_of _ (by decide +kernel)) ggX4_pass_X4_isIn
set_option maxRecDepth 20000 in
theorem ggX4_pass_X4_hoursOn : GoodIn wsX4_pass wsX4_hoursOn := goodIn_r _ [9, 10, 11, 12, 4, 13, 14, 15, 16, 17, 18, 19, 20, 21, 22, 23, 24, 25, 26, 27, 28, 29, 30, 31, 32, 33, 34, 35, 36, 37, 38, 39, 40, 41, 42, 43, 44, 45, 46, 47, 48, 49, 50, 51, 52, 53, 54, 55, 60, 61, 62, 63, 64, 65, 66, 67, 68] (by decide +kernel) (by decide +kernel)
set_option maxRecDepth 20000 in
theorem gX4_pass_X4_hoursOn : GoodIn wsX4_pass (wsV RX4 128 RX4 yX4_hoursOn wsX4_hoursOn) := goodIn_app (goodIn_of _ (by decide +kernel)) ggX4_pass_X4_hoursOn
set_option maxRecDepth 20000 in
theorem ggX4_pass_X4_fail : GoodIn wsX4_pass wsX4_fail := goodIn_r _ [59, 1, 60, 61, 62, 63, 64, 65, 66, 67, 68] (by decide +kernel) (by decide +kernel)
set_option maxRecDepth 20000 in
theorem gX4_pass_X4_fail : GoodIn wsX4_pass (wsV RX4 46 RX4 yX4_fail wsX4_fail) := goodIn_app (goodIn_of _ (by decide +kernel)) ggX4_pass_X4_fail
theorem dX4_pass_0 : decode cX4_pass 0 = .ok (.aload_n 0, 1) := by decide +kernel
theorem dX4_pass_1 : decode cX4_pass 1 = .ok (.iconst 0, 1) := by decide +kernel
theorem dX4_pass_2 : decode cX4_pass 2 = .ok (.putfield 28, 3) := by decide +kernel
theorem dX4_pass_5 : decode cX4_pass 5 = .ok (.iload_n 1, 1) := by decide +kernel
theorem dX4_pass_6 : decode cX4_pass 6 = .ok (.iconst 1, 1) := by decide +kernel
theorem dX4_pass_7 : decode cX4_pass 7 = .ok (.bipush 60, 2) := by decide +kernel
theorem dX4_pass_9 : decode cX4_pass 9 = .ok (.invokestatic 35, 3) := by decide +kernel
theorem dX4_pass_12 : decode cX4_pass 12 = .ok (.ifCond .eq 11, 3) := by decide +kernel
theorem dX4_pass_15 : decode cX4_pass 15 = .ok (.aload_n 0, 1) := by decide +kernel
theorem dX4_pass_16 : decode cX4_pass 16 = .ok (.iload_n 1, 1) := by decide +kernel
theorem dX4_pass_17 : decode cX4_pass 17 = .ok (.invokevirtual 128, 3) := by decide +kernel
theorem dX4_pass_20 : decode cX4_pass 20 = .ok (.goto 8, 3) := by decide +kernel
theorem dX4_pass_23 : decode cX4_pass 23 = .ok (.aload_n 0, 1) := by decide +kernel
theorem dX4_pass_24 : decode cX4_pass 24 = .ok (.iconst 1, 1) := by decide +kernel
theorem dX4_pass_25 : decode cX4_pass 25 = .ok (.invokevirtual 46, 3) := by decide +kernel
theorem dX4_pass_28 : decode cX4_pass 28 = .ok (.ireturn, 1) := by decide +kernel
theorem dX4_kept_0 : decode cX4_kept 0 = .ok (.iconst 2, 1) := by decide +kernel
theorem dX4_kept_1 : decode cX4_kept 1 = .ok (.anewarray 131, 3) := by decide +kernel
theorem dX4_kept_4 : decode cX4_kept 4 = .ok (.dup, 1) := by decide +kernel
theorem dX4_kept_5 : decode cX4_kept 5 = .ok (.iconst 0, 1) := by decide +kernel
theorem dX4_kept_6 : decode cX4_kept 6 = .ok (.aload_n 0, 1) := by decide +kernel
theorem dX4_kept_7 : decode cX4_kept 7 = .ok (.getfield 19, 3) := by decide +kernel
theorem dX4_kept_10 : decode cX4_kept 10 = .ok (.invokevirtual 132, 3) := by decide +kernel
theorem dX4_kept_13 : decode cX4_kept 13 = .ok (.checkcast 131, 3) := by decide +kernel
theorem dX4_kept_16 : decode cX4_kept 16 = .ok (.aastore, 1) := by decide +kernel
theorem dX4_kept_17 : decode cX4_kept 17 = .ok (.dup, 1) := by decide +kernel
theorem dX4_kept_18 : decode cX4_kept 18 = .ok (.iconst 1, 1) := by decide +kernel
theorem dX4_kept_19 : decode cX4_kept 19 = .ok (.aload_n 0, 1) := by decide +kernel
theorem dX4_kept_20 : decode cX4_kept 20 = .ok (.getfield 25, 3) := by decide +kernel
theorem dX4_kept_23 : decode cX4_kept 23 = .ok (.invokevirtual 132, 3) := by decide +kernel
theorem dX4_kept_26 : decode cX4_kept 26 = .ok (.checkcast 131, 3) := by decide +kernel
theorem dX4_kept_29 : decode cX4_kept 29 = .ok (.aastore, 1) := by decide +kernel
theorem dX4_kept_30 : decode cX4_kept 30 = .ok (.areturn, 1) := by decide +kernel
theorem dX4_bringBack_0 : decode cX4_bringBack 0 = .ok (.aload_n 1, 1) := by decide +kernel
theorem dX4_bringBack_1 : decode cX4_bringBack 1 = .ok (.iconst 0, 1) := by decide +kernel
theorem dX4_bringBack_2 : decode cX4_bringBack 2 = .ok (.aaload, 1) := by decide +kernel
theorem dX4_bringBack_3 : decode cX4_bringBack 3 = .ok (.iconst 0, 1) := by decide +kernel
theorem dX4_bringBack_4 : decode cX4_bringBack 4 = .ok (.aload_n 0, 1) := by decide +kernel
theorem dX4_bringBack_5 : decode cX4_bringBack 5 = .ok (.getfield 19, 3) := by decide +kernel
theorem dX4_bringBack_8 : decode cX4_bringBack 8 = .ok (.iconst 0, 1) := by decide +kernel
theorem dX4_bringBack_9 : decode cX4_bringBack 9 = .ok (.aload_n 0, 1) := by decide +kernel
theorem dX4_bringBack_10 : decode cX4_bringBack 10 = .ok (.getfield 19, 3) := by decide +kernel
theorem dX4_bringBack_13 : decode cX4_bringBack 13 = .ok (.arraylength, 1) := by decide +kernel
theorem dX4_bringBack_14 : decode cX4_bringBack 14 = .ok (.invokestatic 136, 3) := by decide +kernel
theorem dX4_bringBack_17 : decode cX4_bringBack 17 = .ok (.aload_n 1, 1) := by decide +kernel
theorem dX4_bringBack_18 : decode cX4_bringBack 18 = .ok (.iconst 1, 1) := by decide +kernel
theorem dX4_bringBack_19 : decode cX4_bringBack 19 = .ok (.aaload, 1) := by decide +kernel
theorem dX4_bringBack_20 : decode cX4_bringBack 20 = .ok (.iconst 0, 1) := by decide +kernel
theorem dX4_bringBack_21 : decode cX4_bringBack 21 = .ok (.aload_n 0, 1) := by decide +kernel
theorem dX4_bringBack_22 : decode cX4_bringBack 22 = .ok (.getfield 25, 3) := by decide +kernel
theorem dX4_bringBack_25 : decode cX4_bringBack 25 = .ok (.iconst 0, 1) := by decide +kernel
theorem dX4_bringBack_26 : decode cX4_bringBack 26 = .ok (.aload_n 0, 1) := by decide +kernel
theorem dX4_bringBack_27 : decode cX4_bringBack 27 = .ok (.getfield 25, 3) := by decide +kernel
theorem dX4_bringBack_30 : decode cX4_bringBack 30 = .ok (.arraylength, 1) := by decide +kernel
theorem dX4_bringBack_31 : decode cX4_bringBack 31 = .ok (.invokestatic 136, 3) := by decide +kernel
theorem dX4_bringBack_34 : decode cX4_bringBack 34 = .ok (.return_, 1) := by decide +kernel
set_option maxRecDepth 20000 in
theorem ggX4_back_X4_isSledge : GoodIn wsX4_back wsX4_isSledge := goodIn_r _ [6, 7, 8, 9, 5, 10, 74, 75, 76, 77, 78, 79, 80, 81, 82] (by decide +kernel) (by decide +kernel)
set_option maxRecDepth 20000 in
theorem gX4_back_X4_isSledge : GoodIn wsX4_back (wsV RX4 54 RX4 yX4_isSledge wsX4_isSledge) := goodIn_app (goodIn_of _ (by decide +kernel)) ggX4_back_X4_isSledge
set_option maxRecDepth 20000 in
theorem ggX4_back_X4_fail : GoodIn wsX4_back wsX4_fail := goodIn_r _ [14, 1, 74, 75, 76, 77, 78, 79, 80, 81, 82] (by decide +kernel) (by decide +kernel)
set_option maxRecDepth 20000 in
theorem gX4_back_X4_fail : GoodIn wsX4_back (wsV RX4 46 RX4 yX4_fail wsX4_fail) := goodIn_app (goodIn_of _ (by decide +kernel)) ggX4_back_X4_fail
set_option maxRecDepth 20000 in
theorem ggX4_back_X4_kept : GoodIn wsX4_back wsX4_kept := goodIn_r _ [18, 19, 20, 21, 22, 23, 24, 25, 26, 74, 75, 76, 77, 78, 79, 80, 81, 82] (by decide +kernel) (by decide +kernel)
set_option maxRecDepth 20000 in
theorem gX4_back_X4_kept : GoodIn wsX4_back (wsV RX4 142 RX4 yX4_kept wsX4_kept) := goodIn_app (goodIn_of _ (by decide +kernel)) ggX4_back_X4_kept
set_option maxRecDepth 20000 in
theorem ggX4_back_X4_sl : GoodIn wsX4_back wsX4_sl := goodIn_r _ [30, 20, 74, 75, 76, 77, 78, 79, 80, 81, 82] (by decide +kernel) (by decide +kernel)
set_option maxRecDepth 20000 in
theorem gX4_back_X4_sl : GoodIn wsX4_back (wsV RX4 57 RX4 yX4_sl wsX4_sl) := goodIn_app (goodIn_of _ (by decide +kernel)) ggX4_back_X4_sl
set_option maxRecDepth 20000 in
theorem ggX4_back_X4_hourOn : GoodIn wsX4_back wsX4_hourOn := goodIn_r _ [34, 7, 26, 27, 28, 29, 5, 30, 20, 35, 36, 37, 38, 39, 40, 41, 42, 43, 44, 45, 46, 47, 48, 49, 50, 51, 52, 53, 54, 55, 56, 57, 58, 59, 60, 61, 62, 63, 64, 65, 74, 75, 76, 77, 78, 79, 80, 81, 82] (by decide +kernel) (by decide +kernel)
set_option maxRecDepth 20000 in
theorem gX4_back_X4_hourOn : GoodIn wsX4_back (wsV RX4 125 RX4 yX4_hourOn wsX4_hourOn) := goodIn_app (goodIn_of _ (by decide +kernel)) ggX4_back_X4_hourOn
set_option maxRecDepth 20000 in
theorem ggX4_back_X4_bringBack : GoodIn wsX4_back wsX4_bringBack := goodIn_r _ [69, 20, 70, 71, 72, 73, 26, 74, 75, 76, 77, 78, 79, 80, 81, 82] (by decide +kernel) (by decide +kernel)
set_option maxRecDepth 20000 in
theorem gX4_back_X4_bringBack : GoodIn wsX4_back (wsV RX4 146 RX4 yX4_bringBack wsX4_bringBack) := goodIn_app (goodIn_of _ (by decide +kernel)) ggX4_back_X4_bringBack
theorem dX4_back_0 : decode cX4_back 0 = .ok (.aload_n 0, 1) := by decide +kernel
theorem dX4_back_1 : decode cX4_back 1 = .ok (.iconst 0, 1) := by decide +kernel
theorem dX4_back_2 : decode cX4_back 2 = .ok (.putfield 28, 3) := by decide +kernel
theorem dX4_back_5 : decode cX4_back 5 = .ok (.aload_n 0, 1) := by decide +kernel
theorem dX4_back_6 : decode cX4_back 6 = .ok (.iload_n 1, 1) := by decide +kernel
theorem dX4_back_7 : decode cX4_back 7 = .ok (.invokevirtual 54, 3) := by decide +kernel
theorem dX4_back_10 : decode cX4_back 10 = .ok (.ifCond .ne 9, 3) := by decide +kernel
theorem dX4_back_13 : decode cX4_back 13 = .ok (.aload_n 0, 1) := by decide +kernel
theorem dX4_back_14 : decode cX4_back 14 = .ok (.iconst 1, 1) := by decide +kernel
theorem dX4_back_15 : decode cX4_back 15 = .ok (.invokevirtual 46, 3) := by decide +kernel
theorem dX4_back_18 : decode cX4_back 18 = .ok (.ireturn, 1) := by decide +kernel
theorem dX4_back_19 : decode cX4_back 19 = .ok (.aload_n 0, 1) := by decide +kernel
theorem dX4_back_20 : decode cX4_back 20 = .ok (.invokevirtual 142, 3) := by decide +kernel
theorem dX4_back_23 : decode cX4_back 23 = .ok (.astore_n 2, 1) := by decide +kernel
theorem dX4_back_24 : decode cX4_back 24 = .ok (.iconst 0, 1) := by decide +kernel
theorem dX4_back_25 : decode cX4_back 25 = .ok (.istore_n 3, 1) := by decide +kernel
theorem dX4_back_26 : decode cX4_back 26 = .ok (.aload_n 0, 1) := by decide +kernel
theorem dX4_back_27 : decode cX4_back 27 = .ok (.iload_n 1, 1) := by decide +kernel
theorem dX4_back_28 : decode cX4_back 28 = .ok (.iconst 3, 1) := by decide +kernel
theorem dX4_back_29 : decode cX4_back 29 = .ok (.invokevirtual 57, 3) := by decide +kernel
theorem dX4_back_32 : decode cX4_back 32 = .ok (.ifCond .eq 13, 3) := by decide +kernel
theorem dX4_back_35 : decode cX4_back 35 = .ok (.aload_n 0, 1) := by decide +kernel
theorem dX4_back_36 : decode cX4_back 36 = .ok (.invokevirtual 125, 3) := by decide +kernel
theorem dX4_back_39 : decode cX4_back 39 = .ok (.iinc 3 1, 3) := by decide +kernel
theorem dX4_back_42 : decode cX4_back 42 = .ok (.goto (-16), 3) := by decide +kernel
theorem dX4_back_45 : decode cX4_back 45 = .ok (.aload_n 0, 1) := by decide +kernel
theorem dX4_back_46 : decode cX4_back 46 = .ok (.aload_n 2, 1) := by decide +kernel
theorem dX4_back_47 : decode cX4_back 47 = .ok (.invokevirtual 146, 3) := by decide +kernel
theorem dX4_back_50 : decode cX4_back 50 = .ok (.iload_n 3, 1) := by decide +kernel
theorem dX4_back_51 : decode cX4_back 51 = .ok (.ireturn, 1) := by decide +kernel
set_option maxRecDepth 20000 in
theorem ggX4_arrives_X4_isSledge : GoodIn wsX4_arrives wsX4_isSledge := goodIn_r _ [7, 8, 9, 10, 6, 11, 56, 57, 58, 59, 60, 61, 62, 63, 64] (by decide +kernel) (by decide +kernel)
set_option maxRecDepth 20000 in
theorem gX4_arrives_X4_isSledge : GoodIn wsX4_arrives (wsV RX4 54 RX4 yX4_isSledge wsX4_isSledge) := goodIn_app (goodIn_of _ (by decide +kernel)) ggX4_arrives_X4_isSledge
set_option maxRecDepth 20000 in
theorem ggX4_arrives_X4_fail : GoodIn wsX4_arrives wsX4_fail := goodIn_r _ [15, 1, 56, 57, 58, 59, 60, 61, 62, 63, 64] (by decide +kernel) (by decide +kernel)
set_option maxRecDepth 20000 in
theorem gX4_arrives_X4_fail : GoodIn wsX4_arrives (wsV RX4 46 RX4 yX4_fail wsX4_fail) := goodIn_app (goodIn_of _ (by decide +kernel)) ggX4_arrives_X4_fail
set_option maxRecDepth 20000 in
theorem ggX4_arrives_X4_sl : GoodIn wsX4_arrives wsX4_sl := goodIn_r _ [19, 20, 56, 57, 58, 59, 60, 61, 62, 63, 64] (by decide +kernel) (by decide +kernel)
set_option maxRecDepth 20000 in
theorem gX4_arrives_X4_sl : GoodIn wsX4_arrives (wsV RX4 57 RX4 yX4_sl wsX4_sl) := goodIn_app (goodIn_of _ (by decide +kernel)) ggX4_arrives_X4_sl
set_option maxRecDepth 20000 in
theorem ggX4_arrives_X4_kept : GoodIn wsX4_arrives wsX4_kept := goodIn_r _ [24, 25, 20, 26, 27, 28, 29, 30, 2, 56, 57, 58, 59, 60, 61, 62, 63, 64] (by decide +kernel) (by decide +kernel)
set_option maxRecDepth 20000 in
theorem gX4_arrives_X4_kept : GoodIn wsX4_arrives (wsV RX4 142 RX4 yX4_kept wsX4_kept) := goodIn_app (goodIn_of _ (by decide +kernel)) ggX4_arrives_X4_kept
set_option maxRecDepth 20000 in
theorem ggX4_arrives_X4_put : GoodIn wsX4_arrives wsX4_put := goodIn_r _ [34, 20, 56, 57, 58, 59, 60, 61, 62, 63, 64] (by decide +kernel) (by decide +kernel)
set_option maxRecDepth 20000 in
theorem gX4_arrives_X4_put : GoodIn wsX4_arrives (wsV RX4 50 RX4 yX4_put wsX4_put) := goodIn_app (goodIn_of _ (by decide +kernel)) ggX4_arrives_X4_put
set_option maxRecDepth 20000 in
theorem ggX4_arrives_X4_slide : GoodIn wsX4_arrives wsX4_slide := goodIn_r _ [38, 2, 39, 40, 41, 42, 16, 17, 18, 6, 19, 20, 43, 44, 45, 46, 47, 31, 32, 33, 34, 56, 57, 58, 59, 60, 61, 62, 63, 64] (by decide +kernel) (by decide +kernel)
set_option maxRecDepth 20000 in
theorem gX4_arrives_X4_slide : GoodIn wsX4_arrives (wsV RX4 115 RX4 yX4_slide wsX4_slide) := goodIn_app (goodIn_of _ (by decide +kernel)) ggX4_arrives_X4_slide
set_option maxRecDepth 20000 in
theorem ggX4_arrives_X4_bringBack : GoodIn wsX4_arrives wsX4_bringBack := goodIn_r _ [51, 20, 52, 53, 54, 55, 2, 56, 57, 58, 59, 60, 61, 62, 63, 64] (by decide +kernel) (by decide +kernel)
set_option maxRecDepth 20000 in
theorem gX4_arrives_X4_bringBack : GoodIn wsX4_arrives (wsV RX4 146 RX4 yX4_bringBack wsX4_bringBack) := goodIn_app (goodIn_of _ (by decide +kernel)) ggX4_arrives_X4_bringBack
theorem dX4_arrives_0 : decode cX4_arrives 0 = .ok (.aload_n 0, 1) := by decide +kernel
theorem dX4_arrives_1 : decode cX4_arrives 1 = .ok (.iconst 0, 1) := by decide +kernel
theorem dX4_arrives_2 : decode cX4_arrives 2 = .ok (.putfield 28, 3) := by decide +kernel
theorem dX4_arrives_5 : decode cX4_arrives 5 = .ok (.aload_n 0, 1) := by decide +kernel
theorem dX4_arrives_6 : decode cX4_arrives 6 = .ok (.iload_n 1, 1) := by decide +kernel
theorem dX4_arrives_7 : decode cX4_arrives 7 = .ok (.invokevirtual 54, 3) := by decide +kernel
theorem dX4_arrives_10 : decode cX4_arrives 10 = .ok (.ifCond .ne 9, 3) := by decide +kernel
theorem dX4_arrives_13 : decode cX4_arrives 13 = .ok (.aload_n 0, 1) := by decide +kernel
theorem dX4_arrives_14 : decode cX4_arrives 14 = .ok (.iconst 1, 1) := by decide +kernel
theorem dX4_arrives_15 : decode cX4_arrives 15 = .ok (.invokevirtual 46, 3) := by decide +kernel
theorem dX4_arrives_18 : decode cX4_arrives 18 = .ok (.ireturn, 1) := by decide +kernel
theorem dX4_arrives_19 : decode cX4_arrives 19 = .ok (.aload_n 0, 1) := by decide +kernel
theorem dX4_arrives_20 : decode cX4_arrives 20 = .ok (.iload_n 1, 1) := by decide +kernel
theorem dX4_arrives_21 : decode cX4_arrives 21 = .ok (.iconst 3, 1) := by decide +kernel
theorem dX4_arrives_22 : decode cX4_arrives 22 = .ok (.invokevirtual 57, 3) := by decide +kernel
theorem dX4_arrives_25 : decode cX4_arrives 25 = .ok (.iconst 2, 1) := by decide +kernel
theorem dX4_arrives_26 : decode cX4_arrives 26 = .ok (.if_icmp .ne 5, 3) := by decide +kernel
theorem dX4_arrives_29 : decode cX4_arrives 29 = .ok (.iconst 0, 1) := by decide +kernel
theorem dX4_arrives_30 : decode cX4_arrives 30 = .ok (.ireturn, 1) := by decide +kernel
theorem dX4_arrives_31 : decode cX4_arrives 31 = .ok (.aload_n 0, 1) := by decide +kernel
theorem dX4_arrives_32 : decode cX4_arrives 32 = .ok (.invokevirtual 142, 3) := by decide +kernel
theorem dX4_arrives_35 : decode cX4_arrives 35 = .ok (.astore_n 2, 1) := by decide +kernel
theorem dX4_arrives_36 : decode cX4_arrives 36 = .ok (.iconst 0, 1) := by decide +kernel
theorem dX4_arrives_37 : decode cX4_arrives 37 = .ok (.istore_n 3, 1) := by decide +kernel
theorem dX4_arrives_38 : decode cX4_arrives 38 = .ok (.aload_n 0, 1) := by decide +kernel
theorem dX4_arrives_39 : decode cX4_arrives 39 = .ok (.iload_n 1, 1) := by decide +kernel
theorem dX4_arrives_40 : decode cX4_arrives 40 = .ok (.iconst 3, 1) := by decide +kernel
theorem dX4_arrives_41 : decode cX4_arrives 41 = .ok (.iconst 1, 1) := by decide +kernel
theorem dX4_arrives_42 : decode cX4_arrives 42 = .ok (.invokevirtual 50, 3) := by decide +kernel
theorem dX4_arrives_45 : decode cX4_arrives 45 = .ok (.aload_n 0, 1) := by decide +kernel
theorem dX4_arrives_46 : decode cX4_arrives 46 = .ok (.iload_n 1, 1) := by decide +kernel
theorem dX4_arrives_47 : decode cX4_arrives 47 = .ok (.iconst 3, 1) := by decide +kernel
theorem dX4_arrives_48 : decode cX4_arrives 48 = .ok (.invokevirtual 57, 3) := by decide +kernel
theorem dX4_arrives_51 : decode cX4_arrives 51 = .ok (.iconst 1, 1) := by decide +kernel
theorem dX4_arrives_52 : decode cX4_arrives 52 = .ok (.if_icmp .ne 44, 3) := by decide +kernel
theorem dX4_arrives_55 : decode cX4_arrives 55 = .ok (.aload_n 0, 1) := by decide +kernel
theorem dX4_arrives_56 : decode cX4_arrives 56 = .ok (.iload_n 1, 1) := by decide +kernel
theorem dX4_arrives_57 : decode cX4_arrives 57 = .ok (.invokevirtual 115, 3) := by decide +kernel
theorem dX4_arrives_60 : decode cX4_arrives 60 = .ok (.aload_n 0, 1) := by decide +kernel
theorem dX4_arrives_61 : decode cX4_arrives 61 = .ok (.iload_n 1, 1) := by decide +kernel
theorem dX4_arrives_62 : decode cX4_arrives 62 = .ok (.iconst 1, 1) := by decide +kernel
theorem dX4_arrives_63 : decode cX4_arrives 63 = .ok (.invokevirtual 57, 3) := by decide +kernel
theorem dX4_arrives_66 : decode cX4_arrives 66 = .ok (.istore_n 3, 1) := by decide +kernel
theorem dX4_arrives_67 : decode cX4_arrives 67 = .ok (.aload_n 0, 1) := by decide +kernel
theorem dX4_arrives_68 : decode cX4_arrives 68 = .ok (.iload_n 1, 1) := by decide +kernel
theorem dX4_arrives_69 : decode cX4_arrives 69 = .ok (.iconst 2, 1) := by decide +kernel
theorem dX4_arrives_70 : decode cX4_arrives 70 = .ok (.invokevirtual 57, 3) := by decide +kernel
theorem dX4_arrives_73 : decode cX4_arrives 73 = .ok (.ifCond .ne 10, 3) := by decide +kernel
theorem dX4_arrives_76 : decode cX4_arrives 76 = .ok (.aload_n 0, 1) := by decide +kernel
theorem dX4_arrives_77 : decode cX4_arrives 77 = .ok (.iload_n 1, 1) := by decide +kernel
theorem dX4_arrives_78 : decode cX4_arrives 78 = .ok (.iconst 3, 1) := by decide +kernel
theorem dX4_arrives_79 : decode cX4_arrives 79 = .ok (.iconst 2, 1) := by decide +kernel
theorem dX4_arrives_80 : decode cX4_arrives 80 = .ok (.invokevirtual 50, 3) := by decide +kernel
theorem dX4_arrives_83 : decode cX4_arrives 83 = .ok (.aload_n 0, 1) := by decide +kernel
theorem dX4_arrives_84 : decode cX4_arrives 84 = .ok (.getfield 25, 3) := by decide +kernel
theorem dX4_arrives_87 : decode cX4_arrives 87 = .ok (.iconst 0, 1) := by decide +kernel
theorem dX4_arrives_88 : decode cX4_arrives 88 = .ok (.dup2, 1) := by decide +kernel
theorem dX4_arrives_89 : decode cX4_arrives 89 = .ok (.iaload, 1) := by decide +kernel
theorem dX4_arrives_90 : decode cX4_arrives 90 = .ok (.iconst 1, 1) := by decide +kernel
theorem dX4_arrives_91 : decode cX4_arrives 91 = .ok (.iadd, 1) := by decide +kernel
theorem dX4_arrives_92 : decode cX4_arrives 92 = .ok (.iastore, 1) := by decide +kernel
theorem dX4_arrives_93 : decode cX4_arrives 93 = .ok (.goto (-48), 3) := by decide +kernel
theorem dX4_arrives_96 : decode cX4_arrives 96 = .ok (.aload_n 0, 1) := by decide +kernel
theorem dX4_arrives_97 : decode cX4_arrives 97 = .ok (.aload_n 2, 1) := by decide +kernel
theorem dX4_arrives_98 : decode cX4_arrives 98 = .ok (.invokevirtual 146, 3) := by decide +kernel
theorem dX4_arrives_101 : decode cX4_arrives 101 = .ok (.iload_n 3, 1) := by decide +kernel
theorem dX4_arrives_102 : decode cX4_arrives 102 = .ok (.ireturn, 1) := by decide +kernel
set_option maxRecDepth 20000 in
theorem ggX4_advise_X4_isBoat : GoodIn wsX4_advise wsX4_isBoat := goodIn_r _ [6, 7, 8, 9, 5, 10, 34, 35, 36, 37, 38, 39, 40, 41, 42] (by decide +kernel) (by decide +kernel)
set_option maxRecDepth 20000 in
theorem gX4_advise_X4_isBoat : GoodIn wsX4_advise (wsV RX4 75 RX4 yX4_isBoat wsX4_isBoat) := goodIn_app (goodIn_of _ (by decide +kernel)) ggX4_advise_X4_isBoat
set_option maxRecDepth 20000 in
theorem ggX4_advise_X4_isIn : GoodIn wsX4_advise wsX4_isIn := goodIn_r _ [10] (by decide +kernel) (by decide +kernel)
set_option maxRecDepth 20000 in
theorem gX4_advise_X4_isIn : GoodIn wsX4_advise (va_wsS RX4 35 yX4_isIn wsX4_isIn) := goodIn_app (goodIn_of _ (by decide +kernel)) ggX4_advise_X4_isIn
set_option maxRecDepth 20000 in
theorem ggX4_advise_X4_fail : GoodIn wsX4_advise wsX4_fail := goodIn_r _ [14, 1, 34, 35, 36, 37, 38, 39, 40, 41, 42] (by decide +kernel) (by decide +kernel)
set_option maxRecDepth 20000 in
theorem gX4_advise_X4_fail : GoodIn wsX4_advise (wsV RX4 46 RX4 yX4_fail wsX4_fail) := goodIn_app (goodIn_of _ (by decide +kernel)) ggX4_advise_X4_fail
set_option maxRecDepth 20000 in
theorem ggX4_advise_X4_all : GoodIn wsX4_advise wsX4_all := goodIn_r _ [18, 19, 20, 21, 5, 22, 23, 34, 35, 36, 37, 38, 39, 40, 41, 42] (by decide +kernel) (by decide +kernel)
set_option maxRecDepth 20000 in
theorem gX4_advise_X4_all : GoodIn wsX4_advise (wsV RX4 78 RX4 yX4_all wsX4_all) := goodIn_app (goodIn_of _ (by decide +kernel)) ggX4_advise_X4_all
set_option maxRecDepth 20000 in
theorem ggX4_advise_X4_stowed : GoodIn wsX4_advise wsX4_stowed := goodIn_r _ [26] (by decide +kernel) (by decide +kernel)
set_option maxRecDepth 20000 in
theorem gX4_advise_X4_stowed : GoodIn wsX4_advise (va_wsS RX4 81 yX4_stowed wsX4_stowed) := goodIn_app (goodIn_of _ (by decide +kernel)) ggX4_advise_X4_stowed
set_option maxRecDepth 20000 in
theorem ggX4_advise_X4_bo : GoodIn wsX4_advise wsX4_bo := goodIn_r _ [22, 23, 34, 35, 36, 37, 38, 39, 40, 41, 42] (by decide +kernel) (by decide +kernel)
set_option maxRecDepth 20000 in
theorem gX4_advise_X4_bo : GoodIn wsX4_advise (wsV RX4 64 RX4 yX4_bo wsX4_bo) := goodIn_app (goodIn_of _ (by decide +kernel)) ggX4_advise_X4_bo
set_option maxRecDepth 20000 in
theorem ggX4_advise_X4_depth : GoodIn wsX4_advise wsX4_depth := goodIn_r _ [29, 30, 31, 32, 33] (by decide +kernel) (by decide +kernel)
set_option maxRecDepth 20000 in
theorem gX4_advise_X4_depth : GoodIn wsX4_advise (va_wsS RX4 72 yX4_depth wsX4_depth) := goodIn_app (goodIn_of _ (by decide +kernel)) ggX4_advise_X4_depth
theorem dX4_advise_0 : decode cX4_advise 0 = .ok (.aload_n 0, 1) := by decide +kernel
theorem dX4_advise_1 : decode cX4_advise 1 = .ok (.iconst 0, 1) := by decide +kernel
theorem dX4_advise_2 : decode cX4_advise 2 = .ok (.putfield 28, 3) := by decide +kernel
theorem dX4_advise_5 : decode cX4_advise 5 = .ok (.aload_n 0, 1) := by decide +kernel
theorem dX4_advise_6 : decode cX4_advise 6 = .ok (.iload_n 1, 1) := by decide +kernel
theorem dX4_advise_7 : decode cX4_advise 7 = .ok (.invokevirtual 75, 3) := by decide +kernel
theorem dX4_advise_10 : decode cX4_advise 10 = .ok (.ifCond .eq 12, 3) := by decide +kernel
theorem dX4_advise_13 : decode cX4_advise 13 = .ok (.iload_n 2, 1) := by decide +kernel
theorem dX4_advise_14 : decode cX4_advise 14 = .ok (.iconst 0, 1) := by decide +kernel
theorem dX4_advise_15 : decode cX4_advise 15 = .ok (.iconst 2, 1) := by decide +kernel
theorem dX4_advise_16 : decode cX4_advise 16 = .ok (.invokestatic 35, 3) := by decide +kernel
theorem dX4_advise_19 : decode cX4_advise 19 = .ok (.ifCond .ne 9, 3) := by decide +kernel
theorem dX4_advise_22 : decode cX4_advise 22 = .ok (.aload_n 0, 1) := by decide +kernel
theorem dX4_advise_23 : decode cX4_advise 23 = .ok (.iconst 1, 1) := by decide +kernel
theorem dX4_advise_24 : decode cX4_advise 24 = .ok (.invokevirtual 46, 3) := by decide +kernel
theorem dX4_advise_27 : decode cX4_advise 27 = .ok (.ireturn, 1) := by decide +kernel
theorem dX4_advise_28 : decode cX4_advise 28 = .ok (.aload_n 0, 1) := by decide +kernel
theorem dX4_advise_29 : decode cX4_advise 29 = .ok (.iload_n 1, 1) := by decide +kernel
theorem dX4_advise_30 : decode cX4_advise 30 = .ok (.invokevirtual 78, 3) := by decide +kernel
theorem dX4_advise_33 : decode cX4_advise 33 = .ok (.iload_n 2, 1) := by decide +kernel
theorem dX4_advise_34 : decode cX4_advise 34 = .ok (.invokestatic 81, 3) := by decide +kernel
theorem dX4_advise_37 : decode cX4_advise 37 = .ok (.iadd, 1) := by decide +kernel
theorem dX4_advise_38 : decode cX4_advise 38 = .ok (.aload_n 0, 1) := by decide +kernel
theorem dX4_advise_39 : decode cX4_advise 39 = .ok (.iload_n 1, 1) := by decide +kernel
theorem dX4_advise_40 : decode cX4_advise 40 = .ok (.iconst 0, 1) := by decide +kernel
theorem dX4_advise_41 : decode cX4_advise 41 = .ok (.invokevirtual 64, 3) := by decide +kernel
theorem dX4_advise_44 : decode cX4_advise 44 = .ok (.if_icmp .le 5, 3) := by decide +kernel
theorem dX4_advise_47 : decode cX4_advise 47 = .ok (.iconst 0, 1) := by decide +kernel
theorem dX4_advise_48 : decode cX4_advise 48 = .ok (.ireturn, 1) := by decide +kernel
theorem dX4_advise_49 : decode cX4_advise 49 = .ok (.aload_n 0, 1) := by decide +kernel
theorem dX4_advise_50 : decode cX4_advise 50 = .ok (.iload_n 1, 1) := by decide +kernel
theorem dX4_advise_51 : decode cX4_advise 51 = .ok (.iconst 1, 1) := by decide +kernel
theorem dX4_advise_52 : decode cX4_advise 52 = .ok (.invokevirtual 64, 3) := by decide +kernel
theorem dX4_advise_55 : decode cX4_advise 55 = .ok (.iload_n 2, 1) := by decide +kernel
theorem dX4_advise_56 : decode cX4_advise 56 = .ok (.invokestatic 81, 3) := by decide +kernel
theorem dX4_advise_59 : decode cX4_advise 59 = .ok (.iadd, 1) := by decide +kernel
theorem dX4_advise_60 : decode cX4_advise 60 = .ok (.aload_n 0, 1) := by decide +kernel
theorem dX4_advise_61 : decode cX4_advise 61 = .ok (.iload_n 1, 1) := by decide +kernel
theorem dX4_advise_62 : decode cX4_advise 62 = .ok (.iconst 2, 1) := by decide +kernel
theorem dX4_advise_63 : decode cX4_advise 63 = .ok (.invokevirtual 64, 3) := by decide +kernel
theorem dX4_advise_66 : decode cX4_advise 66 = .ok (.invokestatic 72, 3) := by decide +kernel
theorem dX4_advise_69 : decode cX4_advise 69 = .ok (.aload_n 0, 1) := by decide +kernel
theorem dX4_advise_70 : decode cX4_advise 70 = .ok (.iload_n 1, 1) := by decide +kernel
theorem dX4_advise_71 : decode cX4_advise 71 = .ok (.iconst 1, 1) := by decide +kernel
theorem dX4_advise_72 : decode cX4_advise 72 = .ok (.invokevirtual 64, 3) := by decide +kernel
theorem dX4_advise_75 : decode cX4_advise 75 = .ok (.aload_n 0, 1) := by decide +kernel
theorem dX4_advise_76 : decode cX4_advise 76 = .ok (.iload_n 1, 1) := by decide +kernel
theorem dX4_advise_77 : decode cX4_advise 77 = .ok (.iconst 2, 1) := by decide +kernel
theorem dX4_advise_78 : decode cX4_advise 78 = .ok (.invokevirtual 64, 3) := by decide +kernel
theorem dX4_advise_81 : decode cX4_advise 81 = .ok (.iload_n 2, 1) := by decide +kernel
theorem dX4_advise_82 : decode cX4_advise 82 = .ok (.invokestatic 81, 3) := by decide +kernel
theorem dX4_advise_85 : decode cX4_advise 85 = .ok (.iadd, 1) := by decide +kernel
theorem dX4_advise_86 : decode cX4_advise 86 = .ok (.invokestatic 72, 3) := by decide +kernel
theorem dX4_advise_89 : decode cX4_advise 89 = .ok (.if_icmp .gt 7, 3) := by decide +kernel
theorem dX4_advise_92 : decode cX4_advise 92 = .ok (.iconst 1, 1) := by decide +kernel
theorem dX4_advise_93 : decode cX4_advise 93 = .ok (.goto 4, 3) := by decide +kernel
theorem dX4_advise_96 : decode cX4_advise 96 = .ok (.iconst 2, 1) := by decide +kernel
theorem dX4_advise_97 : decode cX4_advise 97 = .ok (.ireturn, 1) := by decide +kernel
set_option maxRecDepth 20000 in
theorem ggX4_foresee_X4_isIn : GoodIn wsX4_foresee wsX4_isIn := goodIn_r _ [5] (by decide +kernel) (by decide +kernel)
set_option maxRecDepth 20000 in
theorem gX4_foresee_X4_isIn : GoodIn wsX4_foresee (va_wsS RX4 35 yX4_isIn wsX4_isIn) := goodIn_app (goodIn_of _ (by decide +kernel)) ggX4_foresee_X4_isIn
set_option maxRecDepth 20000 in
theorem ggX4_foresee_X4_fail : GoodIn wsX4_foresee wsX4_fail := goodIn_r _ [9, 1, 88, 89, 90, 91, 92, 93, 94, 95, 96] (by decide +kernel) (by decide +kernel)
set_option maxRecDepth 20000 in
theorem gX4_foresee_X4_fail : GoodIn wsX4_foresee (wsV RX4 46 RX4 yX4_fail wsX4_fail) := goodIn_app (goodIn_of _ (by decide +kernel)) ggX4_foresee_X4_fail
set_option maxRecDepth 20000 in
theorem ggX4_foresee_X4_kept : GoodIn wsX4_foresee wsX4_kept := goodIn_r _ [13, 14, 15, 16, 17, 18, 19, 20, 21, 88, 89, 90, 91, 92, 93, 94, 95, 96] (by decide +kernel) (by decide +kernel)
set_option maxRecDepth 20000 in
theorem gX4_foresee_X4_kept : GoodIn wsX4_foresee (wsV RX4 142 RX4 yX4_kept wsX4_kept) := goodIn_app (goodIn_of _ (by decide +kernel)) ggX4_foresee_X4_kept
set_option maxRecDepth 20000 in
theorem ggX4_foresee_X4_hoursOn : GoodIn wsX4_foresee wsX4_hoursOn := goodIn_r _ [25, 26, 27, 28, 4, 29, 21, 30, 31, 32, 33, 34, 35, 36, 37, 38, 15, 39, 40, 41, 42, 43, 44, 45, 46, 47, 48, 49, 50, 51, 52, 53, 54, 55, 56, 57, 58, 59, 60, 61, 62, 63, 64, 65, 66, 67, 68, 69, 88, 89, 90, 91, 92, 93, 94, 95, 96] (by decide +kernel) (by decide +kernel)
set_option maxRecDepth 20000 in
theorem gX4_foresee_X4_hoursOn : GoodIn wsX4_foresee (wsV RX4 128 RX4 yX4_hoursOn wsX4_hoursOn) := goodIn_app (goodIn_of _ (by decide +kernel)) ggX4_foresee_X4_hoursOn
set_option maxRecDepth 20000 in
theorem ggX4_foresee_X4_counted : GoodIn wsX4_foresee wsX4_counted := goodIn_r _ [73, 21, 34, 74, 75, 47, 48, 49, 4, 50, 51, 76, 77, 78, 79, 35, 36, 37, 38, 15, 26, 27, 28, 29, 88, 89, 90, 91, 92, 93, 94, 95, 96] (by decide +kernel) (by decide +kernel)
set_option maxRecDepth 20000 in
theorem gX4_foresee_X4_counted : GoodIn wsX4_foresee (wsV RX4 106 RX4 yX4_counted wsX4_counted) := goodIn_app (goodIn_of _ (by decide +kernel)) ggX4_foresee_X4_counted
set_option maxRecDepth 20000 in
theorem ggX4_foresee_X4_bringBack : GoodIn wsX4_foresee wsX4_bringBack := goodIn_r _ [83, 15, 84, 85, 86, 87, 21, 88, 89, 90, 91, 92, 93, 94, 95, 96] (by decide +kernel) (by decide +kernel)
set_option maxRecDepth 20000 in
theorem gX4_foresee_X4_bringBack : GoodIn wsX4_foresee (wsV RX4 146 RX4 yX4_bringBack wsX4_bringBack) := goodIn_app (goodIn_of _ (by decide +kernel)) ggX4_foresee_X4_bringBack
theorem dX4_foresee_0 : decode cX4_foresee 0 = .ok (.aload_n 0, 1) := by decide +kernel
theorem dX4_foresee_1 : decode cX4_foresee 1 = .ok (.iconst 0, 1) := by decide +kernel
theorem dX4_foresee_2 : decode cX4_foresee 2 = .ok (.putfield 28, 3) := by decide +kernel
theorem dX4_foresee_5 : decode cX4_foresee 5 = .ok (.iload_n 1, 1) := by decide +kernel
theorem dX4_foresee_6 : decode cX4_foresee 6 = .ok (.iconst 1, 1) := by decide +kernel
theorem dX4_foresee_7 : decode cX4_foresee 7 = .ok (.bipush 60, 2) := by decide +kernel
theorem dX4_foresee_9 : decode cX4_foresee 9 = .ok (.invokestatic 35, 3) := by decide +kernel
theorem dX4_foresee_12 : decode cX4_foresee 12 = .ok (.ifCond .ne 9, 3) := by decide +kernel
theorem dX4_foresee_15 : decode cX4_foresee 15 = .ok (.aload_n 0, 1) := by decide +kernel
theorem dX4_foresee_16 : decode cX4_foresee 16 = .ok (.iconst 1, 1) := by decide +kernel
theorem dX4_foresee_17 : decode cX4_foresee 17 = .ok (.invokevirtual 46, 3) := by decide +kernel
theorem dX4_foresee_20 : decode cX4_foresee 20 = .ok (.ireturn, 1) := by decide +kernel
theorem dX4_foresee_21 : decode cX4_foresee 21 = .ok (.iload_n 2, 1) := by decide +kernel
theorem dX4_foresee_22 : decode cX4_foresee 22 = .ok (.iconst 5, 1) := by decide +kernel
theorem dX4_foresee_23 : decode cX4_foresee 23 = .ok (.bipush 7, 2) := by decide +kernel
theorem dX4_foresee_25 : decode cX4_foresee 25 = .ok (.invokestatic 35, 3) := by decide +kernel
theorem dX4_foresee_28 : decode cX4_foresee 28 = .ok (.ifCond .ne 9, 3) := by decide +kernel
theorem dX4_foresee_31 : decode cX4_foresee 31 = .ok (.aload_n 0, 1) := by decide +kernel
theorem dX4_foresee_32 : decode cX4_foresee 32 = .ok (.iconst 2, 1) := by decide +kernel
theorem dX4_foresee_33 : decode cX4_foresee 33 = .ok (.invokevirtual 46, 3) := by decide +kernel
theorem dX4_foresee_36 : decode cX4_foresee 36 = .ok (.ireturn, 1) := by decide +kernel
theorem dX4_foresee_37 : decode cX4_foresee 37 = .ok (.aload_n 0, 1) := by decide +kernel
theorem dX4_foresee_38 : decode cX4_foresee 38 = .ok (.invokevirtual 142, 3) := by decide +kernel
theorem dX4_foresee_41 : decode cX4_foresee 41 = .ok (.astore_n 3, 1) := by decide +kernel
theorem dX4_foresee_42 : decode cX4_foresee 42 = .ok (.aload_n 0, 1) := by decide +kernel
theorem dX4_foresee_43 : decode cX4_foresee 43 = .ok (.iload_n 1, 1) := by decide +kernel
theorem dX4_foresee_44 : decode cX4_foresee 44 = .ok (.invokevirtual 128, 3) := by decide +kernel
theorem dX4_foresee_47 : decode cX4_foresee 47 = .ok (.pop, 1) := by decide +kernel
theorem dX4_foresee_48 : decode cX4_foresee 48 = .ok (.aload_n 0, 1) := by decide +kernel
theorem dX4_foresee_49 : decode cX4_foresee 49 = .ok (.iload_n 2, 1) := by decide +kernel
theorem dX4_foresee_50 : decode cX4_foresee 50 = .ok (.invokevirtual 106, 3) := by decide +kernel
theorem dX4_foresee_53 : decode cX4_foresee 53 = .ok (.istore 4, 2) := by decide +kernel
theorem dX4_foresee_55 : decode cX4_foresee 55 = .ok (.aload_n 0, 1) := by decide +kernel
theorem dX4_foresee_56 : decode cX4_foresee 56 = .ok (.aload_n 3, 1) := by decide +kernel
theorem dX4_foresee_57 : decode cX4_foresee 57 = .ok (.invokevirtual 146, 3) := by decide +kernel
theorem dX4_foresee_60 : decode cX4_foresee 60 = .ok (.iload 4, 2) := by decide +kernel
theorem dX4_foresee_62 : decode cX4_foresee 62 = .ok (.ireturn, 1) := by decide +kernel
set_option maxRecDepth 20000 in
theorem ggX4_mean_X4_sledgeTold : GoodIn wsX4_mean wsX4_sledgeTold := goodIn_r _ [7, 8, 9, 10, 6, 11, 12, 13, 14, 15, 20, 21, 22, 23, 24, 25, 26, 27, 28] (by decide +kernel) (by decide +kernel)
set_option maxRecDepth 20000 in
theorem gX4_mean_X4_sledgeTold : GoodIn wsX4_mean (wsV RX4 90 RX4 yX4_sledgeTold wsX4_sledgeTold) := goodIn_app (goodIn_of _ (by decide +kernel)) ggX4_mean_X4_sledgeTold
set_option maxRecDepth 20000 in
theorem ggX4_mean_X4_aboard : GoodIn wsX4_mean wsX4_aboard := goodIn_r _ [19, 2, 8, 9, 10, 6, 11, 12, 20, 21, 22, 23, 24, 25, 26, 27, 28] (by decide +kernel) (by decide +kernel)
set_option maxRecDepth 20000 in
theorem gX4_mean_X4_aboard : GoodIn wsX4_mean (wsV RX4 100 RX4 yX4_aboard wsX4_aboard) := goodIn_app (goodIn_of _ (by decide +kernel)) ggX4_mean_X4_aboard
theorem dX4_mean_0 : decode cX4_mean 0 = .ok (.aload_n 0, 1) := by decide +kernel
theorem dX4_mean_1 : decode cX4_mean 1 = .ok (.iconst 0, 1) := by decide +kernel
theorem dX4_mean_2 : decode cX4_mean 2 = .ok (.putfield 28, 3) := by decide +kernel
theorem dX4_mean_5 : decode cX4_mean 5 = .ok (.iconst 0, 1) := by decide +kernel
theorem dX4_mean_6 : decode cX4_mean 6 = .ok (.istore_n 1, 1) := by decide +kernel
theorem dX4_mean_7 : decode cX4_mean 7 = .ok (.iconst 0, 1) := by decide +kernel
theorem dX4_mean_8 : decode cX4_mean 8 = .ok (.istore_n 2, 1) := by decide +kernel
theorem dX4_mean_9 : decode cX4_mean 9 = .ok (.iload_n 2, 1) := by decide +kernel
theorem dX4_mean_10 : decode cX4_mean 10 = .ok (.aload_n 0, 1) := by decide +kernel
theorem dX4_mean_11 : decode cX4_mean 11 = .ok (.getfield 32, 3) := by decide +kernel
theorem dX4_mean_14 : decode cX4_mean 14 = .ok (.if_icmp .ge 18, 3) := by decide +kernel
theorem dX4_mean_17 : decode cX4_mean 17 = .ok (.iload_n 1, 1) := by decide +kernel
theorem dX4_mean_18 : decode cX4_mean 18 = .ok (.aload_n 0, 1) := by decide +kernel
theorem dX4_mean_19 : decode cX4_mean 19 = .ok (.iload_n 2, 1) := by decide +kernel
theorem dX4_mean_20 : decode cX4_mean 20 = .ok (.iconst 4, 1) := by decide +kernel
theorem dX4_mean_21 : decode cX4_mean 21 = .ok (.invokevirtual 90, 3) := by decide +kernel
theorem dX4_mean_24 : decode cX4_mean 24 = .ok (.iadd, 1) := by decide +kernel
theorem dX4_mean_25 : decode cX4_mean 25 = .ok (.istore_n 1, 1) := by decide +kernel
theorem dX4_mean_26 : decode cX4_mean 26 = .ok (.iinc 2 1, 3) := by decide +kernel
theorem dX4_mean_29 : decode cX4_mean 29 = .ok (.goto (-20), 3) := by decide +kernel
theorem dX4_mean_32 : decode cX4_mean 32 = .ok (.aload_n 0, 1) := by decide +kernel
theorem dX4_mean_33 : decode cX4_mean 33 = .ok (.invokevirtual 100, 3) := by decide +kernel
theorem dX4_mean_36 : decode cX4_mean 36 = .ok (.ifCond .ne 7, 3) := by decide +kernel
theorem dX4_mean_39 : decode cX4_mean 39 = .ok (.dconst 0, 1) := by decide +kernel
theorem dX4_mean_40 : decode cX4_mean 40 = .ok (.goto 11, 3) := by decide +kernel
theorem dX4_mean_43 : decode cX4_mean 43 = .ok (.iload_n 1, 1) := by decide +kernel
theorem dX4_mean_44 : decode cX4_mean 44 = .ok (.i2d, 1) := by decide +kernel
theorem dX4_mean_45 : decode cX4_mean 45 = .ok (.aload_n 0, 1) := by decide +kernel
theorem dX4_mean_46 : decode cX4_mean 46 = .ok (.invokevirtual 100, 3) := by decide +kernel
theorem dX4_mean_49 : decode cX4_mean 49 = .ok (.i2d, 1) := by decide +kernel
theorem dX4_mean_50 : decode cX4_mean 50 = .ok (.ddiv, 1) := by decide +kernel
theorem dX4_mean_51 : decode cX4_mean 51 = .ok (.dreturn, 1) := by decide +kernel
set_option maxRecDepth 20000 in
theorem ggX4_digest_X4_counted : GoodIn wsX4_digest wsX4_counted := goodIn_r _ [12, 7, 5, 6, 13, 14, 15, 16, 11, 17, 4, 18, 19, 20, 21, 22, 23, 24, 25, 26, 27, 28, 29, 30, 70, 71, 72, 73, 74, 75, 76, 77, 78] (by decide +kernel) (by decide +kernel)
set_option maxRecDepth 20000 in
theorem gX4_digest_X4_counted : GoodIn wsX4_digest (wsV RX4 106 RX4 yX4_counted wsX4_counted) := goodIn_app (goodIn_of _ (by decide +kernel)) ggX4_digest_X4_counted
set_option maxRecDepth 20000 in
theorem ggX4_digest_X4_layerTold : GoodIn wsX4_digest wsX4_layerTold := goodIn_r _ [34, 13, 35, 36, 37, 11, 38, 70, 71, 72, 73, 74, 75, 76, 77, 78] (by decide +kernel) (by decide +kernel)
set_option maxRecDepth 20000 in
theorem gX4_digest_X4_layerTold : GoodIn wsX4_digest (wsV RX4 87 RX4 yX4_layerTold wsX4_layerTold) := goodIn_app (goodIn_of _ (by decide +kernel)) ggX4_digest_X4_layerTold
set_option maxRecDepth 20000 in
theorem ggX4_digest_X4_sledgeTold : GoodIn wsX4_digest wsX4_sledgeTold := goodIn_r _ [42, 22, 23, 24, 11, 25, 26, 36, 37, 38, 70, 71, 72, 73, 74, 75, 76, 77, 78] (by decide +kernel) (by decide +kernel)
set_option maxRecDepth 20000 in
theorem gX4_digest_X4_sledgeTold : GoodIn wsX4_digest (wsV RX4 90 RX4 yX4_sledgeTold wsX4_sledgeTold) := goodIn_app (goodIn_of _ (by decide +kernel)) ggX4_digest_X4_sledgeTold
set_option maxRecDepth 20000 in
theorem ggX4_digest_X4_sl : GoodIn wsX4_digest wsX4_sl := goodIn_r _ [25, 26, 70, 71, 72, 73, 74, 75, 76, 77, 78] (by decide +kernel) (by decide +kernel)
set_option maxRecDepth 20000 in
theorem gX4_digest_X4_sl : GoodIn wsX4_digest (wsV RX4 57 RX4 yX4_sl wsX4_sl) := goodIn_app (goodIn_of _ (by decide +kernel)) ggX4_digest_X4_sl
set_option maxRecDepth 20000 in
theorem ggX4_digest_X4_boatTold : GoodIn wsX4_digest wsX4_boatTold := goodIn_r _ [46, 47, 48, 49, 11, 50, 51, 52, 53, 54, 55, 56, 57, 58, 59, 60, 61, 62, 63, 64, 65, 66, 67, 68, 69, 70, 71, 72, 73, 74, 75, 76, 77, 78] (by decide +kernel) (by decide +kernel)
set_option maxRecDepth 20000 in
theorem gX4_digest_X4_boatTold : GoodIn wsX4_digest (wsV RX4 93 RX4 yX4_boatTold wsX4_boatTold) := goodIn_app (goodIn_of _ (by decide +kernel)) ggX4_digest_X4_boatTold
theorem dX4_digest_0 : decode cX4_digest 0 = .ok (.aload_n 0, 1) := by decide +kernel
theorem dX4_digest_1 : decode cX4_digest 1 = .ok (.iconst 0, 1) := by decide +kernel
theorem dX4_digest_2 : decode cX4_digest 2 = .ok (.putfield 28, 3) := by decide +kernel
theorem dX4_digest_5 : decode cX4_digest 5 = .ok (.ldc2_w 150, 3) := by decide +kernel
theorem dX4_digest_8 : decode cX4_digest 8 = .ok (.lstore_n 1, 1) := by decide +kernel
theorem dX4_digest_9 : decode cX4_digest 9 = .ok (.iconst 0, 1) := by decide +kernel
theorem dX4_digest_10 : decode cX4_digest 10 = .ok (.istore_n 3, 1) := by decide +kernel
theorem dX4_digest_11 : decode cX4_digest 11 = .ok (.iload_n 3, 1) := by decide +kernel
theorem dX4_digest_12 : decode cX4_digest 12 = .ok (.bipush 9, 2) := by decide +kernel
theorem dX4_digest_14 : decode cX4_digest 14 = .ok (.if_icmp .ge 22, 3) := by decide +kernel
theorem dX4_digest_17 : decode cX4_digest 17 = .ok (.lload_n 1, 1) := by decide +kernel
theorem dX4_digest_18 : decode cX4_digest 18 = .ok (.ldc2_w 152, 3) := by decide +kernel
theorem dX4_digest_21 : decode cX4_digest 21 = .ok (.lmul, 1) := by decide +kernel
theorem dX4_digest_22 : decode cX4_digest 22 = .ok (.aload_n 0, 1) := by decide +kernel
theorem dX4_digest_23 : decode cX4_digest 23 = .ok (.iload_n 3, 1) := by decide +kernel
theorem dX4_digest_24 : decode cX4_digest 24 = .ok (.invokevirtual 106, 3) := by decide +kernel
theorem dX4_digest_27 : decode cX4_digest 27 = .ok (.i2l, 1) := by decide +kernel
theorem dX4_digest_28 : decode cX4_digest 28 = .ok (.ladd, 1) := by decide +kernel
theorem dX4_digest_29 : decode cX4_digest 29 = .ok (.lstore_n 1, 1) := by decide +kernel
theorem dX4_digest_30 : decode cX4_digest 30 = .ok (.iinc 3 1, 3) := by decide +kernel
theorem dX4_digest_33 : decode cX4_digest 33 = .ok (.goto (-22), 3) := by decide +kernel
theorem dX4_digest_36 : decode cX4_digest 36 = .ok (.aload_n 0, 1) := by decide +kernel
theorem dX4_digest_37 : decode cX4_digest 37 = .ok (.getfield 16, 3) := by decide +kernel
theorem dX4_digest_40 : decode cX4_digest 40 = .ok (.astore_n 3, 1) := by decide +kernel
theorem dX4_digest_41 : decode cX4_digest 41 = .ok (.aload_n 3, 1) := by decide +kernel
theorem dX4_digest_42 : decode cX4_digest 42 = .ok (.arraylength, 1) := by decide +kernel
theorem dX4_digest_43 : decode cX4_digest 43 = .ok (.istore 4, 2) := by decide +kernel
theorem dX4_digest_45 : decode cX4_digest 45 = .ok (.iconst 0, 1) := by decide +kernel
theorem dX4_digest_46 : decode cX4_digest 46 = .ok (.istore 5, 2) := by decide +kernel
theorem dX4_digest_48 : decode cX4_digest 48 = .ok (.iload 5, 2) := by decide +kernel
theorem dX4_digest_50 : decode cX4_digest 50 = .ok (.iload 4, 2) := by decide +kernel
theorem dX4_digest_52 : decode cX4_digest 52 = .ok (.if_icmp .ge 25, 3) := by decide +kernel
theorem dX4_digest_55 : decode cX4_digest 55 = .ok (.aload_n 3, 1) := by decide +kernel
theorem dX4_digest_56 : decode cX4_digest 56 = .ok (.iload 5, 2) := by decide +kernel
theorem dX4_digest_58 : decode cX4_digest 58 = .ok (.iaload, 1) := by decide +kernel
theorem dX4_digest_59 : decode cX4_digest 59 = .ok (.istore 6, 2) := by decide +kernel
theorem dX4_digest_61 : decode cX4_digest 61 = .ok (.lload_n 1, 1) := by decide +kernel
theorem dX4_digest_62 : decode cX4_digest 62 = .ok (.ldc2_w 152, 3) := by decide +kernel
theorem dX4_digest_65 : decode cX4_digest 65 = .ok (.lmul, 1) := by decide +kernel
theorem dX4_digest_66 : decode cX4_digest 66 = .ok (.iload 6, 2) := by decide +kernel
theorem dX4_digest_68 : decode cX4_digest 68 = .ok (.i2l, 1) := by decide +kernel
theorem dX4_digest_69 : decode cX4_digest 69 = .ok (.ladd, 1) := by decide +kernel
theorem dX4_digest_70 : decode cX4_digest 70 = .ok (.lstore_n 1, 1) := by decide +kernel
theorem dX4_digest_71 : decode cX4_digest 71 = .ok (.iinc 5 1, 3) := by decide +kernel
theorem dX4_digest_74 : decode cX4_digest 74 = .ok (.goto (-26), 3) := by decide +kernel
theorem dX4_digest_77 : decode cX4_digest 77 = .ok (.iconst 0, 1) := by decide +kernel
theorem dX4_digest_78 : decode cX4_digest 78 = .ok (.istore_n 3, 1) := by decide +kernel
theorem dX4_digest_79 : decode cX4_digest 79 = .ok (.iload_n 3, 1) := by decide +kernel
theorem dX4_digest_80 : decode cX4_digest 80 = .ok (.iconst 5, 1) := by decide +kernel
theorem dX4_digest_81 : decode cX4_digest 81 = .ok (.if_icmp .ge 39, 3) := by decide +kernel
theorem dX4_digest_84 : decode cX4_digest 84 = .ok (.iconst 0, 1) := by decide +kernel
theorem dX4_digest_85 : decode cX4_digest 85 = .ok (.istore 4, 2) := by decide +kernel
theorem dX4_digest_87 : decode cX4_digest 87 = .ok (.iload 4, 2) := by decide +kernel
theorem dX4_digest_89 : decode cX4_digest 89 = .ok (.iconst 4, 1) := by decide +kernel
theorem dX4_digest_90 : decode cX4_digest 90 = .ok (.if_icmp .ge 24, 3) := by decide +kernel
theorem dX4_digest_93 : decode cX4_digest 93 = .ok (.lload_n 1, 1) := by decide +kernel
theorem dX4_digest_94 : decode cX4_digest 94 = .ok (.ldc2_w 152, 3) := by decide +kernel
theorem dX4_digest_97 : decode cX4_digest 97 = .ok (.lmul, 1) := by decide +kernel
theorem dX4_digest_98 : decode cX4_digest 98 = .ok (.aload_n 0, 1) := by decide +kernel
theorem dX4_digest_99 : decode cX4_digest 99 = .ok (.iload_n 3, 1) := by decide +kernel
theorem dX4_digest_100 : decode cX4_digest 100 = .ok (.iload 4, 2) := by decide +kernel
theorem dX4_digest_102 : decode cX4_digest 102 = .ok (.invokevirtual 87, 3) := by decide +kernel
theorem dX4_digest_105 : decode cX4_digest 105 = .ok (.i2l, 1) := by decide +kernel
theorem dX4_digest_106 : decode cX4_digest 106 = .ok (.ladd, 1) := by decide +kernel
theorem dX4_digest_107 : decode cX4_digest 107 = .ok (.lstore_n 1, 1) := by decide +kernel
theorem dX4_digest_108 : decode cX4_digest 108 = .ok (.iinc 4 1, 3) := by decide +kernel
theorem dX4_digest_111 : decode cX4_digest 111 = .ok (.goto (-24), 3) := by decide +kernel
theorem dX4_digest_114 : decode cX4_digest 114 = .ok (.iinc 3 1, 3) := by decide +kernel
theorem dX4_digest_117 : decode cX4_digest 117 = .ok (.goto (-38), 3) := by decide +kernel
theorem dX4_digest_120 : decode cX4_digest 120 = .ok (.iconst 0, 1) := by decide +kernel
theorem dX4_digest_121 : decode cX4_digest 121 = .ok (.istore_n 3, 1) := by decide +kernel
theorem dX4_digest_122 : decode cX4_digest 122 = .ok (.iload_n 3, 1) := by decide +kernel
theorem dX4_digest_123 : decode cX4_digest 123 = .ok (.aload_n 0, 1) := by decide +kernel
theorem dX4_digest_124 : decode cX4_digest 124 = .ok (.getfield 32, 3) := by decide +kernel
theorem dX4_digest_127 : decode cX4_digest 127 = .ok (.if_icmp .ge 77, 3) := by decide +kernel
theorem dX4_digest_130 : decode cX4_digest 130 = .ok (.iconst 0, 1) := by decide +kernel
theorem dX4_digest_131 : decode cX4_digest 131 = .ok (.istore 4, 2) := by decide +kernel
theorem dX4_digest_133 : decode cX4_digest 133 = .ok (.iload 4, 2) := by decide +kernel
theorem dX4_digest_135 : decode cX4_digest 135 = .ok (.bipush 6, 2) := by decide +kernel
theorem dX4_digest_137 : decode cX4_digest 137 = .ok (.if_icmp .ge 24, 3) := by decide +kernel
theorem dX4_digest_140 : decode cX4_digest 140 = .ok (.lload_n 1, 1) := by decide +kernel
theorem dX4_digest_141 : decode cX4_digest 141 = .ok (.ldc2_w 152, 3) := by decide +kernel
theorem dX4_digest_144 : decode cX4_digest 144 = .ok (.lmul, 1) := by decide +kernel
theorem dX4_digest_145 : decode cX4_digest 145 = .ok (.aload_n 0, 1) := by decide +kernel
theorem dX4_digest_146 : decode cX4_digest 146 = .ok (.iload_n 3, 1) := by decide +kernel
theorem dX4_digest_147 : decode cX4_digest 147 = .ok (.iload 4, 2) := by decide +kernel
theorem dX4_digest_149 : decode cX4_digest 149 = .ok (.invokevirtual 90, 3) := by decide +kernel
theorem dX4_digest_152 : decode cX4_digest 152 = .ok (.i2l, 1) := by decide +kernel
theorem dX4_digest_153 : decode cX4_digest 153 = .ok (.ladd, 1) := by decide +kernel
theorem dX4_digest_154 : decode cX4_digest 154 = .ok (.lstore_n 1, 1) := by decide +kernel
theorem dX4_digest_155 : decode cX4_digest 155 = .ok (.iinc 4 1, 3) := by decide +kernel
theorem dX4_digest_158 : decode cX4_digest 158 = .ok (.goto (-25), 3) := by decide +kernel
theorem dX4_digest_161 : decode cX4_digest 161 = .ok (.iconst 0, 1) := by decide +kernel
theorem dX4_digest_162 : decode cX4_digest 162 = .ok (.istore 4, 2) := by decide +kernel
theorem dX4_digest_164 : decode cX4_digest 164 = .ok (.iload 4, 2) := by decide +kernel
theorem dX4_digest_166 : decode cX4_digest 166 = .ok (.aload_n 0, 1) := by decide +kernel
theorem dX4_digest_167 : decode cX4_digest 167 = .ok (.iload_n 3, 1) := by decide +kernel
theorem dX4_digest_168 : decode cX4_digest 168 = .ok (.iconst 1, 1) := by decide +kernel
theorem dX4_digest_169 : decode cX4_digest 169 = .ok (.invokevirtual 57, 3) := by decide +kernel
theorem dX4_digest_172 : decode cX4_digest 172 = .ok (.if_icmp .ge 26, 3) := by decide +kernel
theorem dX4_digest_175 : decode cX4_digest 175 = .ok (.lload_n 1, 1) := by decide +kernel
theorem dX4_digest_176 : decode cX4_digest 176 = .ok (.ldc2_w 152, 3) := by decide +kernel
theorem dX4_digest_179 : decode cX4_digest 179 = .ok (.lmul, 1) := by decide +kernel
theorem dX4_digest_180 : decode cX4_digest 180 = .ok (.aload_n 0, 1) := by decide +kernel
theorem dX4_digest_181 : decode cX4_digest 181 = .ok (.iload_n 3, 1) := by decide +kernel
theorem dX4_digest_182 : decode cX4_digest 182 = .ok (.iconst 4, 1) := by decide +kernel
theorem dX4_digest_183 : decode cX4_digest 183 = .ok (.iload 4, 2) := by decide +kernel
theorem dX4_digest_185 : decode cX4_digest 185 = .ok (.iadd, 1) := by decide +kernel
theorem dX4_digest_186 : decode cX4_digest 186 = .ok (.invokevirtual 57, 3) := by decide +kernel
theorem dX4_digest_189 : decode cX4_digest 189 = .ok (.i2l, 1) := by decide +kernel
theorem dX4_digest_190 : decode cX4_digest 190 = .ok (.ladd, 1) := by decide +kernel
theorem dX4_digest_191 : decode cX4_digest 191 = .ok (.lstore_n 1, 1) := by decide +kernel
theorem dX4_digest_192 : decode cX4_digest 192 = .ok (.iinc 4 1, 3) := by decide +kernel
theorem dX4_digest_195 : decode cX4_digest 195 = .ok (.goto (-31), 3) := by decide +kernel
theorem dX4_digest_198 : decode cX4_digest 198 = .ok (.iinc 3 1, 3) := by decide +kernel
theorem dX4_digest_201 : decode cX4_digest 201 = .ok (.goto (-79), 3) := by decide +kernel
theorem dX4_digest_204 : decode cX4_digest 204 = .ok (.iconst 0, 1) := by decide +kernel
theorem dX4_digest_205 : decode cX4_digest 205 = .ok (.istore_n 3, 1) := by decide +kernel
theorem dX4_digest_206 : decode cX4_digest 206 = .ok (.iload_n 3, 1) := by decide +kernel
theorem dX4_digest_207 : decode cX4_digest 207 = .ok (.aload_n 0, 1) := by decide +kernel
theorem dX4_digest_208 : decode cX4_digest 208 = .ok (.getfield 39, 3) := by decide +kernel
theorem dX4_digest_211 : decode cX4_digest 211 = .ok (.if_icmp .ge 40, 3) := by decide +kernel
theorem dX4_digest_214 : decode cX4_digest 214 = .ok (.iconst 0, 1) := by decide +kernel
theorem dX4_digest_215 : decode cX4_digest 215 = .ok (.istore 4, 2) := by decide +kernel
theorem dX4_digest_217 : decode cX4_digest 217 = .ok (.iload 4, 2) := by decide +kernel
theorem dX4_digest_219 : decode cX4_digest 219 = .ok (.bipush 7, 2) := by decide +kernel
theorem dX4_digest_221 : decode cX4_digest 221 = .ok (.if_icmp .ge 24, 3) := by decide +kernel
theorem dX4_digest_224 : decode cX4_digest 224 = .ok (.lload_n 1, 1) := by decide +kernel
theorem dX4_digest_225 : decode cX4_digest 225 = .ok (.ldc2_w 152, 3) := by decide +kernel
theorem dX4_digest_228 : decode cX4_digest 228 = .ok (.lmul, 1) := by decide +kernel
theorem dX4_digest_229 : decode cX4_digest 229 = .ok (.aload_n 0, 1) := by decide +kernel
theorem dX4_digest_230 : decode cX4_digest 230 = .ok (.iload_n 3, 1) := by decide +kernel
theorem dX4_digest_231 : decode cX4_digest 231 = .ok (.iload 4, 2) := by decide +kernel
theorem dX4_digest_233 : decode cX4_digest 233 = .ok (.invokevirtual 93, 3) := by decide +kernel
theorem dX4_digest_236 : decode cX4_digest 236 = .ok (.i2l, 1) := by decide +kernel
theorem dX4_digest_237 : decode cX4_digest 237 = .ok (.ladd, 1) := by decide +kernel
theorem dX4_digest_238 : decode cX4_digest 238 = .ok (.lstore_n 1, 1) := by decide +kernel
theorem dX4_digest_239 : decode cX4_digest 239 = .ok (.iinc 4 1, 3) := by decide +kernel
theorem dX4_digest_242 : decode cX4_digest 242 = .ok (.goto (-25), 3) := by decide +kernel
theorem dX4_digest_245 : decode cX4_digest 245 = .ok (.iinc 3 1, 3) := by decide +kernel
theorem dX4_digest_248 : decode cX4_digest 248 = .ok (.goto (-42), 3) := by decide +kernel
theorem dX4_digest_251 : decode cX4_digest 251 = .ok (.iconst 0, 1) := by decide +kernel
theorem dX4_digest_252 : decode cX4_digest 252 = .ok (.istore_n 3, 1) := by decide +kernel
theorem dX4_digest_253 : decode cX4_digest 253 = .ok (.iload_n 3, 1) := by decide +kernel
theorem dX4_digest_254 : decode cX4_digest 254 = .ok (.iconst 3, 1) := by decide +kernel
theorem dX4_digest_255 : decode cX4_digest 255 = .ok (.if_icmp .ge 25, 3) := by decide +kernel
theorem dX4_digest_258 : decode cX4_digest 258 = .ok (.lload_n 1, 1) := by decide +kernel
theorem dX4_digest_259 : decode cX4_digest 259 = .ok (.ldc2_w 152, 3) := by decide +kernel
theorem dX4_digest_262 : decode cX4_digest 262 = .ok (.lmul, 1) := by decide +kernel
theorem dX4_digest_263 : decode cX4_digest 263 = .ok (.aload_n 0, 1) := by decide +kernel
theorem dX4_digest_264 : decode cX4_digest 264 = .ok (.getfield 25, 3) := by decide +kernel
theorem dX4_digest_267 : decode cX4_digest 267 = .ok (.iconst 3, 1) := by decide +kernel
theorem dX4_digest_268 : decode cX4_digest 268 = .ok (.iload_n 3, 1) := by decide +kernel
theorem dX4_digest_269 : decode cX4_digest 269 = .ok (.iadd, 1) := by decide +kernel
theorem dX4_digest_270 : decode cX4_digest 270 = .ok (.iaload, 1) := by decide +kernel
theorem dX4_digest_271 : decode cX4_digest 271 = .ok (.i2l, 1) := by decide +kernel
theorem dX4_digest_272 : decode cX4_digest 272 = .ok (.ladd, 1) := by decide +kernel
theorem dX4_digest_273 : decode cX4_digest 273 = .ok (.lstore_n 1, 1) := by decide +kernel
theorem dX4_digest_274 : decode cX4_digest 274 = .ok (.iinc 3 1, 3) := by decide +kernel
theorem dX4_digest_277 : decode cX4_digest 277 = .ok (.goto (-24), 3) := by decide +kernel
theorem dX4_digest_280 : decode cX4_digest 280 = .ok (.lload_n 1, 1) := by decide +kernel
theorem dX4_digest_281 : decode cX4_digest 281 = .ok (.lreturn, 1) := by decide +kernel
theorem dJ9_floorMod_7cf53_0 : decode cJ9_floorMod_7cf53 0 = .ok (.iload_n 0, 1) := by decide +kernel
theorem dJ9_floorMod_7cf53_1 : decode cJ9_floorMod_7cf53 1 = .ok (.iload_n 1, 1) := by decide +kernel
theorem dJ9_floorMod_7cf53_2 : decode cJ9_floorMod_7cf53 2 = .ok (.irem, 1) := by decide +kernel
theorem dJ9_floorMod_7cf53_3 : decode cJ9_floorMod_7cf53 3 = .ok (.istore_n 2, 1) := by decide +kernel
theorem dJ9_floorMod_7cf53_4 : decode cJ9_floorMod_7cf53 4 = .ok (.iload_n 0, 1) := by decide +kernel
theorem dJ9_floorMod_7cf53_5 : decode cJ9_floorMod_7cf53 5 = .ok (.iload_n 1, 1) := by decide +kernel
theorem dJ9_floorMod_7cf53_6 : decode cJ9_floorMod_7cf53 6 = .ok (.ixor, 1) := by decide +kernel
theorem dJ9_floorMod_7cf53_7 : decode cJ9_floorMod_7cf53 7 = .ok (.ifCond .ge 11, 3) := by decide +kernel
theorem dJ9_floorMod_7cf53_10 : decode cJ9_floorMod_7cf53 10 = .ok (.iload_n 2, 1) := by decide +kernel
theorem dJ9_floorMod_7cf53_11 : decode cJ9_floorMod_7cf53 11 = .ok (.ifCond .eq 7, 3) := by decide +kernel
theorem dJ9_floorMod_7cf53_14 : decode cJ9_floorMod_7cf53 14 = .ok (.iload_n 2, 1) := by decide +kernel
theorem dJ9_floorMod_7cf53_15 : decode cJ9_floorMod_7cf53 15 = .ok (.iload_n 1, 1) := by decide +kernel
theorem dJ9_floorMod_7cf53_16 : decode cJ9_floorMod_7cf53 16 = .ok (.iadd, 1) := by decide +kernel
theorem dJ9_floorMod_7cf53_17 : decode cJ9_floorMod_7cf53 17 = .ok (.ireturn, 1) := by decide +kernel
theorem dJ9_floorMod_7cf53_18 : decode cJ9_floorMod_7cf53 18 = .ok (.iload_n 2, 1) := by decide +kernel
theorem dJ9_floorMod_7cf53_19 : decode cJ9_floorMod_7cf53 19 = .ok (.ireturn, 1) := by decide +kernel
theorem dJ9_abs_0f7a4_0 : decode cJ9_abs_0f7a4 0 = .ok (.iload_n 0, 1) := by decide +kernel
theorem dJ9_abs_0f7a4_1 : decode cJ9_abs_0f7a4 1 = .ok (.ifCond .ge 8, 3) := by decide +kernel
theorem dJ9_abs_0f7a4_4 : decode cJ9_abs_0f7a4 4 = .ok (.iload_n 0, 1) := by decide +kernel
theorem dJ9_abs_0f7a4_5 : decode cJ9_abs_0f7a4 5 = .ok (.ineg, 1) := by decide +kernel
theorem dJ9_abs_0f7a4_6 : decode cJ9_abs_0f7a4 6 = .ok (.goto 4, 3) := by decide +kernel
theorem dJ9_abs_0f7a4_9 : decode cJ9_abs_0f7a4 9 = .ok (.iload_n 0, 1) := by decide +kernel
theorem dJ9_abs_0f7a4_10 : decode cJ9_abs_0f7a4 10 = .ok (.ireturn, 1) := by decide +kernel
theorem dJ9_max_7cf53_0 : decode cJ9_max_7cf53 0 = .ok (.iload_n 0, 1) := by decide +kernel
theorem dJ9_max_7cf53_1 : decode cJ9_max_7cf53 1 = .ok (.iload_n 1, 1) := by decide +kernel
theorem dJ9_max_7cf53_2 : decode cJ9_max_7cf53 2 = .ok (.if_icmp .lt 7, 3) := by decide +kernel
theorem dJ9_max_7cf53_5 : decode cJ9_max_7cf53 5 = .ok (.iload_n 0, 1) := by decide +kernel
theorem dJ9_max_7cf53_6 : decode cJ9_max_7cf53 6 = .ok (.goto 4, 3) := by decide +kernel
theorem dJ9_max_7cf53_9 : decode cJ9_max_7cf53 9 = .ok (.iload_n 1, 1) := by decide +kernel
theorem dJ9_max_7cf53_10 : decode cJ9_max_7cf53 10 = .ok (.ireturn, 1) := by decide +kernel
theorem dJ9_min_7cf53_0 : decode cJ9_min_7cf53 0 = .ok (.iload_n 0, 1) := by decide +kernel
theorem dJ9_min_7cf53_1 : decode cJ9_min_7cf53 1 = .ok (.iload_n 1, 1) := by decide +kernel
theorem dJ9_min_7cf53_2 : decode cJ9_min_7cf53 2 = .ok (.if_icmp .gt 7, 3) := by decide +kernel
theorem dJ9_min_7cf53_5 : decode cJ9_min_7cf53 5 = .ok (.iload_n 0, 1) := by decide +kernel
theorem dJ9_min_7cf53_6 : decode cJ9_min_7cf53 6 = .ok (.goto 4, 3) := by decide +kernel
theorem dJ9_min_7cf53_9 : decode cJ9_min_7cf53 9 = .ok (.iload_n 1, 1) := by decide +kernel
theorem dJ9_min_7cf53_10 : decode cJ9_min_7cf53 10 = .ok (.ireturn, 1) := by decide +kernel

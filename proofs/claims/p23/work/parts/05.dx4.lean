theorem dX4_init_0 : decode cX4_init 0 = .ok (.aload_n 0, 1) := by decide +kernel
theorem dX4_init_1 : decode cX4_init 1 = .ok (.invokespecial 1, 3) := by decide +kernel
theorem dX4_init_4 : decode cX4_init 4 = .ok (.aload_n 0, 1) := by decide +kernel
theorem dX4_init_5 : decode cX4_init 5 = .ok (.iconst 5, 1) := by decide +kernel
theorem dX4_init_6 : decode cX4_init 6 = .ok (.newarray .int, 2) := by decide +kernel
theorem dX4_init_8 : decode cX4_init 8 = .ok (.dup, 1) := by decide +kernel
theorem dX4_init_9 : decode cX4_init 9 = .ok (.iconst 0, 1) := by decide +kernel
theorem dX4_init_10 : decode cX4_init 10 = .ok (.bipush 100, 2) := by decide +kernel
theorem dX4_init_12 : decode cX4_init 12 = .ok (.iastore, 1) := by decide +kernel
theorem dX4_init_13 : decode cX4_init 13 = .ok (.dup, 1) := by decide +kernel
theorem dX4_init_14 : decode cX4_init 14 = .ok (.iconst 1, 1) := by decide +kernel
theorem dX4_init_15 : decode cX4_init 15 = .ok (.bipush 100, 2) := by decide +kernel
theorem dX4_init_17 : decode cX4_init 17 = .ok (.iastore, 1) := by decide +kernel
theorem dX4_init_18 : decode cX4_init 18 = .ok (.dup, 1) := by decide +kernel
theorem dX4_init_19 : decode cX4_init 19 = .ok (.iconst 2, 1) := by decide +kernel
theorem dX4_init_20 : decode cX4_init 20 = .ok (.bipush 100, 2) := by decide +kernel
theorem dX4_init_22 : decode cX4_init 22 = .ok (.iastore, 1) := by decide +kernel
theorem dX4_init_23 : decode cX4_init 23 = .ok (.dup, 1) := by decide +kernel
theorem dX4_init_24 : decode cX4_init 24 = .ok (.iconst 3, 1) := by decide +kernel
theorem dX4_init_25 : decode cX4_init 25 = .ok (.bipush 100, 2) := by decide +kernel
theorem dX4_init_27 : decode cX4_init 27 = .ok (.iastore, 1) := by decide +kernel
theorem dX4_init_28 : decode cX4_init 28 = .ok (.dup, 1) := by decide +kernel
theorem dX4_init_29 : decode cX4_init 29 = .ok (.iconst 4, 1) := by decide +kernel
theorem dX4_init_30 : decode cX4_init 30 = .ok (.bipush 100, 2) := by decide +kernel
theorem dX4_init_32 : decode cX4_init 32 = .ok (.iastore, 1) := by decide +kernel
theorem dX4_init_33 : decode cX4_init 33 = .ok (.putfield 7, 3) := by decide +kernel
theorem dX4_init_36 : decode cX4_init 36 = .ok (.aload_n 0, 1) := by decide +kernel
theorem dX4_init_37 : decode cX4_init 37 = .ok (.iconst 5, 1) := by decide +kernel
theorem dX4_init_38 : decode cX4_init 38 = .ok (.newarray .int, 2) := by decide +kernel
theorem dX4_init_40 : decode cX4_init 40 = .ok (.dup, 1) := by decide +kernel
theorem dX4_init_41 : decode cX4_init 41 = .ok (.iconst 0, 1) := by decide +kernel
theorem dX4_init_42 : decode cX4_init 42 = .ok (.iconst 5, 1) := by decide +kernel
theorem dX4_init_43 : decode cX4_init 43 = .ok (.iastore, 1) := by decide +kernel
theorem dX4_init_44 : decode cX4_init 44 = .ok (.dup, 1) := by decide +kernel
theorem dX4_init_45 : decode cX4_init 45 = .ok (.iconst 1, 1) := by decide +kernel
theorem dX4_init_46 : decode cX4_init 46 = .ok (.iconst 5, 1) := by decide +kernel
theorem dX4_init_47 : decode cX4_init 47 = .ok (.iastore, 1) := by decide +kernel
theorem dX4_init_48 : decode cX4_init 48 = .ok (.dup, 1) := by decide +kernel
theorem dX4_init_49 : decode cX4_init 49 = .ok (.iconst 2, 1) := by decide +kernel
theorem dX4_init_50 : decode cX4_init 50 = .ok (.iconst 5, 1) := by decide +kernel
theorem dX4_init_51 : decode cX4_init 51 = .ok (.iastore, 1) := by decide +kernel
theorem dX4_init_52 : decode cX4_init 52 = .ok (.dup, 1) := by decide +kernel
theorem dX4_init_53 : decode cX4_init 53 = .ok (.iconst 3, 1) := by decide +kernel
theorem dX4_init_54 : decode cX4_init 54 = .ok (.iconst 5, 1) := by decide +kernel
theorem dX4_init_55 : decode cX4_init 55 = .ok (.iastore, 1) := by decide +kernel
theorem dX4_init_56 : decode cX4_init 56 = .ok (.dup, 1) := by decide +kernel
theorem dX4_init_57 : decode cX4_init 57 = .ok (.iconst 4, 1) := by decide +kernel
theorem dX4_init_58 : decode cX4_init 58 = .ok (.iconst 5, 1) := by decide +kernel
theorem dX4_init_59 : decode cX4_init 59 = .ok (.iastore, 1) := by decide +kernel
theorem dX4_init_60 : decode cX4_init 60 = .ok (.putfield 13, 3) := by decide +kernel
theorem dX4_init_63 : decode cX4_init 63 = .ok (.aload_n 0, 1) := by decide +kernel
theorem dX4_init_64 : decode cX4_init 64 = .ok (.bipush 8, 2) := by decide +kernel
theorem dX4_init_66 : decode cX4_init 66 = .ok (.newarray .int, 2) := by decide +kernel
theorem dX4_init_68 : decode cX4_init 68 = .ok (.putfield 16, 3) := by decide +kernel
theorem dX4_init_71 : decode cX4_init 71 = .ok (.aload_n 0, 1) := by decide +kernel
theorem dX4_init_72 : decode cX4_init 72 = .ok (.iconst 0, 1) := by decide +kernel
theorem dX4_init_73 : decode cX4_init 73 = .ok (.anewarray 19, 3) := by decide +kernel
theorem dX4_init_76 : decode cX4_init 76 = .ok (.putfield 21, 3) := by decide +kernel
theorem dX4_init_79 : decode cX4_init 79 = .ok (.aload_n 0, 1) := by decide +kernel
theorem dX4_init_80 : decode cX4_init 80 = .ok (.iconst 0, 1) := by decide +kernel
theorem dX4_init_81 : decode cX4_init 81 = .ok (.anewarray 25, 3) := by decide +kernel
theorem dX4_init_84 : decode cX4_init 84 = .ok (.putfield 26, 3) := by decide +kernel
theorem dX4_init_87 : decode cX4_init 87 = .ok (.aload_n 0, 1) := by decide +kernel
theorem dX4_init_88 : decode cX4_init 88 = .ok (.iconst 3, 1) := by decide +kernel
theorem dX4_init_89 : decode cX4_init 89 = .ok (.newarray .int, 2) := by decide +kernel
theorem dX4_init_91 : decode cX4_init 91 = .ok (.putfield 30, 3) := by decide +kernel
theorem dX4_init_94 : decode cX4_init 94 = .ok (.return_, 1) := by decide +kernel
theorem dX4_ashore_0 : decode cX4_ashore 0 = .ok (.aload_n 0, 1) := by decide +kernel
theorem dX4_ashore_1 : decode cX4_ashore 1 = .ok (.getfield 30, 3) := by decide +kernel
theorem dX4_ashore_4 : decode cX4_ashore 4 = .ok (.iconst 0, 1) := by decide +kernel
theorem dX4_ashore_5 : decode cX4_ashore 5 = .ok (.iaload, 1) := by decide +kernel
theorem dX4_ashore_6 : decode cX4_ashore 6 = .ok (.aload_n 0, 1) := by decide +kernel
theorem dX4_ashore_7 : decode cX4_ashore 7 = .ok (.getfield 30, 3) := by decide +kernel
theorem dX4_ashore_10 : decode cX4_ashore 10 = .ok (.iconst 1, 1) := by decide +kernel
theorem dX4_ashore_11 : decode cX4_ashore 11 = .ok (.iaload, 1) := by decide +kernel
theorem dX4_ashore_12 : decode cX4_ashore 12 = .ok (.iadd, 1) := by decide +kernel
theorem dX4_ashore_13 : decode cX4_ashore 13 = .ok (.aload_n 0, 1) := by decide +kernel
theorem dX4_ashore_14 : decode cX4_ashore 14 = .ok (.getfield 30, 3) := by decide +kernel
theorem dX4_ashore_17 : decode cX4_ashore 17 = .ok (.iconst 2, 1) := by decide +kernel
theorem dX4_ashore_18 : decode cX4_ashore 18 = .ok (.iaload, 1) := by decide +kernel
theorem dX4_ashore_19 : decode cX4_ashore 19 = .ok (.iadd, 1) := by decide +kernel
theorem dX4_ashore_20 : decode cX4_ashore 20 = .ok (.ireturn, 1) := by decide +kernel
theorem dX4_aboard_0 : decode cX4_aboard 0 = .ok (.iconst 0, 1) := by decide +kernel
theorem dX4_aboard_1 : decode cX4_aboard 1 = .ok (.istore_n 1, 1) := by decide +kernel
theorem dX4_aboard_2 : decode cX4_aboard 2 = .ok (.aload_n 0, 1) := by decide +kernel
theorem dX4_aboard_3 : decode cX4_aboard 3 = .ok (.getfield 21, 3) := by decide +kernel
theorem dX4_aboard_6 : decode cX4_aboard 6 = .ok (.astore_n 2, 1) := by decide +kernel
theorem dX4_aboard_7 : decode cX4_aboard 7 = .ok (.aload_n 2, 1) := by decide +kernel
theorem dX4_aboard_8 : decode cX4_aboard 8 = .ok (.arraylength, 1) := by decide +kernel
theorem dX4_aboard_9 : decode cX4_aboard 9 = .ok (.istore_n 3, 1) := by decide +kernel
theorem dX4_aboard_10 : decode cX4_aboard 10 = .ok (.iconst 0, 1) := by decide +kernel
theorem dX4_aboard_11 : decode cX4_aboard 11 = .ok (.istore 4, 2) := by decide +kernel
theorem dX4_aboard_13 : decode cX4_aboard 13 = .ok (.iload 4, 2) := by decide +kernel
theorem dX4_aboard_15 : decode cX4_aboard 15 = .ok (.iload_n 3, 1) := by decide +kernel
theorem dX4_aboard_16 : decode cX4_aboard 16 = .ok (.if_icmp .ge 24, 3) := by decide +kernel
theorem dX4_aboard_19 : decode cX4_aboard 19 = .ok (.aload_n 2, 1) := by decide +kernel
theorem dX4_aboard_20 : decode cX4_aboard 20 = .ok (.iload 4, 2) := by decide +kernel
theorem dX4_aboard_22 : decode cX4_aboard 22 = .ok (.aaload, 1) := by decide +kernel
theorem dX4_aboard_23 : decode cX4_aboard 23 = .ok (.astore 5, 2) := by decide +kernel
theorem dX4_aboard_25 : decode cX4_aboard 25 = .ok (.iload_n 1, 1) := by decide +kernel
theorem dX4_aboard_26 : decode cX4_aboard 26 = .ok (.aload 5, 2) := by decide +kernel
theorem dX4_aboard_28 : decode cX4_aboard 28 = .ok (.getfield 49, 3) := by decide +kernel
theorem dX4_aboard_31 : decode cX4_aboard 31 = .ok (.arraylength, 1) := by decide +kernel
theorem dX4_aboard_32 : decode cX4_aboard 32 = .ok (.iadd, 1) := by decide +kernel
theorem dX4_aboard_33 : decode cX4_aboard 33 = .ok (.istore_n 1, 1) := by decide +kernel
theorem dX4_aboard_34 : decode cX4_aboard 34 = .ok (.iinc 4 1, 3) := by decide +kernel
theorem dX4_aboard_37 : decode cX4_aboard 37 = .ok (.goto (-24), 3) := by decide +kernel
theorem dX4_aboard_40 : decode cX4_aboard 40 = .ok (.iload_n 1, 1) := by decide +kernel
theorem dX4_aboard_41 : decode cX4_aboard 41 = .ok (.ireturn, 1) := by decide +kernel
set_option maxRecDepth 20000 in
theorem ggX4_pass_X4_ashore : GoodIn wsX4_pass wsX4_ashore := goodIn_r _ [13, 8, 24, 25, 26, 27, 28, 29, 30, 31, 32] (by decide +kernel) (by decide +kernel)
set_option maxRecDepth 20000 in
theorem gX4_pass_X4_ashore : GoodIn wsX4_pass (wsV RX4 52 RX4 yX4_ashore wsX4_ashore) := goodIn_app (goodIn_of _ (by decide +kernel)) ggX4_pass_X4_ashore
set_option maxRecDepth 20000 in
theorem ggX4_pass_X5_keep : GoodIn wsX4_pass wsX5_keep := goodIn_r _ [18, 19, 20, 33, 34, 35, 36] (by decide +kernel) (by decide +kernel)
set_option maxRecDepth 20000 in
theorem gX4_pass_X5_keep : GoodIn wsX4_pass (wsV RX4 59 RX5 yX5_keep wsX5_keep) := goodIn_app (goodIn_of _ (by decide +kernel)) ggX4_pass_X5_keep
set_option maxRecDepth 20000 in
theorem ggX4_pass_L_kind : GoodIn wsX4_pass wsL_kind := goodIn_r _ [23] (by decide +kernel) (by decide +kernel)
set_option maxRecDepth 20000 in
theorem gX4_pass_L_kind_n66 : GoodIn wsX4_pass (wsL_kind) := ggX4_pass_L_kind
theorem dX4_pass_0 : decode cX4_pass 0 = .ok (.aload_n 0, 1) := by decide +kernel
theorem dX4_pass_1 : decode cX4_pass 1 = .ok (.getfield 16, 3) := by decide +kernel
theorem dX4_pass_4 : decode cX4_pass 4 = .ok (.aload_n 0, 1) := by decide +kernel
theorem dX4_pass_5 : decode cX4_pass 5 = .ok (.getfield 42, 3) := by decide +kernel
theorem dX4_pass_8 : decode cX4_pass 8 = .ok (.bipush 8, 2) := by decide +kernel
theorem dX4_pass_10 : decode cX4_pass 10 = .ok (.irem, 1) := by decide +kernel
theorem dX4_pass_11 : decode cX4_pass 11 = .ok (.iaload, 1) := by decide +kernel
theorem dX4_pass_12 : decode cX4_pass 12 = .ok (.istore_n 1, 1) := by decide +kernel
theorem dX4_pass_13 : decode cX4_pass 13 = .ok (.aload_n 0, 1) := by decide +kernel
theorem dX4_pass_14 : decode cX4_pass 14 = .ok (.invokevirtual 52, 3) := by decide +kernel
theorem dX4_pass_17 : decode cX4_pass 17 = .ok (.istore_n 2, 1) := by decide +kernel
theorem dX4_pass_18 : decode cX4_pass 18 = .ok (.aload_n 0, 1) := by decide +kernel
theorem dX4_pass_19 : decode cX4_pass 19 = .ok (.getfield 21, 3) := by decide +kernel
theorem dX4_pass_22 : decode cX4_pass 22 = .ok (.astore_n 3, 1) := by decide +kernel
theorem dX4_pass_23 : decode cX4_pass 23 = .ok (.aload_n 3, 1) := by decide +kernel
theorem dX4_pass_24 : decode cX4_pass 24 = .ok (.arraylength, 1) := by decide +kernel
theorem dX4_pass_25 : decode cX4_pass 25 = .ok (.istore 4, 2) := by decide +kernel
theorem dX4_pass_27 : decode cX4_pass 27 = .ok (.iconst 0, 1) := by decide +kernel
theorem dX4_pass_28 : decode cX4_pass 28 = .ok (.istore 5, 2) := by decide +kernel
theorem dX4_pass_30 : decode cX4_pass 30 = .ok (.iload 5, 2) := by decide +kernel
theorem dX4_pass_32 : decode cX4_pass 32 = .ok (.iload 4, 2) := by decide +kernel
theorem dX4_pass_34 : decode cX4_pass 34 = .ok (.if_icmp .ge 217, 3) := by decide +kernel
theorem dX4_pass_37 : decode cX4_pass 37 = .ok (.aload_n 3, 1) := by decide +kernel
theorem dX4_pass_38 : decode cX4_pass 38 = .ok (.iload 5, 2) := by decide +kernel
theorem dX4_pass_40 : decode cX4_pass 40 = .ok (.aaload, 1) := by decide +kernel
theorem dX4_pass_41 : decode cX4_pass 41 = .ok (.astore 6, 2) := by decide +kernel
theorem dX4_pass_43 : decode cX4_pass 43 = .ok (.aload 6, 2) := by decide +kernel
theorem dX4_pass_45 : decode cX4_pass 45 = .ok (.getfield 56, 3) := by decide +kernel
theorem dX4_pass_48 : decode cX4_pass 48 = .ok (.iconst 1, 1) := by decide +kernel
theorem dX4_pass_49 : decode cX4_pass 49 = .ok (.if_icmp .ne 150, 3) := by decide +kernel
theorem dX4_pass_52 : decode cX4_pass 52 = .ok (.aload 6, 2) := by decide +kernel
theorem dX4_pass_54 : decode cX4_pass 54 = .ok (.getfield 49, 3) := by decide +kernel
theorem dX4_pass_57 : decode cX4_pass 57 = .ok (.arraylength, 1) := by decide +kernel
theorem dX4_pass_58 : decode cX4_pass 58 = .ok (.istore 7, 2) := by decide +kernel
theorem dX4_pass_60 : decode cX4_pass 60 = .ok (.iload 7, 2) := by decide +kernel
theorem dX4_pass_62 : decode cX4_pass 62 = .ok (.ifCond .le 35, 3) := by decide +kernel
theorem dX4_pass_65 : decode cX4_pass 65 = .ok (.iload_n 1, 1) := by decide +kernel
theorem dX4_pass_66 : decode cX4_pass 66 = .ok (.iconst 4, 1) := by decide +kernel
theorem dX4_pass_67 : decode cX4_pass 67 = .ok (.isub, 1) := by decide +kernel
theorem dX4_pass_68 : decode cX4_pass 68 = .ok (.iload 7, 2) := by decide +kernel
theorem dX4_pass_70 : decode cX4_pass 70 = .ok (.iload 7, 2) := by decide +kernel
theorem dX4_pass_72 : decode cX4_pass 72 = .ok (.iadd, 1) := by decide +kernel
theorem dX4_pass_73 : decode cX4_pass 73 = .ok (.if_icmp .le 24, 3) := by decide +kernel
theorem dX4_pass_76 : decode cX4_pass 76 = .ok (.iinc 7 (-1), 3) := by decide +kernel
theorem dX4_pass_79 : decode cX4_pass 79 = .ok (.aload 6, 2) := by decide +kernel
theorem dX4_pass_81 : decode cX4_pass 81 = .ok (.iload 7, 2) := by decide +kernel
theorem dX4_pass_83 : decode cX4_pass 83 = .ok (.iconst 0, 1) := by decide +kernel
theorem dX4_pass_84 : decode cX4_pass 84 = .ok (.invokevirtual 59, 3) := by decide +kernel
theorem dX4_pass_87 : decode cX4_pass 87 = .ok (.aload_n 0, 1) := by decide +kernel
theorem dX4_pass_88 : decode cX4_pass 88 = .ok (.dup, 1) := by decide +kernel
theorem dX4_pass_89 : decode cX4_pass 89 = .ok (.getfield 46, 3) := by decide +kernel
theorem dX4_pass_92 : decode cX4_pass 92 = .ok (.iconst 1, 1) := by decide +kernel
theorem dX4_pass_93 : decode cX4_pass 93 = .ok (.iadd, 1) := by decide +kernel
theorem dX4_pass_94 : decode cX4_pass 94 = .ok (.putfield 46, 3) := by decide +kernel
theorem dX4_pass_97 : decode cX4_pass 97 = .ok (.aload 6, 2) := by decide +kernel
theorem dX4_pass_99 : decode cX4_pass 99 = .ok (.dup, 1) := by decide +kernel
theorem dX4_pass_100 : decode cX4_pass 100 = .ok (.getfield 63, 3) := by decide +kernel
theorem dX4_pass_103 : decode cX4_pass 103 = .ok (.iconst 4, 1) := by decide +kernel
theorem dX4_pass_104 : decode cX4_pass 104 = .ok (.iload 7, 2) := by decide +kernel
theorem dX4_pass_106 : decode cX4_pass 106 = .ok (.iconst 3, 1) := by decide +kernel
theorem dX4_pass_107 : decode cX4_pass 107 = .ok (.idiv, 1) := by decide +kernel
theorem dX4_pass_108 : decode cX4_pass 108 = .ok (.isub, 1) := by decide +kernel
theorem dX4_pass_109 : decode cX4_pass 109 = .ok (.iload_n 1, 1) := by decide +kernel
theorem dX4_pass_110 : decode cX4_pass 110 = .ok (.iconst 2, 1) := by decide +kernel
theorem dX4_pass_111 : decode cX4_pass 111 = .ok (.idiv, 1) := by decide +kernel
theorem dX4_pass_112 : decode cX4_pass 112 = .ok (.iadd, 1) := by decide +kernel
theorem dX4_pass_113 : decode cX4_pass 113 = .ok (.isub, 1) := by decide +kernel
theorem dX4_pass_114 : decode cX4_pass 114 = .ok (.putfield 63, 3) := by decide +kernel
theorem dX4_pass_117 : decode cX4_pass 117 = .ok (.aload 6, 2) := by decide +kernel
theorem dX4_pass_119 : decode cX4_pass 119 = .ok (.getfield 63, 3) := by decide +kernel
theorem dX4_pass_122 : decode cX4_pass 122 = .ok (.ifCond .le 6, 3) := by decide +kernel
theorem dX4_pass_125 : decode cX4_pass 125 = .ok (.goto 120, 3) := by decide +kernel
theorem dX4_pass_128 : decode cX4_pass 128 = .ok (.aload 6, 2) := by decide +kernel
theorem dX4_pass_130 : decode cX4_pass 130 = .ok (.iconst 0, 1) := by decide +kernel
theorem dX4_pass_131 : decode cX4_pass 131 = .ok (.putfield 63, 3) := by decide +kernel
theorem dX4_pass_134 : decode cX4_pass 134 = .ok (.aload 6, 2) := by decide +kernel
theorem dX4_pass_136 : decode cX4_pass 136 = .ok (.getfield 49, 3) := by decide +kernel
theorem dX4_pass_139 : decode cX4_pass 139 = .ok (.astore 8, 2) := by decide +kernel
theorem dX4_pass_141 : decode cX4_pass 141 = .ok (.aload 8, 2) := by decide +kernel
theorem dX4_pass_143 : decode cX4_pass 143 = .ok (.arraylength, 1) := by decide +kernel
theorem dX4_pass_144 : decode cX4_pass 144 = .ok (.istore 9, 2) := by decide +kernel
theorem dX4_pass_146 : decode cX4_pass 146 = .ok (.iconst 0, 1) := by decide +kernel
theorem dX4_pass_147 : decode cX4_pass 147 = .ok (.istore 10, 2) := by decide +kernel
theorem dX4_pass_149 : decode cX4_pass 149 = .ok (.iload 10, 2) := by decide +kernel
theorem dX4_pass_151 : decode cX4_pass 151 = .ok (.iload 9, 2) := by decide +kernel
theorem dX4_pass_153 : decode cX4_pass 153 = .ok (.if_icmp .ge 30, 3) := by decide +kernel
theorem dX4_pass_156 : decode cX4_pass 156 = .ok (.aload 8, 2) := by decide +kernel
theorem dX4_pass_158 : decode cX4_pass 158 = .ok (.iload 10, 2) := by decide +kernel
theorem dX4_pass_160 : decode cX4_pass 160 = .ok (.iaload, 1) := by decide +kernel
theorem dX4_pass_161 : decode cX4_pass 161 = .ok (.istore 11, 2) := by decide +kernel
theorem dX4_pass_163 : decode cX4_pass 163 = .ok (.aload_n 0, 1) := by decide +kernel
theorem dX4_pass_164 : decode cX4_pass 164 = .ok (.getfield 30, 3) := by decide +kernel
theorem dX4_pass_167 : decode cX4_pass 167 = .ok (.iload 11, 2) := by decide +kernel
theorem dX4_pass_169 : decode cX4_pass 169 = .ok (.invokestatic 66, 3) := by decide +kernel
theorem dX4_pass_172 : decode cX4_pass 172 = .ok (.dup2, 1) := by decide +kernel
theorem dX4_pass_173 : decode cX4_pass 173 = .ok (.iaload, 1) := by decide +kernel
theorem dX4_pass_174 : decode cX4_pass 174 = .ok (.iconst 1, 1) := by decide +kernel
theorem dX4_pass_175 : decode cX4_pass 175 = .ok (.iadd, 1) := by decide +kernel
theorem dX4_pass_176 : decode cX4_pass 176 = .ok (.iastore, 1) := by decide +kernel
theorem dX4_pass_177 : decode cX4_pass 177 = .ok (.iinc 10 1, 3) := by decide +kernel
theorem dX4_pass_180 : decode cX4_pass 180 = .ok (.goto (-31), 3) := by decide +kernel
theorem dX4_pass_183 : decode cX4_pass 183 = .ok (.aload 6, 2) := by decide +kernel
theorem dX4_pass_185 : decode cX4_pass 185 = .ok (.iconst 0, 1) := by decide +kernel
theorem dX4_pass_186 : decode cX4_pass 186 = .ok (.iconst 0, 1) := by decide +kernel
theorem dX4_pass_187 : decode cX4_pass 187 = .ok (.invokevirtual 59, 3) := by decide +kernel
theorem dX4_pass_190 : decode cX4_pass 190 = .ok (.aload 6, 2) := by decide +kernel
theorem dX4_pass_192 : decode cX4_pass 192 = .ok (.iconst 2, 1) := by decide +kernel
theorem dX4_pass_193 : decode cX4_pass 193 = .ok (.putfield 56, 3) := by decide +kernel
theorem dX4_pass_196 : decode cX4_pass 196 = .ok (.goto 49, 3) := by decide +kernel
theorem dX4_pass_199 : decode cX4_pass 199 = .ok (.aload 6, 2) := by decide +kernel
theorem dX4_pass_201 : decode cX4_pass 201 = .ok (.getfield 56, 3) := by decide +kernel
theorem dX4_pass_204 : decode cX4_pass 204 = .ok (.iconst 2, 1) := by decide +kernel
theorem dX4_pass_205 : decode cX4_pass 205 = .ok (.if_icmp .ne 40, 3) := by decide +kernel
theorem dX4_pass_208 : decode cX4_pass 208 = .ok (.aload 6, 2) := by decide +kernel
theorem dX4_pass_210 : decode cX4_pass 210 = .ok (.dup, 1) := by decide +kernel
theorem dX4_pass_211 : decode cX4_pass 211 = .ok (.getfield 63, 3) := by decide +kernel
theorem dX4_pass_214 : decode cX4_pass 214 = .ok (.iconst 5, 1) := by decide +kernel
theorem dX4_pass_215 : decode cX4_pass 215 = .ok (.iadd, 1) := by decide +kernel
theorem dX4_pass_216 : decode cX4_pass 216 = .ok (.putfield 63, 3) := by decide +kernel
theorem dX4_pass_219 : decode cX4_pass 219 = .ok (.aload 6, 2) := by decide +kernel
theorem dX4_pass_221 : decode cX4_pass 221 = .ok (.getfield 63, 3) := by decide +kernel
theorem dX4_pass_224 : decode cX4_pass 224 = .ok (.bipush 20, 2) := by decide +kernel
theorem dX4_pass_226 : decode cX4_pass 226 = .ok (.if_icmp .ge 6, 3) := by decide +kernel
theorem dX4_pass_229 : decode cX4_pass 229 = .ok (.goto 16, 3) := by decide +kernel
theorem dX4_pass_232 : decode cX4_pass 232 = .ok (.aload 6, 2) := by decide +kernel
theorem dX4_pass_234 : decode cX4_pass 234 = .ok (.bipush 20, 2) := by decide +kernel
theorem dX4_pass_236 : decode cX4_pass 236 = .ok (.putfield 63, 3) := by decide +kernel
theorem dX4_pass_239 : decode cX4_pass 239 = .ok (.aload 6, 2) := by decide +kernel
theorem dX4_pass_241 : decode cX4_pass 241 = .ok (.iconst 0, 1) := by decide +kernel
theorem dX4_pass_242 : decode cX4_pass 242 = .ok (.putfield 56, 3) := by decide +kernel
theorem dX4_pass_245 : decode cX4_pass 245 = .ok (.iinc 5 1, 3) := by decide +kernel
theorem dX4_pass_248 : decode cX4_pass 248 = .ok (.goto (-218), 3) := by decide +kernel
theorem dX4_pass_251 : decode cX4_pass 251 = .ok (.aload_n 0, 1) := by decide +kernel
theorem dX4_pass_252 : decode cX4_pass 252 = .ok (.dup, 1) := by decide +kernel
theorem dX4_pass_253 : decode cX4_pass 253 = .ok (.getfield 42, 3) := by decide +kernel
theorem dX4_pass_256 : decode cX4_pass 256 = .ok (.iconst 1, 1) := by decide +kernel
theorem dX4_pass_257 : decode cX4_pass 257 = .ok (.iadd, 1) := by decide +kernel
theorem dX4_pass_258 : decode cX4_pass 258 = .ok (.putfield 42, 3) := by decide +kernel
theorem dX4_pass_261 : decode cX4_pass 261 = .ok (.aload_n 0, 1) := by decide +kernel
theorem dX4_pass_262 : decode cX4_pass 262 = .ok (.invokevirtual 52, 3) := by decide +kernel
theorem dX4_pass_265 : decode cX4_pass 265 = .ok (.iload_n 2, 1) := by decide +kernel
theorem dX4_pass_266 : decode cX4_pass 266 = .ok (.isub, 1) := by decide +kernel
theorem dX4_pass_267 : decode cX4_pass 267 = .ok (.ireturn, 1) := by decide +kernel
theorem dX4_depth_0 : decode cX4_depth 0 = .ok (.iload_n 0, 1) := by decide +kernel
theorem dX4_depth_1 : decode cX4_depth 1 = .ok (.iload_n 1, 1) := by decide +kernel
theorem dX4_depth_2 : decode cX4_depth 2 = .ok (.iadd, 1) := by decide +kernel
theorem dX4_depth_3 : decode cX4_depth 3 = .ok (.bipush 50, 2) := by decide +kernel
theorem dX4_depth_5 : decode cX4_depth 5 = .ok (.idiv, 1) := by decide +kernel
theorem dX4_depth_6 : decode cX4_depth 6 = .ok (.iload_n 0, 1) := by decide +kernel
theorem dX4_depth_7 : decode cX4_depth 7 = .ok (.iload_n 1, 1) := by decide +kernel
theorem dX4_depth_8 : decode cX4_depth 8 = .ok (.if_icmp .le 9, 3) := by decide +kernel
theorem dX4_depth_11 : decode cX4_depth 11 = .ok (.iload_n 0, 1) := by decide +kernel
theorem dX4_depth_12 : decode cX4_depth 12 = .ok (.iload_n 1, 1) := by decide +kernel
theorem dX4_depth_13 : decode cX4_depth 13 = .ok (.isub, 1) := by decide +kernel
theorem dX4_depth_14 : decode cX4_depth 14 = .ok (.goto 6, 3) := by decide +kernel
theorem dX4_depth_17 : decode cX4_depth 17 = .ok (.iload_n 1, 1) := by decide +kernel
theorem dX4_depth_18 : decode cX4_depth 18 = .ok (.iload_n 0, 1) := by decide +kernel
theorem dX4_depth_19 : decode cX4_depth 19 = .ok (.isub, 1) := by decide +kernel
theorem dX4_depth_20 : decode cX4_depth 20 = .ok (.bipush 40, 2) := by decide +kernel
theorem dX4_depth_22 : decode cX4_depth 22 = .ok (.idiv, 1) := by decide +kernel
theorem dX4_depth_23 : decode cX4_depth 23 = .ok (.iadd, 1) := by decide +kernel
theorem dX4_depth_24 : decode cX4_depth 24 = .ok (.ireturn, 1) := by decide +kernel
set_option maxRecDepth 20000 in
theorem ggX4_canSail_X4_depth : GoodIn wsX4_canSail wsX4_depth := goodIn_r _ [4] (by decide +kernel) (by decide +kernel)
set_option maxRecDepth 20000 in
theorem gX4_canSail_X4_depth : GoodIn wsX4_canSail (va_wsS RX4 72 yX4_depth wsX4_depth) := goodIn_app (goodIn_of _ (by decide +kernel)) ggX4_canSail_X4_depth
theorem dX4_canSail_0 : decode cX4_canSail 0 = .ok (.aload_n 0, 1) := by decide +kernel
theorem dX4_canSail_1 : decode cX4_canSail 1 = .ok (.iconst 1, 1) := by decide +kernel
theorem dX4_canSail_2 : decode cX4_canSail 2 = .ok (.iaload, 1) := by decide +kernel
theorem dX4_canSail_3 : decode cX4_canSail 3 = .ok (.aload_n 0, 1) := by decide +kernel
theorem dX4_canSail_4 : decode cX4_canSail 4 = .ok (.iconst 2, 1) := by decide +kernel
theorem dX4_canSail_5 : decode cX4_canSail 5 = .ok (.iaload, 1) := by decide +kernel
theorem dX4_canSail_6 : decode cX4_canSail 6 = .ok (.invokestatic 72, 3) := by decide +kernel
theorem dX4_canSail_9 : decode cX4_canSail 9 = .ok (.bipush 21, 2) := by decide +kernel
theorem dX4_canSail_11 : decode cX4_canSail 11 = .ok (.if_icmp .ge 31, 3) := by decide +kernel
theorem dX4_canSail_14 : decode cX4_canSail 14 = .ok (.aload_n 0, 1) := by decide +kernel
theorem dX4_canSail_15 : decode cX4_canSail 15 = .ok (.iconst 1, 1) := by decide +kernel
theorem dX4_canSail_16 : decode cX4_canSail 16 = .ok (.iaload, 1) := by decide +kernel
theorem dX4_canSail_17 : decode cX4_canSail 17 = .ok (.aload_n 0, 1) := by decide +kernel
theorem dX4_canSail_18 : decode cX4_canSail 18 = .ok (.iconst 2, 1) := by decide +kernel
theorem dX4_canSail_19 : decode cX4_canSail 19 = .ok (.iaload, 1) := by decide +kernel
theorem dX4_canSail_20 : decode cX4_canSail 20 = .ok (.isub, 1) := by decide +kernel
theorem dX4_canSail_21 : decode cX4_canSail 21 = .ok (.bipush 101, 2) := by decide +kernel
theorem dX4_canSail_23 : decode cX4_canSail 23 = .ok (.if_icmp .ge 19, 3) := by decide +kernel
theorem dX4_canSail_26 : decode cX4_canSail 26 = .ok (.aload_n 0, 1) := by decide +kernel
theorem dX4_canSail_27 : decode cX4_canSail 27 = .ok (.iconst 2, 1) := by decide +kernel
theorem dX4_canSail_28 : decode cX4_canSail 28 = .ok (.iaload, 1) := by decide +kernel
theorem dX4_canSail_29 : decode cX4_canSail 29 = .ok (.aload_n 0, 1) := by decide +kernel
theorem dX4_canSail_30 : decode cX4_canSail 30 = .ok (.iconst 1, 1) := by decide +kernel
theorem dX4_canSail_31 : decode cX4_canSail 31 = .ok (.iaload, 1) := by decide +kernel
theorem dX4_canSail_32 : decode cX4_canSail 32 = .ok (.isub, 1) := by decide +kernel
theorem dX4_canSail_33 : decode cX4_canSail 33 = .ok (.bipush 101, 2) := by decide +kernel
theorem dX4_canSail_35 : decode cX4_canSail 35 = .ok (.if_icmp .ge 7, 3) := by decide +kernel
theorem dX4_canSail_38 : decode cX4_canSail 38 = .ok (.iconst 1, 1) := by decide +kernel
theorem dX4_canSail_39 : decode cX4_canSail 39 = .ok (.goto 4, 3) := by decide +kernel
theorem dX4_canSail_42 : decode cX4_canSail 42 = .ok (.iconst 0, 1) := by decide +kernel
theorem dX4_canSail_43 : decode cX4_canSail 43 = .ok (.ireturn, 1) := by decide +kernel
set_option maxRecDepth 20000 in
theorem ggX4_isSame_L_kind : GoodIn wsX4_isSame wsL_kind := goodIn_r _ [17] (by decide +kernel) (by decide +kernel)
set_option maxRecDepth 20000 in
theorem gX4_isSame_L_kind_n66 : GoodIn wsX4_isSame (wsL_kind) := ggX4_isSame_L_kind
set_option maxRecDepth 20000 in
theorem ggX4_isSame_X3_layer : GoodIn wsX4_isSame wsX3_layer := goodIn_ca (goodIn_r _ [22, 23, 24, 25, 26, 27, 28, 21, 29, 30, 31, 32, 33, 34, 35, 36, 37, 38, 39, 174, 175, 176, 177, 178, 179, 180, 181, 182, 183, 184, 185] (by decide +kernel) (by decide +kernel)) (goodIn_sub (fun _ h => List.mem_cons_of_mem _ (List.mem_append_right _ h)) (by decide +kernel))
set_option maxRecDepth 20000 in
theorem gX4_isSame_X3_layer : GoodIn wsX4_isSame (wsV RX4 76 RX3 yX3_layer wsX3_layer) := goodIn_app (goodIn_of _ (by decide +kernel)) ggX4_isSame_X3_layer
set_option maxRecDepth 20000 in
theorem ggX4_isSame_X5_weight : GoodIn wsX4_isSame wsX5_weight := goodIn_r _ [44, 45, 170, 171, 172, 173] (by decide +kernel) (by decide +kernel)
set_option maxRecDepth 20000 in
theorem gX4_isSame_X5_weight : GoodIn wsX4_isSame (wsV RX4 84 RX5 yX5_weight wsX5_weight) := goodIn_app (goodIn_of _ (by decide +kernel)) ggX4_isSame_X5_weight
set_option maxRecDepth 20000 in
theorem ggX4_isSame_X3_told : GoodIn wsX4_isSame wsX3_told := goodIn_ca (goodIn_r _ [49, 23, 24, 50, 51, 52, 53, 21, 54, 55, 30, 31, 32, 56, 57, 58, 59, 60, 61, 62, 63, 64, 65, 66, 38, 39, 174, 175, 176, 177, 178, 179, 180, 181, 182, 183, 184, 185, 186, 187, 188, 189, 190] (by decide +kernel) (by decide +kernel)) (goodIn_sub (fun _ h => List.mem_cons_of_mem _ (List.mem_append_right _ h)) (by decide +kernel))
set_option maxRecDepth 20000 in
theorem gX4_isSame_X3_told : GoodIn wsX4_isSame (wsV RX4 86 RX3 yX3_told wsX3_told) := goodIn_app (goodIn_of _ (by decide +kernel)) ggX4_isSame_X3_told
set_option maxRecDepth 20000 in
theorem ggX4_isSame_X4_depth : GoodIn wsX4_isSame wsX4_depth := goodIn_r _ [70] (by decide +kernel) (by decide +kernel)
set_option maxRecDepth 20000 in
theorem gX4_isSame_X4_depth : GoodIn wsX4_isSame (va_wsS RX4 72 yX4_depth wsX4_depth) := goodIn_app (goodIn_of _ (by decide +kernel)) ggX4_isSame_X4_depth
set_option maxRecDepth 20000 in
theorem ggX4_isSame_X4_canSail : GoodIn wsX4_isSame wsX4_canSail := goodIn_r _ [73, 67, 68, 69, 70] (by decide +kernel) (by decide +kernel)
set_option maxRecDepth 20000 in
theorem gX4_isSame_X4_canSail : GoodIn wsX4_isSame (va_wsS RX4 89 yX4_canSail wsX4_canSail) := goodIn_app (goodIn_of _ (by decide +kernel)) ggX4_isSame_X4_canSail
set_option maxRecDepth 20000 in
theorem ggX4_isSame_X3_boat : GoodIn wsX4_isSame wsX3_boat := goodIn_ca (goodIn_r _ [77, 23, 24, 78, 79, 80, 81, 21, 82, 83, 30, 31, 32, 84, 85, 86, 87, 88, 89, 90, 91, 92, 93, 94, 95, 96, 97, 98, 99, 100, 101, 102, 103, 104, 105, 106, 107, 108, 109, 110, 111, 174, 175, 176, 177, 178, 179, 180, 181, 182, 183, 184, 185, 191, 192, 193] (by decide +kernel) (by decide +kernel)) (goodIn_sub (fun _ h => List.mem_cons_of_mem _ (List.mem_append_right _ h)) (by decide +kernel))
set_option maxRecDepth 20000 in
theorem gX4_isSame_X3_boat : GoodIn wsX4_isSame (wsV RX4 93 RX3 yX3_boat wsX3_boat) := goodIn_app (goodIn_of _ (by decide +kernel)) ggX4_isSame_X3_boat
set_option maxRecDepth 20000 in
theorem ggX4_isSame_X3_beach : GoodIn wsX4_isSame wsX3_beach := goodIn_ca (goodIn_r _ [115, 23, 24, 116, 117, 118, 21, 119, 30, 31, 32, 174, 175, 176, 177, 178, 179, 180, 181, 182, 183, 184, 185, 194, 195] (by decide +kernel) (by decide +kernel)) (goodIn_sub (fun _ h => List.mem_cons_of_mem _ (List.mem_append_right _ h)) (by decide +kernel))
set_option maxRecDepth 20000 in
theorem gX4_isSame_X3_beach : GoodIn wsX4_isSame (wsV RX4 96 RX3 yX3_beach wsX3_beach) := goodIn_app (goodIn_of _ (by decide +kernel)) ggX4_isSame_X3_beach
set_option maxRecDepth 20000 in
theorem ggX4_isSame_X4_aboard : GoodIn wsX4_isSame wsX4_aboard := goodIn_r _ [123, 4, 5, 161, 162, 163, 164, 165, 166, 167, 168, 169, 170, 171, 172, 173] (by decide +kernel) (by decide +kernel)
set_option maxRecDepth 20000 in
theorem gX4_isSame_X4_aboard : GoodIn wsX4_isSame (wsV RX4 101 RX4 yX4_aboard wsX4_aboard) := goodIn_app (goodIn_of _ (by decide +kernel)) ggX4_isSame_X4_aboard
set_option maxRecDepth 20000 in
theorem ggX4_isSame_X4_ashore : GoodIn wsX4_isSame wsX4_ashore := goodIn_r _ [127, 10, 161, 162, 163, 164, 165, 166, 167, 168, 169] (by decide +kernel) (by decide +kernel)
set_option maxRecDepth 20000 in
theorem gX4_isSame_X4_ashore : GoodIn wsX4_isSame (wsV RX4 52 RX4 yX4_ashore wsX4_ashore) := goodIn_app (goodIn_of _ (by decide +kernel)) ggX4_isSame_X4_ashore
set_option maxRecDepth 20000 in
theorem ggX4_isSame_X3_count : GoodIn wsX4_isSame wsX3_count := goodIn_ca (goodIn_r _ [131, 23, 24, 132, 55, 83, 133, 116, 30, 31, 21, 32, 134, 135, 136, 137, 138, 139, 140, 141, 142, 143, 144, 145, 146, 50, 147, 148, 149, 150, 151, 152, 153, 154, 155, 156, 25, 174, 175, 176, 177, 178, 179, 180, 181, 182, 183, 184, 185, 194, 195, 186, 187, 188, 189, 190] (by decide +kernel) (by decide +kernel)) (goodIn_sub (fun _ h => List.mem_cons_of_mem _ (List.mem_append_right _ h)) (by decide +kernel))
set_option maxRecDepth 20000 in
theorem gX4_isSame_X3_count : GoodIn wsX4_isSame (wsV RX4 104 RX3 yX3_count wsX3_count) := goodIn_app (goodIn_of _ (by decide +kernel)) ggX4_isSame_X3_count
set_option maxRecDepth 20000 in
theorem ggX4_isSame_X3_mean : GoodIn wsX4_isSame wsX3_mean := goodIn_r _ [160, 55, 50, 143, 144, 145, 21, 146, 56, 57, 58, 59, 60, 61, 62, 174, 175, 176, 177, 178, 179, 180, 181, 182, 183, 184, 185, 186, 187, 188, 189, 190] (by decide +kernel) (by decide +kernel)
set_option maxRecDepth 20000 in
theorem gX4_isSame_X3_mean : GoodIn wsX4_isSame (wsV RX4 107 RX3 yX3_mean wsX3_mean) := goodIn_app (goodIn_of _ (by decide +kernel)) ggX4_isSame_X3_mean
theorem dX4_isSame_0 : decode cX4_isSame 0 = .ok (.iconst 0, 1) := by decide +kernel
theorem dX4_isSame_1 : decode cX4_isSame 1 = .ok (.istore_n 2, 1) := by decide +kernel
theorem dX4_isSame_2 : decode cX4_isSame 2 = .ok (.iconst 0, 1) := by decide +kernel
theorem dX4_isSame_3 : decode cX4_isSame 3 = .ok (.istore_n 3, 1) := by decide +kernel
theorem dX4_isSame_4 : decode cX4_isSame 4 = .ok (.iconst 0, 1) := by decide +kernel
theorem dX4_isSame_5 : decode cX4_isSame 5 = .ok (.istore 4, 2) := by decide +kernel
theorem dX4_isSame_7 : decode cX4_isSame 7 = .ok (.iload 4, 2) := by decide +kernel
theorem dX4_isSame_9 : decode cX4_isSame 9 = .ok (.iconst 5, 1) := by decide +kernel
theorem dX4_isSame_10 : decode cX4_isSame 10 = .ok (.if_icmp .ge 106, 3) := by decide +kernel
theorem dX4_isSame_13 : decode cX4_isSame 13 = .ok (.iconst 4, 1) := by decide +kernel
theorem dX4_isSame_14 : decode cX4_isSame 14 = .ok (.newarray .int, 2) := by decide +kernel
theorem dX4_isSame_16 : decode cX4_isSame 16 = .ok (.dup, 1) := by decide +kernel
theorem dX4_isSame_17 : decode cX4_isSame 17 = .ok (.iconst 0, 1) := by decide +kernel
theorem dX4_isSame_18 : decode cX4_isSame 18 = .ok (.aload_n 0, 1) := by decide +kernel
theorem dX4_isSame_19 : decode cX4_isSame 19 = .ok (.getfield 7, 3) := by decide +kernel
theorem dX4_isSame_22 : decode cX4_isSame 22 = .ok (.iload 4, 2) := by decide +kernel
theorem dX4_isSame_24 : decode cX4_isSame 24 = .ok (.iaload, 1) := by decide +kernel
theorem dX4_isSame_25 : decode cX4_isSame 25 = .ok (.iastore, 1) := by decide +kernel
theorem dX4_isSame_26 : decode cX4_isSame 26 = .ok (.dup, 1) := by decide +kernel
theorem dX4_isSame_27 : decode cX4_isSame 27 = .ok (.iconst 1, 1) := by decide +kernel
theorem dX4_isSame_28 : decode cX4_isSame 28 = .ok (.aload_n 0, 1) := by decide +kernel
theorem dX4_isSame_29 : decode cX4_isSame 29 = .ok (.getfield 13, 3) := by decide +kernel
theorem dX4_isSame_32 : decode cX4_isSame 32 = .ok (.iload 4, 2) := by decide +kernel
theorem dX4_isSame_34 : decode cX4_isSame 34 = .ok (.iaload, 1) := by decide +kernel
theorem dX4_isSame_35 : decode cX4_isSame 35 = .ok (.iastore, 1) := by decide +kernel
theorem dX4_isSame_36 : decode cX4_isSame 36 = .ok (.dup, 1) := by decide +kernel
theorem dX4_isSame_37 : decode cX4_isSame 37 = .ok (.iconst 2, 1) := by decide +kernel
theorem dX4_isSame_38 : decode cX4_isSame 38 = .ok (.bipush 10, 2) := by decide +kernel
theorem dX4_isSame_40 : decode cX4_isSame 40 = .ok (.aload_n 0, 1) := by decide +kernel
theorem dX4_isSame_41 : decode cX4_isSame 41 = .ok (.getfield 13, 3) := by decide +kernel
theorem dX4_isSame_44 : decode cX4_isSame 44 = .ok (.iload 4, 2) := by decide +kernel
theorem dX4_isSame_46 : decode cX4_isSame 46 = .ok (.iaload, 1) := by decide +kernel
theorem dX4_isSame_47 : decode cX4_isSame 47 = .ok (.imul, 1) := by decide +kernel
theorem dX4_isSame_48 : decode cX4_isSame 48 = .ok (.invokestatic 66, 3) := by decide +kernel
theorem dX4_isSame_51 : decode cX4_isSame 51 = .ok (.iastore, 1) := by decide +kernel
theorem dX4_isSame_52 : decode cX4_isSame 52 = .ok (.dup, 1) := by decide +kernel
theorem dX4_isSame_53 : decode cX4_isSame 53 = .ok (.iconst 3, 1) := by decide +kernel
theorem dX4_isSame_54 : decode cX4_isSame 54 = .ok (.aload_n 0, 1) := by decide +kernel
theorem dX4_isSame_55 : decode cX4_isSame 55 = .ok (.getfield 7, 3) := by decide +kernel
theorem dX4_isSame_58 : decode cX4_isSame 58 = .ok (.iload 4, 2) := by decide +kernel
theorem dX4_isSame_60 : decode cX4_isSame 60 = .ok (.iaload, 1) := by decide +kernel
theorem dX4_isSame_61 : decode cX4_isSame 61 = .ok (.bipush 10, 2) := by decide +kernel
theorem dX4_isSame_63 : decode cX4_isSame 63 = .ok (.idiv, 1) := by decide +kernel
theorem dX4_isSame_64 : decode cX4_isSame 64 = .ok (.iastore, 1) := by decide +kernel
theorem dX4_isSame_65 : decode cX4_isSame 65 = .ok (.astore 5, 2) := by decide +kernel
theorem dX4_isSame_67 : decode cX4_isSame 67 = .ok (.iconst 0, 1) := by decide +kernel
theorem dX4_isSame_68 : decode cX4_isSame 68 = .ok (.istore 6, 2) := by decide +kernel
theorem dX4_isSame_70 : decode cX4_isSame 70 = .ok (.iload 6, 2) := by decide +kernel
theorem dX4_isSame_72 : decode cX4_isSame 72 = .ok (.iconst 4, 1) := by decide +kernel
theorem dX4_isSame_73 : decode cX4_isSame 73 = .ok (.if_icmp .ge 27, 3) := by decide +kernel
theorem dX4_isSame_76 : decode cX4_isSame 76 = .ok (.aload_n 1, 1) := by decide +kernel
theorem dX4_isSame_77 : decode cX4_isSame 77 = .ok (.iload 4, 2) := by decide +kernel
theorem dX4_isSame_79 : decode cX4_isSame 79 = .ok (.iload 6, 2) := by decide +kernel
theorem dX4_isSame_81 : decode cX4_isSame 81 = .ok (.invokevirtual 76, 3) := by decide +kernel
theorem dX4_isSame_84 : decode cX4_isSame 84 = .ok (.aload 5, 2) := by decide +kernel
theorem dX4_isSame_86 : decode cX4_isSame 86 = .ok (.iload 6, 2) := by decide +kernel
theorem dX4_isSame_88 : decode cX4_isSame 88 = .ok (.iaload, 1) := by decide +kernel
theorem dX4_isSame_89 : decode cX4_isSame 89 = .ok (.if_icmp .eq 5, 3) := by decide +kernel
theorem dX4_isSame_92 : decode cX4_isSame 92 = .ok (.iconst 0, 1) := by decide +kernel
theorem dX4_isSame_93 : decode cX4_isSame 93 = .ok (.ireturn, 1) := by decide +kernel
theorem dX4_isSame_94 : decode cX4_isSame 94 = .ok (.iinc 6 1, 3) := by decide +kernel
theorem dX4_isSame_97 : decode cX4_isSame 97 = .ok (.goto (-27), 3) := by decide +kernel
theorem dX4_isSame_100 : decode cX4_isSame 100 = .ok (.iload_n 2, 1) := by decide +kernel
theorem dX4_isSame_101 : decode cX4_isSame 101 = .ok (.aload_n 0, 1) := by decide +kernel
theorem dX4_isSame_102 : decode cX4_isSame 102 = .ok (.getfield 7, 3) := by decide +kernel
theorem dX4_isSame_105 : decode cX4_isSame 105 = .ok (.iload 4, 2) := by decide +kernel
theorem dX4_isSame_107 : decode cX4_isSame 107 = .ok (.iaload, 1) := by decide +kernel
theorem dX4_isSame_108 : decode cX4_isSame 108 = .ok (.iadd, 1) := by decide +kernel
theorem dX4_isSame_109 : decode cX4_isSame 109 = .ok (.istore_n 2, 1) := by decide +kernel
theorem dX4_isSame_110 : decode cX4_isSame 110 = .ok (.iinc 4 1, 3) := by decide +kernel
theorem dX4_isSame_113 : decode cX4_isSame 113 = .ok (.goto (-106), 3) := by decide +kernel
theorem dX4_isSame_116 : decode cX4_isSame 116 = .ok (.iconst 0, 1) := by decide +kernel
theorem dX4_isSame_117 : decode cX4_isSame 117 = .ok (.istore 4, 2) := by decide +kernel
theorem dX4_isSame_119 : decode cX4_isSame 119 = .ok (.iload 4, 2) := by decide +kernel
theorem dX4_isSame_121 : decode cX4_isSame 121 = .ok (.aload_n 0, 1) := by decide +kernel
theorem dX4_isSame_122 : decode cX4_isSame 122 = .ok (.getfield 21, 3) := by decide +kernel
theorem dX4_isSame_125 : decode cX4_isSame 125 = .ok (.arraylength, 1) := by decide +kernel
theorem dX4_isSame_126 : decode cX4_isSame 126 = .ok (.if_icmp .ge 136, 3) := by decide +kernel
theorem dX4_isSame_129 : decode cX4_isSame 129 = .ok (.aload_n 0, 1) := by decide +kernel
theorem dX4_isSame_130 : decode cX4_isSame 130 = .ok (.getfield 21, 3) := by decide +kernel
theorem dX4_isSame_133 : decode cX4_isSame 133 = .ok (.iload 4, 2) := by decide +kernel
theorem dX4_isSame_135 : decode cX4_isSame 135 = .ok (.aaload, 1) := by decide +kernel
theorem dX4_isSame_136 : decode cX4_isSame 136 = .ok (.astore 5, 2) := by decide +kernel
theorem dX4_isSame_138 : decode cX4_isSame 138 = .ok (.aload 5, 2) := by decide +kernel
theorem dX4_isSame_140 : decode cX4_isSame 140 = .ok (.getfield 49, 3) := by decide +kernel
theorem dX4_isSame_143 : decode cX4_isSame 143 = .ok (.arraylength, 1) := by decide +kernel
theorem dX4_isSame_144 : decode cX4_isSame 144 = .ok (.istore 6, 2) := by decide +kernel
theorem dX4_isSame_146 : decode cX4_isSame 146 = .ok (.bipush 6, 2) := by decide +kernel
theorem dX4_isSame_148 : decode cX4_isSame 148 = .ok (.newarray .int, 2) := by decide +kernel
theorem dX4_isSame_150 : decode cX4_isSame 150 = .ok (.dup, 1) := by decide +kernel
theorem dX4_isSame_151 : decode cX4_isSame 151 = .ok (.iconst 0, 1) := by decide +kernel
theorem dX4_isSame_152 : decode cX4_isSame 152 = .ok (.aload 5, 2) := by decide +kernel
theorem dX4_isSame_154 : decode cX4_isSame 154 = .ok (.getfield 81, 3) := by decide +kernel
theorem dX4_isSame_157 : decode cX4_isSame 157 = .ok (.iastore, 1) := by decide +kernel
theorem dX4_isSame_158 : decode cX4_isSame 158 = .ok (.dup, 1) := by decide +kernel
theorem dX4_isSame_159 : decode cX4_isSame 159 = .ok (.iconst 1, 1) := by decide +kernel
theorem dX4_isSame_160 : decode cX4_isSame 160 = .ok (.iload 6, 2) := by decide +kernel
theorem dX4_isSame_162 : decode cX4_isSame 162 = .ok (.iastore, 1) := by decide +kernel
theorem dX4_isSame_163 : decode cX4_isSame 163 = .ok (.dup, 1) := by decide +kernel
theorem dX4_isSame_164 : decode cX4_isSame 164 = .ok (.iconst 2, 1) := by decide +kernel
theorem dX4_isSame_165 : decode cX4_isSame 165 = .ok (.aload 5, 2) := by decide +kernel
theorem dX4_isSame_167 : decode cX4_isSame 167 = .ok (.getfield 63, 3) := by decide +kernel
theorem dX4_isSame_170 : decode cX4_isSame 170 = .ok (.iastore, 1) := by decide +kernel
theorem dX4_isSame_171 : decode cX4_isSame 171 = .ok (.dup, 1) := by decide +kernel
theorem dX4_isSame_172 : decode cX4_isSame 172 = .ok (.iconst 3, 1) := by decide +kernel
theorem dX4_isSame_173 : decode cX4_isSame 173 = .ok (.aload 5, 2) := by decide +kernel
theorem dX4_isSame_175 : decode cX4_isSame 175 = .ok (.getfield 56, 3) := by decide +kernel
theorem dX4_isSame_178 : decode cX4_isSame 178 = .ok (.iastore, 1) := by decide +kernel
theorem dX4_isSame_179 : decode cX4_isSame 179 = .ok (.dup, 1) := by decide +kernel
theorem dX4_isSame_180 : decode cX4_isSame 180 = .ok (.iconst 4, 1) := by decide +kernel
theorem dX4_isSame_181 : decode cX4_isSame 181 = .ok (.aload 5, 2) := by decide +kernel
theorem dX4_isSame_183 : decode cX4_isSame 183 = .ok (.invokevirtual 84, 3) := by decide +kernel
theorem dX4_isSame_186 : decode cX4_isSame 186 = .ok (.iastore, 1) := by decide +kernel
theorem dX4_isSame_187 : decode cX4_isSame 187 = .ok (.dup, 1) := by decide +kernel
theorem dX4_isSame_188 : decode cX4_isSame 188 = .ok (.iconst 5, 1) := by decide +kernel
theorem dX4_isSame_189 : decode cX4_isSame 189 = .ok (.iload 6, 2) := by decide +kernel
theorem dX4_isSame_191 : decode cX4_isSame 191 = .ok (.ifCond .ne 7, 3) := by decide +kernel
theorem dX4_isSame_194 : decode cX4_isSame 194 = .ok (.iconst (-1), 1) := by decide +kernel
theorem dX4_isSame_195 : decode cX4_isSame 195 = .ok (.goto 16, 3) := by decide +kernel
theorem dX4_isSame_198 : decode cX4_isSame 198 = .ok (.aload 5, 2) := by decide +kernel
theorem dX4_isSame_200 : decode cX4_isSame 200 = .ok (.getfield 49, 3) := by decide +kernel
theorem dX4_isSame_203 : decode cX4_isSame 203 = .ok (.iload 6, 2) := by decide +kernel
theorem dX4_isSame_205 : decode cX4_isSame 205 = .ok (.iconst 1, 1) := by decide +kernel
theorem dX4_isSame_206 : decode cX4_isSame 206 = .ok (.isub, 1) := by decide +kernel
theorem dX4_isSame_207 : decode cX4_isSame 207 = .ok (.iaload, 1) := by decide +kernel
theorem dX4_isSame_208 : decode cX4_isSame 208 = .ok (.invokestatic 66, 3) := by decide +kernel
theorem dX4_isSame_211 : decode cX4_isSame 211 = .ok (.iastore, 1) := by decide +kernel
theorem dX4_isSame_212 : decode cX4_isSame 212 = .ok (.astore 7, 2) := by decide +kernel
theorem dX4_isSame_214 : decode cX4_isSame 214 = .ok (.iconst 0, 1) := by decide +kernel
theorem dX4_isSame_215 : decode cX4_isSame 215 = .ok (.istore 8, 2) := by decide +kernel
theorem dX4_isSame_217 : decode cX4_isSame 217 = .ok (.iload 8, 2) := by decide +kernel
theorem dX4_isSame_219 : decode cX4_isSame 219 = .ok (.bipush 6, 2) := by decide +kernel
theorem dX4_isSame_221 : decode cX4_isSame 221 = .ok (.if_icmp .ge 27, 3) := by decide +kernel
theorem dX4_isSame_224 : decode cX4_isSame 224 = .ok (.aload_n 1, 1) := by decide +kernel
theorem dX4_isSame_225 : decode cX4_isSame 225 = .ok (.iload 4, 2) := by decide +kernel
theorem dX4_isSame_227 : decode cX4_isSame 227 = .ok (.iload 8, 2) := by decide +kernel
theorem dX4_isSame_229 : decode cX4_isSame 229 = .ok (.invokevirtual 86, 3) := by decide +kernel
theorem dX4_isSame_232 : decode cX4_isSame 232 = .ok (.aload 7, 2) := by decide +kernel
theorem dX4_isSame_234 : decode cX4_isSame 234 = .ok (.iload 8, 2) := by decide +kernel
theorem dX4_isSame_236 : decode cX4_isSame 236 = .ok (.iaload, 1) := by decide +kernel
theorem dX4_isSame_237 : decode cX4_isSame 237 = .ok (.if_icmp .eq 5, 3) := by decide +kernel
theorem dX4_isSame_240 : decode cX4_isSame 240 = .ok (.iconst 0, 1) := by decide +kernel
theorem dX4_isSame_241 : decode cX4_isSame 241 = .ok (.ireturn, 1) := by decide +kernel
theorem dX4_isSame_242 : decode cX4_isSame 242 = .ok (.iinc 8 1, 3) := by decide +kernel
theorem dX4_isSame_245 : decode cX4_isSame 245 = .ok (.goto (-28), 3) := by decide +kernel
theorem dX4_isSame_248 : decode cX4_isSame 248 = .ok (.iload_n 3, 1) := by decide +kernel
theorem dX4_isSame_249 : decode cX4_isSame 249 = .ok (.aload 5, 2) := by decide +kernel
theorem dX4_isSame_251 : decode cX4_isSame 251 = .ok (.invokevirtual 84, 3) := by decide +kernel
theorem dX4_isSame_254 : decode cX4_isSame 254 = .ok (.iadd, 1) := by decide +kernel
theorem dX4_isSame_255 : decode cX4_isSame 255 = .ok (.istore_n 3, 1) := by decide +kernel
theorem dX4_isSame_256 : decode cX4_isSame 256 = .ok (.iinc 4 1, 3) := by decide +kernel
theorem dX4_isSame_259 : decode cX4_isSame 259 = .ok (.goto (-140), 3) := by decide +kernel
theorem dX4_isSame_262 : decode cX4_isSame 262 = .ok (.iconst 0, 1) := by decide +kernel
theorem dX4_isSame_263 : decode cX4_isSame 263 = .ok (.istore 4, 2) := by decide +kernel
theorem dX4_isSame_265 : decode cX4_isSame 265 = .ok (.iload 4, 2) := by decide +kernel
theorem dX4_isSame_267 : decode cX4_isSame 267 = .ok (.aload_n 0, 1) := by decide +kernel
theorem dX4_isSame_268 : decode cX4_isSame 268 = .ok (.getfield 26, 3) := by decide +kernel
theorem dX4_isSame_271 : decode cX4_isSame 271 = .ok (.arraylength, 1) := by decide +kernel
theorem dX4_isSame_272 : decode cX4_isSame 272 = .ok (.if_icmp .ge 139, 3) := by decide +kernel
theorem dX4_isSame_275 : decode cX4_isSame 275 = .ok (.aload_n 0, 1) := by decide +kernel
theorem dX4_isSame_276 : decode cX4_isSame 276 = .ok (.getfield 26, 3) := by decide +kernel
theorem dX4_isSame_279 : decode cX4_isSame 279 = .ok (.iload 4, 2) := by decide +kernel
theorem dX4_isSame_281 : decode cX4_isSame 281 = .ok (.aaload, 1) := by decide +kernel
theorem dX4_isSame_282 : decode cX4_isSame 282 = .ok (.astore 5, 2) := by decide +kernel
theorem dX4_isSame_284 : decode cX4_isSame 284 = .ok (.bipush 7, 2) := by decide +kernel
theorem dX4_isSame_286 : decode cX4_isSame 286 = .ok (.newarray .int, 2) := by decide +kernel
theorem dX4_isSame_288 : decode cX4_isSame 288 = .ok (.dup, 1) := by decide +kernel
theorem dX4_isSame_289 : decode cX4_isSame 289 = .ok (.iconst 0, 1) := by decide +kernel
theorem dX4_isSame_290 : decode cX4_isSame 290 = .ok (.aload 5, 2) := by decide +kernel
theorem dX4_isSame_292 : decode cX4_isSame 292 = .ok (.iconst 0, 1) := by decide +kernel
theorem dX4_isSame_293 : decode cX4_isSame 293 = .ok (.iaload, 1) := by decide +kernel
theorem dX4_isSame_294 : decode cX4_isSame 294 = .ok (.iastore, 1) := by decide +kernel
theorem dX4_isSame_295 : decode cX4_isSame 295 = .ok (.dup, 1) := by decide +kernel
theorem dX4_isSame_296 : decode cX4_isSame 296 = .ok (.iconst 1, 1) := by decide +kernel
theorem dX4_isSame_297 : decode cX4_isSame 297 = .ok (.aload 5, 2) := by decide +kernel
theorem dX4_isSame_299 : decode cX4_isSame 299 = .ok (.iconst 1, 1) := by decide +kernel
theorem dX4_isSame_300 : decode cX4_isSame 300 = .ok (.iaload, 1) := by decide +kernel
theorem dX4_isSame_301 : decode cX4_isSame 301 = .ok (.iastore, 1) := by decide +kernel
theorem dX4_isSame_302 : decode cX4_isSame 302 = .ok (.dup, 1) := by decide +kernel
theorem dX4_isSame_303 : decode cX4_isSame 303 = .ok (.iconst 2, 1) := by decide +kernel
theorem dX4_isSame_304 : decode cX4_isSame 304 = .ok (.aload 5, 2) := by decide +kernel
theorem dX4_isSame_306 : decode cX4_isSame 306 = .ok (.iconst 2, 1) := by decide +kernel
theorem dX4_isSame_307 : decode cX4_isSame 307 = .ok (.iaload, 1) := by decide +kernel
theorem dX4_isSame_308 : decode cX4_isSame 308 = .ok (.iastore, 1) := by decide +kernel
theorem dX4_isSame_309 : decode cX4_isSame 309 = .ok (.dup, 1) := by decide +kernel
theorem dX4_isSame_310 : decode cX4_isSame 310 = .ok (.iconst 3, 1) := by decide +kernel
theorem dX4_isSame_311 : decode cX4_isSame 311 = .ok (.aload 5, 2) := by decide +kernel
theorem dX4_isSame_313 : decode cX4_isSame 313 = .ok (.iconst 1, 1) := by decide +kernel
theorem dX4_isSame_314 : decode cX4_isSame 314 = .ok (.iaload, 1) := by decide +kernel
theorem dX4_isSame_315 : decode cX4_isSame 315 = .ok (.aload 5, 2) := by decide +kernel
theorem dX4_isSame_317 : decode cX4_isSame 317 = .ok (.iconst 2, 1) := by decide +kernel
theorem dX4_isSame_318 : decode cX4_isSame 318 = .ok (.iaload, 1) := by decide +kernel
theorem dX4_isSame_319 : decode cX4_isSame 319 = .ok (.isub, 1) := by decide +kernel
theorem dX4_isSame_320 : decode cX4_isSame 320 = .ok (.iastore, 1) := by decide +kernel
theorem dX4_isSame_321 : decode cX4_isSame 321 = .ok (.dup, 1) := by decide +kernel
theorem dX4_isSame_322 : decode cX4_isSame 322 = .ok (.iconst 4, 1) := by decide +kernel
theorem dX4_isSame_323 : decode cX4_isSame 323 = .ok (.aload 5, 2) := by decide +kernel
theorem dX4_isSame_325 : decode cX4_isSame 325 = .ok (.iconst 1, 1) := by decide +kernel
theorem dX4_isSame_326 : decode cX4_isSame 326 = .ok (.iaload, 1) := by decide +kernel
theorem dX4_isSame_327 : decode cX4_isSame 327 = .ok (.aload 5, 2) := by decide +kernel
theorem dX4_isSame_329 : decode cX4_isSame 329 = .ok (.iconst 2, 1) := by decide +kernel
theorem dX4_isSame_330 : decode cX4_isSame 330 = .ok (.iaload, 1) := by decide +kernel
theorem dX4_isSame_331 : decode cX4_isSame 331 = .ok (.invokestatic 72, 3) := by decide +kernel
theorem dX4_isSame_334 : decode cX4_isSame 334 = .ok (.iastore, 1) := by decide +kernel
theorem dX4_isSame_335 : decode cX4_isSame 335 = .ok (.dup, 1) := by decide +kernel
theorem dX4_isSame_336 : decode cX4_isSame 336 = .ok (.iconst 5, 1) := by decide +kernel
theorem dX4_isSame_337 : decode cX4_isSame 337 = .ok (.aload 5, 2) := by decide +kernel
theorem dX4_isSame_339 : decode cX4_isSame 339 = .ok (.invokestatic 89, 3) := by decide +kernel
theorem dX4_isSame_342 : decode cX4_isSame 342 = .ok (.ifCond .eq 7, 3) := by decide +kernel
theorem dX4_isSame_345 : decode cX4_isSame 345 = .ok (.iconst 1, 1) := by decide +kernel
theorem dX4_isSame_346 : decode cX4_isSame 346 = .ok (.goto 4, 3) := by decide +kernel
theorem dX4_isSame_349 : decode cX4_isSame 349 = .ok (.iconst 0, 1) := by decide +kernel
theorem dX4_isSame_350 : decode cX4_isSame 350 = .ok (.iastore, 1) := by decide +kernel
theorem dX4_isSame_351 : decode cX4_isSame 351 = .ok (.dup, 1) := by decide +kernel
theorem dX4_isSame_352 : decode cX4_isSame 352 = .ok (.bipush 6, 2) := by decide +kernel
theorem dX4_isSame_354 : decode cX4_isSame 354 = .ok (.aload 5, 2) := by decide +kernel
theorem dX4_isSame_356 : decode cX4_isSame 356 = .ok (.iconst 0, 1) := by decide +kernel
theorem dX4_isSame_357 : decode cX4_isSame 357 = .ok (.iaload, 1) := by decide +kernel
theorem dX4_isSame_358 : decode cX4_isSame 358 = .ok (.aload 5, 2) := by decide +kernel
theorem dX4_isSame_360 : decode cX4_isSame 360 = .ok (.iconst 1, 1) := by decide +kernel
theorem dX4_isSame_361 : decode cX4_isSame 361 = .ok (.iaload, 1) := by decide +kernel
theorem dX4_isSame_362 : decode cX4_isSame 362 = .ok (.isub, 1) := by decide +kernel
theorem dX4_isSame_363 : decode cX4_isSame 363 = .ok (.aload 5, 2) := by decide +kernel
theorem dX4_isSame_365 : decode cX4_isSame 365 = .ok (.iconst 2, 1) := by decide +kernel
theorem dX4_isSame_366 : decode cX4_isSame 366 = .ok (.iaload, 1) := by decide +kernel
theorem dX4_isSame_367 : decode cX4_isSame 367 = .ok (.isub, 1) := by decide +kernel
theorem dX4_isSame_368 : decode cX4_isSame 368 = .ok (.iastore, 1) := by decide +kernel
theorem dX4_isSame_369 : decode cX4_isSame 369 = .ok (.astore 6, 2) := by decide +kernel
theorem dX4_isSame_371 : decode cX4_isSame 371 = .ok (.iconst 0, 1) := by decide +kernel
theorem dX4_isSame_372 : decode cX4_isSame 372 = .ok (.istore 7, 2) := by decide +kernel
theorem dX4_isSame_374 : decode cX4_isSame 374 = .ok (.iload 7, 2) := by decide +kernel
theorem dX4_isSame_376 : decode cX4_isSame 376 = .ok (.bipush 7, 2) := by decide +kernel
theorem dX4_isSame_378 : decode cX4_isSame 378 = .ok (.if_icmp .ge 27, 3) := by decide +kernel
theorem dX4_isSame_381 : decode cX4_isSame 381 = .ok (.aload_n 1, 1) := by decide +kernel
theorem dX4_isSame_382 : decode cX4_isSame 382 = .ok (.iload 4, 2) := by decide +kernel
theorem dX4_isSame_384 : decode cX4_isSame 384 = .ok (.iload 7, 2) := by decide +kernel
theorem dX4_isSame_386 : decode cX4_isSame 386 = .ok (.invokevirtual 93, 3) := by decide +kernel
theorem dX4_isSame_389 : decode cX4_isSame 389 = .ok (.aload 6, 2) := by decide +kernel
theorem dX4_isSame_391 : decode cX4_isSame 391 = .ok (.iload 7, 2) := by decide +kernel
theorem dX4_isSame_393 : decode cX4_isSame 393 = .ok (.iaload, 1) := by decide +kernel
theorem dX4_isSame_394 : decode cX4_isSame 394 = .ok (.if_icmp .eq 5, 3) := by decide +kernel
theorem dX4_isSame_397 : decode cX4_isSame 397 = .ok (.iconst 0, 1) := by decide +kernel
theorem dX4_isSame_398 : decode cX4_isSame 398 = .ok (.ireturn, 1) := by decide +kernel
theorem dX4_isSame_399 : decode cX4_isSame 399 = .ok (.iinc 7 1, 3) := by decide +kernel
theorem dX4_isSame_402 : decode cX4_isSame 402 = .ok (.goto (-28), 3) := by decide +kernel
theorem dX4_isSame_405 : decode cX4_isSame 405 = .ok (.iinc 4 1, 3) := by decide +kernel
theorem dX4_isSame_408 : decode cX4_isSame 408 = .ok (.goto (-143), 3) := by decide +kernel
theorem dX4_isSame_411 : decode cX4_isSame 411 = .ok (.iconst 0, 1) := by decide +kernel
theorem dX4_isSame_412 : decode cX4_isSame 412 = .ok (.istore 4, 2) := by decide +kernel
theorem dX4_isSame_414 : decode cX4_isSame 414 = .ok (.iload 4, 2) := by decide +kernel
theorem dX4_isSame_416 : decode cX4_isSame 416 = .ok (.iconst 3, 1) := by decide +kernel
theorem dX4_isSame_417 : decode cX4_isSame 417 = .ok (.if_icmp .ge 27, 3) := by decide +kernel
theorem dX4_isSame_420 : decode cX4_isSame 420 = .ok (.aload_n 1, 1) := by decide +kernel
theorem dX4_isSame_421 : decode cX4_isSame 421 = .ok (.iload 4, 2) := by decide +kernel
theorem dX4_isSame_423 : decode cX4_isSame 423 = .ok (.invokevirtual 96, 3) := by decide +kernel
theorem dX4_isSame_426 : decode cX4_isSame 426 = .ok (.aload_n 0, 1) := by decide +kernel
theorem dX4_isSame_427 : decode cX4_isSame 427 = .ok (.getfield 30, 3) := by decide +kernel
theorem dX4_isSame_430 : decode cX4_isSame 430 = .ok (.iload 4, 2) := by decide +kernel
theorem dX4_isSame_432 : decode cX4_isSame 432 = .ok (.iaload, 1) := by decide +kernel
theorem dX4_isSame_433 : decode cX4_isSame 433 = .ok (.if_icmp .eq 5, 3) := by decide +kernel
theorem dX4_isSame_436 : decode cX4_isSame 436 = .ok (.iconst 0, 1) := by decide +kernel
theorem dX4_isSame_437 : decode cX4_isSame 437 = .ok (.ireturn, 1) := by decide +kernel
theorem dX4_isSame_438 : decode cX4_isSame 438 = .ok (.iinc 4 1, 3) := by decide +kernel
theorem dX4_isSame_441 : decode cX4_isSame 441 = .ok (.goto (-27), 3) := by decide +kernel
theorem dX4_isSame_444 : decode cX4_isSame 444 = .ok (.bipush 9, 2) := by decide +kernel
theorem dX4_isSame_446 : decode cX4_isSame 446 = .ok (.newarray .int, 2) := by decide +kernel
theorem dX4_isSame_448 : decode cX4_isSame 448 = .ok (.dup, 1) := by decide +kernel
theorem dX4_isSame_449 : decode cX4_isSame 449 = .ok (.iconst 0, 1) := by decide +kernel
theorem dX4_isSame_450 : decode cX4_isSame 450 = .ok (.aload_n 0, 1) := by decide +kernel
theorem dX4_isSame_451 : decode cX4_isSame 451 = .ok (.getfield 42, 3) := by decide +kernel
theorem dX4_isSame_454 : decode cX4_isSame 454 = .ok (.iastore, 1) := by decide +kernel
theorem dX4_isSame_455 : decode cX4_isSame 455 = .ok (.dup, 1) := by decide +kernel
theorem dX4_isSame_456 : decode cX4_isSame 456 = .ok (.iconst 1, 1) := by decide +kernel
theorem dX4_isSame_457 : decode cX4_isSame 457 = .ok (.aload_n 0, 1) := by decide +kernel
theorem dX4_isSame_458 : decode cX4_isSame 458 = .ok (.getfield 16, 3) := by decide +kernel
theorem dX4_isSame_461 : decode cX4_isSame 461 = .ok (.aload_n 0, 1) := by decide +kernel
theorem dX4_isSame_462 : decode cX4_isSame 462 = .ok (.getfield 42, 3) := by decide +kernel
theorem dX4_isSame_465 : decode cX4_isSame 465 = .ok (.bipush 8, 2) := by decide +kernel
theorem dX4_isSame_467 : decode cX4_isSame 467 = .ok (.irem, 1) := by decide +kernel
theorem dX4_isSame_468 : decode cX4_isSame 468 = .ok (.iaload, 1) := by decide +kernel
theorem dX4_isSame_469 : decode cX4_isSame 469 = .ok (.iastore, 1) := by decide +kernel
theorem dX4_isSame_470 : decode cX4_isSame 470 = .ok (.dup, 1) := by decide +kernel
theorem dX4_isSame_471 : decode cX4_isSame 471 = .ok (.iconst 2, 1) := by decide +kernel
theorem dX4_isSame_472 : decode cX4_isSame 472 = .ok (.aload_n 0, 1) := by decide +kernel
theorem dX4_isSame_473 : decode cX4_isSame 473 = .ok (.getfield 21, 3) := by decide +kernel
theorem dX4_isSame_476 : decode cX4_isSame 476 = .ok (.arraylength, 1) := by decide +kernel
theorem dX4_isSame_477 : decode cX4_isSame 477 = .ok (.iastore, 1) := by decide +kernel
theorem dX4_isSame_478 : decode cX4_isSame 478 = .ok (.dup, 1) := by decide +kernel
theorem dX4_isSame_479 : decode cX4_isSame 479 = .ok (.iconst 3, 1) := by decide +kernel
theorem dX4_isSame_480 : decode cX4_isSame 480 = .ok (.aload_n 0, 1) := by decide +kernel
theorem dX4_isSame_481 : decode cX4_isSame 481 = .ok (.getfield 26, 3) := by decide +kernel
theorem dX4_isSame_484 : decode cX4_isSame 484 = .ok (.arraylength, 1) := by decide +kernel
theorem dX4_isSame_485 : decode cX4_isSame 485 = .ok (.iastore, 1) := by decide +kernel
theorem dX4_isSame_486 : decode cX4_isSame 486 = .ok (.dup, 1) := by decide +kernel
theorem dX4_isSame_487 : decode cX4_isSame 487 = .ok (.iconst 4, 1) := by decide +kernel
theorem dX4_isSame_488 : decode cX4_isSame 488 = .ok (.aload_n 0, 1) := by decide +kernel
theorem dX4_isSame_489 : decode cX4_isSame 489 = .ok (.getfield 98, 3) := by decide +kernel
theorem dX4_isSame_492 : decode cX4_isSame 492 = .ok (.iastore, 1) := by decide +kernel
theorem dX4_isSame_493 : decode cX4_isSame 493 = .ok (.dup, 1) := by decide +kernel
theorem dX4_isSame_494 : decode cX4_isSame 494 = .ok (.iconst 5, 1) := by decide +kernel
theorem dX4_isSame_495 : decode cX4_isSame 495 = .ok (.aload_n 0, 1) := by decide +kernel
theorem dX4_isSame_496 : decode cX4_isSame 496 = .ok (.invokevirtual 101, 3) := by decide +kernel
theorem dX4_isSame_499 : decode cX4_isSame 499 = .ok (.iastore, 1) := by decide +kernel
theorem dX4_isSame_500 : decode cX4_isSame 500 = .ok (.dup, 1) := by decide +kernel
theorem dX4_isSame_501 : decode cX4_isSame 501 = .ok (.bipush 6, 2) := by decide +kernel
theorem dX4_isSame_503 : decode cX4_isSame 503 = .ok (.aload_n 0, 1) := by decide +kernel
theorem dX4_isSame_504 : decode cX4_isSame 504 = .ok (.invokevirtual 52, 3) := by decide +kernel
theorem dX4_isSame_507 : decode cX4_isSame 507 = .ok (.iastore, 1) := by decide +kernel
theorem dX4_isSame_508 : decode cX4_isSame 508 = .ok (.dup, 1) := by decide +kernel
theorem dX4_isSame_509 : decode cX4_isSame 509 = .ok (.bipush 7, 2) := by decide +kernel
theorem dX4_isSame_511 : decode cX4_isSame 511 = .ok (.aload_n 0, 1) := by decide +kernel
theorem dX4_isSame_512 : decode cX4_isSame 512 = .ok (.getfield 46, 3) := by decide +kernel
theorem dX4_isSame_515 : decode cX4_isSame 515 = .ok (.iastore, 1) := by decide +kernel
theorem dX4_isSame_516 : decode cX4_isSame 516 = .ok (.dup, 1) := by decide +kernel
theorem dX4_isSame_517 : decode cX4_isSame 517 = .ok (.bipush 8, 2) := by decide +kernel
theorem dX4_isSame_519 : decode cX4_isSame 519 = .ok (.iload_n 2, 1) := by decide +kernel
theorem dX4_isSame_520 : decode cX4_isSame 520 = .ok (.iastore, 1) := by decide +kernel
theorem dX4_isSame_521 : decode cX4_isSame 521 = .ok (.astore 4, 2) := by decide +kernel
theorem dX4_isSame_523 : decode cX4_isSame 523 = .ok (.iconst 0, 1) := by decide +kernel
theorem dX4_isSame_524 : decode cX4_isSame 524 = .ok (.istore 5, 2) := by decide +kernel
theorem dX4_isSame_526 : decode cX4_isSame 526 = .ok (.iload 5, 2) := by decide +kernel
theorem dX4_isSame_528 : decode cX4_isSame 528 = .ok (.bipush 9, 2) := by decide +kernel
theorem dX4_isSame_530 : decode cX4_isSame 530 = .ok (.if_icmp .ge 25, 3) := by decide +kernel
theorem dX4_isSame_533 : decode cX4_isSame 533 = .ok (.aload_n 1, 1) := by decide +kernel
theorem dX4_isSame_534 : decode cX4_isSame 534 = .ok (.iload 5, 2) := by decide +kernel
theorem dX4_isSame_536 : decode cX4_isSame 536 = .ok (.invokevirtual 104, 3) := by decide +kernel
theorem dX4_isSame_539 : decode cX4_isSame 539 = .ok (.aload 4, 2) := by decide +kernel
theorem dX4_isSame_541 : decode cX4_isSame 541 = .ok (.iload 5, 2) := by decide +kernel
theorem dX4_isSame_543 : decode cX4_isSame 543 = .ok (.iaload, 1) := by decide +kernel
theorem dX4_isSame_544 : decode cX4_isSame 544 = .ok (.if_icmp .eq 5, 3) := by decide +kernel
theorem dX4_isSame_547 : decode cX4_isSame 547 = .ok (.iconst 0, 1) := by decide +kernel
theorem dX4_isSame_548 : decode cX4_isSame 548 = .ok (.ireturn, 1) := by decide +kernel
theorem dX4_isSame_549 : decode cX4_isSame 549 = .ok (.iinc 5 1, 3) := by decide +kernel
theorem dX4_isSame_552 : decode cX4_isSame 552 = .ok (.goto (-26), 3) := by decide +kernel
theorem dX4_isSame_555 : decode cX4_isSame 555 = .ok (.aload_n 1, 1) := by decide +kernel
theorem dX4_isSame_556 : decode cX4_isSame 556 = .ok (.invokevirtual 107, 3) := by decide +kernel
theorem dX4_isSame_559 : decode cX4_isSame 559 = .ok (.aload_n 0, 1) := by decide +kernel
theorem dX4_isSame_560 : decode cX4_isSame 560 = .ok (.invokevirtual 101, 3) := by decide +kernel
theorem dX4_isSame_563 : decode cX4_isSame 563 = .ok (.ifCond .ne 7, 3) := by decide +kernel
theorem dX4_isSame_566 : decode cX4_isSame 566 = .ok (.dconst 0, 1) := by decide +kernel
theorem dX4_isSame_567 : decode cX4_isSame 567 = .ok (.goto 11, 3) := by decide +kernel
theorem dX4_isSame_570 : decode cX4_isSame 570 = .ok (.iload_n 3, 1) := by decide +kernel
theorem dX4_isSame_571 : decode cX4_isSame 571 = .ok (.i2d, 1) := by decide +kernel
theorem dX4_isSame_572 : decode cX4_isSame 572 = .ok (.aload_n 0, 1) := by decide +kernel
theorem dX4_isSame_573 : decode cX4_isSame 573 = .ok (.invokevirtual 101, 3) := by decide +kernel
theorem dX4_isSame_576 : decode cX4_isSame 576 = .ok (.i2d, 1) := by decide +kernel
theorem dX4_isSame_577 : decode cX4_isSame 577 = .ok (.ddiv, 1) := by decide +kernel
theorem dX4_isSame_578 : decode cX4_isSame 578 = .ok (.dcmp .l, 1) := by decide +kernel
theorem dX4_isSame_579 : decode cX4_isSame 579 = .ok (.ifCond .ne 7, 3) := by decide +kernel
theorem dX4_isSame_582 : decode cX4_isSame 582 = .ok (.iconst 1, 1) := by decide +kernel
theorem dX4_isSame_583 : decode cX4_isSame 583 = .ok (.goto 4, 3) := by decide +kernel
theorem dX4_isSame_586 : decode cX4_isSame 586 = .ok (.iconst 0, 1) := by decide +kernel
theorem dX4_isSame_587 : decode cX4_isSame 587 = .ok (.ireturn, 1) := by decide +kernel
theorem dX5_init_0 : decode cX5_init 0 = .ok (.aload_n 0, 1) := by decide +kernel
theorem dX5_init_1 : decode cX5_init 1 = .ok (.invokespecial 1, 3) := by decide +kernel
theorem dX5_init_4 : decode cX5_init 4 = .ok (.aload_n 0, 1) := by decide +kernel
theorem dX5_init_5 : decode cX5_init 5 = .ok (.bipush 20, 2) := by decide +kernel
theorem dX5_init_7 : decode cX5_init 7 = .ok (.putfield 7, 3) := by decide +kernel
theorem dX5_init_10 : decode cX5_init 10 = .ok (.aload_n 0, 1) := by decide +kernel
theorem dX5_init_11 : decode cX5_init 11 = .ok (.iconst 0, 1) := by decide +kernel
theorem dX5_init_12 : decode cX5_init 12 = .ok (.newarray .int, 2) := by decide +kernel
theorem dX5_init_14 : decode cX5_init 14 = .ok (.putfield 13, 3) := by decide +kernel
theorem dX5_init_17 : decode cX5_init 17 = .ok (.return_, 1) := by decide +kernel
theorem dX5_keep_0 : decode cX5_keep 0 = .ok (.iload_n 1, 1) := by decide +kernel
theorem dX5_keep_1 : decode cX5_keep 1 = .ok (.newarray .int, 2) := by decide +kernel
theorem dX5_keep_3 : decode cX5_keep 3 = .ok (.astore_n 3, 1) := by decide +kernel
theorem dX5_keep_4 : decode cX5_keep 4 = .ok (.iconst 0, 1) := by decide +kernel
theorem dX5_keep_5 : decode cX5_keep 5 = .ok (.istore 4, 2) := by decide +kernel
theorem dX5_keep_7 : decode cX5_keep 7 = .ok (.iload 4, 2) := by decide +kernel
theorem dX5_keep_9 : decode cX5_keep 9 = .ok (.iload_n 1, 1) := by decide +kernel
theorem dX5_keep_10 : decode cX5_keep 10 = .ok (.if_icmp .ge 34, 3) := by decide +kernel
theorem dX5_keep_13 : decode cX5_keep 13 = .ok (.aload_n 3, 1) := by decide +kernel
theorem dX5_keep_14 : decode cX5_keep 14 = .ok (.iload 4, 2) := by decide +kernel
theorem dX5_keep_16 : decode cX5_keep 16 = .ok (.iload 4, 2) := by decide +kernel
theorem dX5_keep_18 : decode cX5_keep 18 = .ok (.aload_n 0, 1) := by decide +kernel
theorem dX5_keep_19 : decode cX5_keep 19 = .ok (.getfield 13, 3) := by decide +kernel
theorem dX5_keep_22 : decode cX5_keep 22 = .ok (.arraylength, 1) := by decide +kernel
theorem dX5_keep_23 : decode cX5_keep 23 = .ok (.if_icmp .ge 13, 3) := by decide +kernel
theorem dX5_keep_26 : decode cX5_keep 26 = .ok (.aload_n 0, 1) := by decide +kernel
theorem dX5_keep_27 : decode cX5_keep 27 = .ok (.getfield 13, 3) := by decide +kernel
theorem dX5_keep_30 : decode cX5_keep 30 = .ok (.iload 4, 2) := by decide +kernel
theorem dX5_keep_32 : decode cX5_keep 32 = .ok (.iaload, 1) := by decide +kernel
theorem dX5_keep_33 : decode cX5_keep 33 = .ok (.goto 4, 3) := by decide +kernel
theorem dX5_keep_36 : decode cX5_keep 36 = .ok (.iload_n 2, 1) := by decide +kernel
theorem dX5_keep_37 : decode cX5_keep 37 = .ok (.iastore, 1) := by decide +kernel
theorem dX5_keep_38 : decode cX5_keep 38 = .ok (.iinc 4 1, 3) := by decide +kernel
theorem dX5_keep_41 : decode cX5_keep 41 = .ok (.goto (-34), 3) := by decide +kernel
theorem dX5_keep_44 : decode cX5_keep 44 = .ok (.aload_n 0, 1) := by decide +kernel
theorem dX5_keep_45 : decode cX5_keep 45 = .ok (.aload_n 3, 1) := by decide +kernel
theorem dX5_keep_46 : decode cX5_keep 46 = .ok (.putfield 13, 3) := by decide +kernel
theorem dX5_keep_49 : decode cX5_keep 49 = .ok (.return_, 1) := by decide +kernel
theorem dX5_weight_0 : decode cX5_weight 0 = .ok (.iconst 0, 1) := by decide +kernel
theorem dX5_weight_1 : decode cX5_weight 1 = .ok (.istore_n 1, 1) := by decide +kernel
theorem dX5_weight_2 : decode cX5_weight 2 = .ok (.aload_n 0, 1) := by decide +kernel
theorem dX5_weight_3 : decode cX5_weight 3 = .ok (.getfield 13, 3) := by decide +kernel
theorem dX5_weight_6 : decode cX5_weight 6 = .ok (.astore_n 2, 1) := by decide +kernel
theorem dX5_weight_7 : decode cX5_weight 7 = .ok (.aload_n 2, 1) := by decide +kernel
theorem dX5_weight_8 : decode cX5_weight 8 = .ok (.arraylength, 1) := by decide +kernel
theorem dX5_weight_9 : decode cX5_weight 9 = .ok (.istore_n 3, 1) := by decide +kernel
theorem dX5_weight_10 : decode cX5_weight 10 = .ok (.iconst 0, 1) := by decide +kernel
theorem dX5_weight_11 : decode cX5_weight 11 = .ok (.istore 4, 2) := by decide +kernel
theorem dX5_weight_13 : decode cX5_weight 13 = .ok (.iload 4, 2) := by decide +kernel
theorem dX5_weight_15 : decode cX5_weight 15 = .ok (.iload_n 3, 1) := by decide +kernel
theorem dX5_weight_16 : decode cX5_weight 16 = .ok (.if_icmp .ge 20, 3) := by decide +kernel
theorem dX5_weight_19 : decode cX5_weight 19 = .ok (.aload_n 2, 1) := by decide +kernel
theorem dX5_weight_20 : decode cX5_weight 20 = .ok (.iload 4, 2) := by decide +kernel
theorem dX5_weight_22 : decode cX5_weight 22 = .ok (.iaload, 1) := by decide +kernel
theorem dX5_weight_23 : decode cX5_weight 23 = .ok (.istore 5, 2) := by decide +kernel
theorem dX5_weight_25 : decode cX5_weight 25 = .ok (.iload_n 1, 1) := by decide +kernel
theorem dX5_weight_26 : decode cX5_weight 26 = .ok (.iload 5, 2) := by decide +kernel
theorem dX5_weight_28 : decode cX5_weight 28 = .ok (.iadd, 1) := by decide +kernel
theorem dX5_weight_29 : decode cX5_weight 29 = .ok (.istore_n 1, 1) := by decide +kernel
theorem dX5_weight_30 : decode cX5_weight 30 = .ok (.iinc 4 1, 3) := by decide +kernel
theorem dX5_weight_33 : decode cX5_weight 33 = .ok (.goto (-20), 3) := by decide +kernel
theorem dX5_weight_36 : decode cX5_weight 36 = .ok (.iload_n 1, 1) := by decide +kernel
theorem dX5_weight_37 : decode cX5_weight 37 = .ok (.ireturn, 1) := by decide +kernel
theorem dJ9_floorMod_7cf53_0 : decode cJ9_floorMod_7cf53 0 = .ok (.iload_n 0, 1) := by decide +kernel
theorem dJ9_floorMod_7cf53_1 : decode cJ9_floorMod_7cf53 1 = .ok (.iload_n 1, 1) := by decide +kernel
theorem dJ9_floorMod_7cf53_2 : decode cJ9_floorMod_7cf53 2 = .ok (.irem, 1) := by decide +kernel
theorem dJ9_floorMod_7cf53_3 : decode cJ9_floorMod_7cf53 3 = .ok (.istore_n 2, 1) := by decide +kernel
theorem dJ9_floorMod_7cf53_4 : decode cJ9_floorMod_7cf53 4 = .ok (.iload_n 0, 1) := by decide +kernel
theorem dJ9_floorMod_7cf53_5 : decode cJ9_floorMod_7cf53 5 = .ok (.iload_n 1, 1) := by decide +kernel
theorem dJ9_floorMod_7cf53_6 : decode cJ9_floorMod_7cf53 6 = .ok (.ixor, 1) := by decide +kernel
theorem dJ9_floorMod_7cf53_7 : decode cJ9_floorMod_7cf53 7 = .ok (.ifCond .ge 11, 3) := by decide +kernel
theorem dJ9_floorMod_7cf53_10 : decode cJ9_floorMod_7cf53 10 = .ok (.iload_n 2, 1) := by decide +kernel
theorem dJ9_floorMod_7cf53_11 : decode cJ9_floorMod_7cf53 11 = .ok (.ifCond .eq 7, 3) := by decide +kernel
theorem dJ9_floorMod_7cf53_14 : decode cJ9_floorMod_7cf53 14 = .ok (.iload_n 2, 1) := by decide +kernel
theorem dJ9_floorMod_7cf53_15 : decode cJ9_floorMod_7cf53 15 = .ok (.iload_n 1, 1) := by decide +kernel
theorem dJ9_floorMod_7cf53_16 : decode cJ9_floorMod_7cf53 16 = .ok (.iadd, 1) := by decide +kernel
theorem dJ9_floorMod_7cf53_17 : decode cJ9_floorMod_7cf53 17 = .ok (.ireturn, 1) := by decide +kernel
theorem dJ9_floorMod_7cf53_18 : decode cJ9_floorMod_7cf53 18 = .ok (.iload_n 2, 1) := by decide +kernel
theorem dJ9_floorMod_7cf53_19 : decode cJ9_floorMod_7cf53 19 = .ok (.ireturn, 1) := by decide +kernel
theorem dJ9_abs_0f7a4_0 : decode cJ9_abs_0f7a4 0 = .ok (.iload_n 0, 1) := by decide +kernel
theorem dJ9_abs_0f7a4_1 : decode cJ9_abs_0f7a4 1 = .ok (.ifCond .ge 8, 3) := by decide +kernel
theorem dJ9_abs_0f7a4_4 : decode cJ9_abs_0f7a4 4 = .ok (.iload_n 0, 1) := by decide +kernel
theorem dJ9_abs_0f7a4_5 : decode cJ9_abs_0f7a4 5 = .ok (.ineg, 1) := by decide +kernel
theorem dJ9_abs_0f7a4_6 : decode cJ9_abs_0f7a4 6 = .ok (.goto 4, 3) := by decide +kernel
theorem dJ9_abs_0f7a4_9 : decode cJ9_abs_0f7a4 9 = .ok (.iload_n 0, 1) := by decide +kernel
theorem dJ9_abs_0f7a4_10 : decode cJ9_abs_0f7a4 10 = .ok (.ireturn, 1) := by decide +kernel
theorem dJ9_max_7cf53_0 : decode cJ9_max_7cf53 0 = .ok (.iload_n 0, 1) := by decide +kernel
theorem dJ9_max_7cf53_1 : decode cJ9_max_7cf53 1 = .ok (.iload_n 1, 1) := by decide +kernel
theorem dJ9_max_7cf53_2 : decode cJ9_max_7cf53 2 = .ok (.if_icmp .lt 7, 3) := by decide +kernel
theorem dJ9_max_7cf53_5 : decode cJ9_max_7cf53 5 = .ok (.iload_n 0, 1) := by decide +kernel
theorem dJ9_max_7cf53_6 : decode cJ9_max_7cf53 6 = .ok (.goto 4, 3) := by decide +kernel
theorem dJ9_max_7cf53_9 : decode cJ9_max_7cf53 9 = .ok (.iload_n 1, 1) := by decide +kernel
theorem dJ9_max_7cf53_10 : decode cJ9_max_7cf53 10 = .ok (.ireturn, 1) := by decide +kernel
theorem dJ9_min_7cf53_0 : decode cJ9_min_7cf53 0 = .ok (.iload_n 0, 1) := by decide +kernel
theorem dJ9_min_7cf53_1 : decode cJ9_min_7cf53 1 = .ok (.iload_n 1, 1) := by decide +kernel
theorem dJ9_min_7cf53_2 : decode cJ9_min_7cf53 2 = .ok (.if_icmp .gt 7, 3) := by decide +kernel
theorem dJ9_min_7cf53_5 : decode cJ9_min_7cf53 5 = .ok (.iload_n 0, 1) := by decide +kernel
theorem dJ9_min_7cf53_6 : decode cJ9_min_7cf53 6 = .ok (.goto 4, 3) := by decide +kernel
theorem dJ9_min_7cf53_9 : decode cJ9_min_7cf53 9 = .ok (.iload_n 1, 1) := by decide +kernel
theorem dJ9_min_7cf53_10 : decode cJ9_min_7cf53 10 = .ok (.ireturn, 1) := by decide +kernel

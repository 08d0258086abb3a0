theorem dX0_init_0 : decode cX0_init 0 = .ok (.aload_n 0, 1) := by decide +kernel
theorem dX0_init_1 : decode cX0_init 1 = .ok (.invokespecial 3, 3) := by decide +kernel
theorem dX0_init_4 : decode cX0_init 4 = .ok (.aload_n 0, 1) := by decide +kernel
theorem dX0_init_5 : decode cX0_init 5 = .ok (.iconst 0, 1) := by decide +kernel
theorem dX0_init_6 : decode cX0_init 6 = .ok (.putfield 9, 3) := by decide +kernel
theorem dX0_init_9 : decode cX0_init 9 = .ok (.aload_n 0, 1) := by decide +kernel
theorem dX0_init_10 : decode cX0_init 10 = .ok (.iconst (-1), 1) := by decide +kernel
theorem dX0_init_11 : decode cX0_init 11 = .ok (.putfield 15, 3) := by decide +kernel
theorem dX0_init_14 : decode cX0_init 14 = .ok (.aload_n 0, 1) := by decide +kernel
theorem dX0_init_15 : decode cX0_init 15 = .ok (.bipush 12, 2) := by decide +kernel
theorem dX0_init_17 : decode cX0_init 17 = .ok (.newarray .int, 2) := by decide +kernel
theorem dX0_init_19 : decode cX0_init 19 = .ok (.putfield 18, 3) := by decide +kernel
theorem dX0_init_22 : decode cX0_init 22 = .ok (.aload_n 0, 1) := by decide +kernel
theorem dX0_init_23 : decode cX0_init 23 = .ok (.bipush 12, 2) := by decide +kernel
theorem dX0_init_25 : decode cX0_init 25 = .ok (.newarray .int, 2) := by decide +kernel
theorem dX0_init_27 : decode cX0_init 27 = .ok (.putfield 22, 3) := by decide +kernel
theorem dX0_init_30 : decode cX0_init 30 = .ok (.return_, 1) := by decide +kernel
theorem dX0_gain_0 : decode cX0_gain 0 = .ok (.aload_n 0, 1) := by decide +kernel
theorem dX0_gain_1 : decode cX0_gain 1 = .ok (.getfield 9, 3) := by decide +kernel
theorem dX0_gain_4 : decode cX0_gain 4 = .ok (.tableswitch 67 0 2 #[28, 32, 35], 28) := by decide +kernel
theorem dX0_gain_32 : decode cX0_gain 32 = .ok (.sipush 289, 3) := by decide +kernel
theorem dX0_gain_35 : decode cX0_gain 35 = .ok (.ireturn, 1) := by decide +kernel
theorem dX0_gain_36 : decode cX0_gain 36 = .ok (.bipush 35, 2) := by decide +kernel
theorem dX0_gain_38 : decode cX0_gain 38 = .ok (.ireturn, 1) := by decide +kernel
theorem dX0_gain_39 : decode cX0_gain 39 = .ok (.aload_n 0, 1) := by decide +kernel
theorem dX0_gain_40 : decode cX0_gain 40 = .ok (.getfield 25, 3) := by decide +kernel
theorem dX0_gain_43 : decode cX0_gain 43 = .ok (.ifCond .lt 25, 3) := by decide +kernel
theorem dX0_gain_46 : decode cX0_gain 46 = .ok (.aload_n 0, 1) := by decide +kernel
theorem dX0_gain_47 : decode cX0_gain 47 = .ok (.getfield 25, 3) := by decide +kernel
theorem dX0_gain_50 : decode cX0_gain 50 = .ok (.getstatic 28, 3) := by decide +kernel
theorem dX0_gain_53 : decode cX0_gain 53 = .ok (.arraylength, 1) := by decide +kernel
theorem dX0_gain_54 : decode cX0_gain 54 = .ok (.if_icmp .ge 14, 3) := by decide +kernel
theorem dX0_gain_57 : decode cX0_gain 57 = .ok (.getstatic 28, 3) := by decide +kernel
theorem dX0_gain_60 : decode cX0_gain 60 = .ok (.aload_n 0, 1) := by decide +kernel
theorem dX0_gain_61 : decode cX0_gain 61 = .ok (.getfield 25, 3) := by decide +kernel
theorem dX0_gain_64 : decode cX0_gain 64 = .ok (.iaload, 1) := by decide +kernel
theorem dX0_gain_65 : decode cX0_gain 65 = .ok (.goto 5, 3) := by decide +kernel
theorem dX0_gain_68 : decode cX0_gain 68 = .ok (.bipush 100, 2) := by decide +kernel
theorem dX0_gain_70 : decode cX0_gain 70 = .ok (.ireturn, 1) := by decide +kernel
theorem dX0_gain_71 : decode cX0_gain 71 = .ok (.bipush 100, 2) := by decide +kernel
theorem dX0_gain_73 : decode cX0_gain 73 = .ok (.ireturn, 1) := by decide +kernel
set_option maxRecDepth 20000 in
theorem ggX0_follow_X0_watchTop : GoodIn wsX0_follow wsX0_watchTop := goodIn_r _ [11, 12, 13, 14, 15, 3, 56, 57, 58, 59, 60, 61, 62, 63, 64, 65, 66, 67] (by decide +kernel) (by decide +kernel)
set_option maxRecDepth 20000 in
theorem gX0_follow_X0_watchTop : GoodIn wsX0_follow (wsV RX0 36 RX0 yX0_watchTop wsX0_watchTop) := goodIn_app (goodIn_of _ (by decide +kernel)) ggX0_follow_X0_watchTop
set_option maxRecDepth 20000 in
theorem ggX0_follow_X0_enter : GoodIn wsX0_follow wsX0_enter := goodIn_r _ [19, 1, 20, 21, 22, 23, 10, 24, 6, 25, 26, 27, 28, 29, 30, 31, 32, 33, 34, 35, 56, 57, 58, 59, 60, 61, 62, 63, 64, 65, 66, 67, 68, 69, 70, 71, 72, 73, 74, 75, 76, 77, 78, 79, 80, 81, 82, 83] (by decide +kernel) (by decide +kernel)
set_option maxRecDepth 20000 in
theorem gX0_follow_X0_enter : GoodIn wsX0_follow (wsV RX0 44 RX0 yX0_enter wsX0_enter) := goodIn_app (goodIn_of _ (by decide +kernel)) ggX0_follow_X0_enter
set_option maxRecDepth 20000 in
theorem ggX0_follow_X5_product : GoodIn wsX0_follow wsX5_product := goodIn_r _ [40, 41, 42, 43, 68, 69, 70, 71, 72, 73, 74, 75, 76, 77, 78, 79, 80, 81, 82, 83] (by decide +kernel) (by decide +kernel)
set_option maxRecDepth 20000 in
theorem gX0_follow_X5_product : GoodIn wsX0_follow (wsV RX0 57 RX5 yX5_product wsX5_product) := goodIn_app (goodIn_of _ (by decide +kernel)) ggX0_follow_X5_product
set_option maxRecDepth 20000 in
theorem ggX0_follow_X0_phaseIsOver : GoodIn wsX0_follow wsX0_phaseIsOver := goodIn_r _ [47, 25, 48, 4, 5, 6, 26, 27, 49, 50, 36, 37, 38, 39, 40, 41, 42, 43, 56, 57, 58, 59, 60, 61, 62, 63, 64, 65, 66, 67, 68, 69, 70, 71, 72, 73, 74, 75, 76, 77, 78, 79, 80, 81, 82, 83, 84, 85] (by decide +kernel) (by decide +kernel)
set_option maxRecDepth 20000 in
theorem gX0_follow_X0_phaseIsOver : GoodIn wsX0_follow (wsV RX0 61 RX0 yX0_phaseIsOver wsX0_phaseIsOver) := goodIn_app (goodIn_of _ (by decide +kernel)) ggX0_follow_X0_phaseIsOver
set_option maxRecDepth 20000 in
theorem ggX0_follow_X0_beginPhase : GoodIn wsX0_follow wsX0_beginPhase := goodIn_r _ [24, 6, 25, 26, 27, 56, 57, 58, 59, 60, 61, 62, 63, 64, 65, 66, 67, 68, 69, 70, 71, 72, 73, 74, 75, 76, 77, 78, 79, 80, 81, 82, 83] (by decide +kernel) (by decide +kernel)
set_option maxRecDepth 20000 in
theorem gX0_follow_X0_beginPhase : GoodIn wsX0_follow (wsV RX0 65 RX0 yX0_beginPhase wsX0_beginPhase) := goodIn_app (goodIn_of _ (by decide +kernel)) ggX0_follow_X0_beginPhase
set_option maxRecDepth 20000 in
theorem ggX0_follow_X0_probe : GoodIn wsX0_follow wsX0_probe := goodIn_r _ [54, 20, 4, 5, 55, 3, 16, 17, 18, 10, 19, 1, 21, 22, 23, 24, 6, 25, 26, 27, 28, 29, 30, 31, 32, 33, 34, 35, 56, 57, 58, 59, 60, 61, 62, 63, 64, 65, 66, 67, 68, 69, 70, 71, 72, 73, 74, 75, 76, 77, 78, 79, 80, 81, 82, 83, 84, 85] (by decide +kernel) (by decide +kernel)
set_option maxRecDepth 20000 in
theorem gX0_follow_X0_probe : GoodIn wsX0_follow (wsV RX0 68 RX0 yX0_probe wsX0_probe) := goodIn_app (goodIn_of _ (by decide +kernel)) ggX0_follow_X0_probe
theorem dX0_follow_0 : decode cX0_follow 0 = .ok (.aload_n 0, 1) := by decide +kernel
theorem dX0_follow_1 : decode cX0_follow 1 = .ok (.getfield 9, 3) := by decide +kernel
theorem dX0_follow_4 : decode cX0_follow 4 = .ok (.ifCond .ne 15, 3) := by decide +kernel
theorem dX0_follow_7 : decode cX0_follow 7 = .ok (.iload_n 3, 1) := by decide +kernel
theorem dX0_follow_8 : decode cX0_follow 8 = .ok (.ifCond .eq 11, 3) := by decide +kernel
theorem dX0_follow_11 : decode cX0_follow 11 = .ok (.aload_n 0, 1) := by decide +kernel
theorem dX0_follow_12 : decode cX0_follow 12 = .ok (.aload_n 1, 1) := by decide +kernel
theorem dX0_follow_13 : decode cX0_follow 13 = .ok (.getfield 31, 3) := by decide +kernel
theorem dX0_follow_16 : decode cX0_follow 16 = .ok (.invokevirtual 36, 3) := by decide +kernel
theorem dX0_follow_19 : decode cX0_follow 19 = .ok (.aload_n 0, 1) := by decide +kernel
theorem dX0_follow_20 : decode cX0_follow 20 = .ok (.getfield 9, 3) := by decide +kernel
theorem dX0_follow_23 : decode cX0_follow 23 = .ok (.ifCond .ne 17, 3) := by decide +kernel
theorem dX0_follow_26 : decode cX0_follow 26 = .ok (.aload_n 0, 1) := by decide +kernel
theorem dX0_follow_27 : decode cX0_follow 27 = .ok (.getfield 40, 3) := by decide +kernel
theorem dX0_follow_30 : decode cX0_follow 30 = .ok (.ifCond .eq 10, 3) := by decide +kernel
theorem dX0_follow_33 : decode cX0_follow 33 = .ok (.aload_n 0, 1) := by decide +kernel
theorem dX0_follow_34 : decode cX0_follow 34 = .ok (.iconst 1, 1) := by decide +kernel
theorem dX0_follow_35 : decode cX0_follow 35 = .ok (.aload_n 1, 1) := by decide +kernel
theorem dX0_follow_36 : decode cX0_follow 36 = .ok (.iload_n 2, 1) := by decide +kernel
theorem dX0_follow_37 : decode cX0_follow 37 = .ok (.invokevirtual 44, 3) := by decide +kernel
theorem dX0_follow_40 : decode cX0_follow 40 = .ok (.aload_n 0, 1) := by decide +kernel
theorem dX0_follow_41 : decode cX0_follow 41 = .ok (.getfield 9, 3) := by decide +kernel
theorem dX0_follow_44 : decode cX0_follow 44 = .ok (.iconst 1, 1) := by decide +kernel
theorem dX0_follow_45 : decode cX0_follow 45 = .ok (.if_icmp .ne 26, 3) := by decide +kernel
theorem dX0_follow_48 : decode cX0_follow 48 = .ok (.aload_n 1, 1) := by decide +kernel
theorem dX0_follow_49 : decode cX0_follow 49 = .ok (.getfield 48, 3) := by decide +kernel
theorem dX0_follow_52 : decode cX0_follow 52 = .ok (.getfield 52, 3) := by decide +kernel
theorem dX0_follow_55 : decode cX0_follow 55 = .ok (.i2l, 1) := by decide +kernel
theorem dX0_follow_56 : decode cX0_follow 56 = .ok (.aload_n 1, 1) := by decide +kernel
theorem dX0_follow_57 : decode cX0_follow 57 = .ok (.invokevirtual 57, 3) := by decide +kernel
theorem dX0_follow_60 : decode cX0_follow 60 = .ok (.lcmp, 1) := by decide +kernel
theorem dX0_follow_61 : decode cX0_follow 61 = .ok (.ifCond .gt 10, 3) := by decide +kernel
theorem dX0_follow_64 : decode cX0_follow 64 = .ok (.aload_n 0, 1) := by decide +kernel
theorem dX0_follow_65 : decode cX0_follow 65 = .ok (.iconst 2, 1) := by decide +kernel
theorem dX0_follow_66 : decode cX0_follow 66 = .ok (.aload_n 1, 1) := by decide +kernel
theorem dX0_follow_67 : decode cX0_follow 67 = .ok (.iload_n 2, 1) := by decide +kernel
theorem dX0_follow_68 : decode cX0_follow 68 = .ok (.invokevirtual 44, 3) := by decide +kernel
theorem dX0_follow_71 : decode cX0_follow 71 = .ok (.aload_n 0, 1) := by decide +kernel
theorem dX0_follow_72 : decode cX0_follow 72 = .ok (.getfield 9, 3) := by decide +kernel
theorem dX0_follow_75 : decode cX0_follow 75 = .ok (.iconst 2, 1) := by decide +kernel
theorem dX0_follow_76 : decode cX0_follow 76 = .ok (.if_icmp .ne 41, 3) := by decide +kernel
theorem dX0_follow_79 : decode cX0_follow 79 = .ok (.aload_n 0, 1) := by decide +kernel
theorem dX0_follow_80 : decode cX0_follow 80 = .ok (.aload_n 1, 1) := by decide +kernel
theorem dX0_follow_81 : decode cX0_follow 81 = .ok (.iload_n 2, 1) := by decide +kernel
theorem dX0_follow_82 : decode cX0_follow 82 = .ok (.invokevirtual 61, 3) := by decide +kernel
theorem dX0_follow_85 : decode cX0_follow 85 = .ok (.ifCond .eq 32, 3) := by decide +kernel
theorem dX0_follow_88 : decode cX0_follow 88 = .ok (.aload_n 0, 1) := by decide +kernel
theorem dX0_follow_89 : decode cX0_follow 89 = .ok (.aload_n 0, 1) := by decide +kernel
theorem dX0_follow_90 : decode cX0_follow 90 = .ok (.getfield 25, 3) := by decide +kernel
theorem dX0_follow_93 : decode cX0_follow 93 = .ok (.iconst 1, 1) := by decide +kernel
theorem dX0_follow_94 : decode cX0_follow 94 = .ok (.iadd, 1) := by decide +kernel
theorem dX0_follow_95 : decode cX0_follow 95 = .ok (.getstatic 28, 3) := by decide +kernel
theorem dX0_follow_98 : decode cX0_follow 98 = .ok (.arraylength, 1) := by decide +kernel
theorem dX0_follow_99 : decode cX0_follow 99 = .ok (.if_icmp .ge 12, 3) := by decide +kernel
theorem dX0_follow_102 : decode cX0_follow 102 = .ok (.aload_n 0, 1) := by decide +kernel
theorem dX0_follow_103 : decode cX0_follow 103 = .ok (.getfield 25, 3) := by decide +kernel
theorem dX0_follow_106 : decode cX0_follow 106 = .ok (.iconst 1, 1) := by decide +kernel
theorem dX0_follow_107 : decode cX0_follow 107 = .ok (.iadd, 1) := by decide +kernel
theorem dX0_follow_108 : decode cX0_follow 108 = .ok (.goto 4, 3) := by decide +kernel
theorem dX0_follow_111 : decode cX0_follow 111 = .ok (.iconst 0, 1) := by decide +kernel
theorem dX0_follow_112 : decode cX0_follow 112 = .ok (.aload_n 1, 1) := by decide +kernel
theorem dX0_follow_113 : decode cX0_follow 113 = .ok (.iload_n 2, 1) := by decide +kernel
theorem dX0_follow_114 : decode cX0_follow 114 = .ok (.invokevirtual 65, 3) := by decide +kernel
theorem dX0_follow_117 : decode cX0_follow 117 = .ok (.aload_n 0, 1) := by decide +kernel
theorem dX0_follow_118 : decode cX0_follow 118 = .ok (.getfield 9, 3) := by decide +kernel
theorem dX0_follow_121 : decode cX0_follow 121 = .ok (.iconst 3, 1) := by decide +kernel
theorem dX0_follow_122 : decode cX0_follow 122 = .ok (.if_icmp .ne 12, 3) := by decide +kernel
theorem dX0_follow_125 : decode cX0_follow 125 = .ok (.aload_n 0, 1) := by decide +kernel
theorem dX0_follow_126 : decode cX0_follow 126 = .ok (.aload_n 1, 1) := by decide +kernel
theorem dX0_follow_127 : decode cX0_follow 127 = .ok (.iload_n 2, 1) := by decide +kernel
theorem dX0_follow_128 : decode cX0_follow 128 = .ok (.invokevirtual 68, 3) := by decide +kernel
theorem dX0_follow_131 : decode cX0_follow 131 = .ok (.goto 15, 3) := by decide +kernel
theorem dX0_follow_134 : decode cX0_follow 134 = .ok (.iload 4, 2) := by decide +kernel
theorem dX0_follow_136 : decode cX0_follow 136 = .ok (.ifCond .eq 10, 3) := by decide +kernel
theorem dX0_follow_139 : decode cX0_follow 139 = .ok (.aload_n 0, 1) := by decide +kernel
theorem dX0_follow_140 : decode cX0_follow 140 = .ok (.iconst 3, 1) := by decide +kernel
theorem dX0_follow_141 : decode cX0_follow 141 = .ok (.aload_n 1, 1) := by decide +kernel
theorem dX0_follow_142 : decode cX0_follow 142 = .ok (.iload_n 2, 1) := by decide +kernel
theorem dX0_follow_143 : decode cX0_follow 143 = .ok (.invokevirtual 44, 3) := by decide +kernel
theorem dX0_follow_146 : decode cX0_follow 146 = .ok (.return_, 1) := by decide +kernel
theorem dX0_watchTop_0 : decode cX0_watchTop 0 = .ok (.ldc2_w 72, 3) := by decide +kernel
theorem dX0_watchTop_3 : decode cX0_watchTop 3 = .ok (.iload_n 1, 1) := by decide +kernel
theorem dX0_watchTop_4 : decode cX0_watchTop 4 = .ok (.i2l, 1) := by decide +kernel
theorem dX0_watchTop_5 : decode cX0_watchTop 5 = .ok (.lmul, 1) := by decide +kernel
theorem dX0_watchTop_6 : decode cX0_watchTop 6 = .ok (.ldc2_w 74, 3) := by decide +kernel
theorem dX0_watchTop_9 : decode cX0_watchTop 9 = .ok (.aload_n 0, 1) := by decide +kernel
theorem dX0_watchTop_10 : decode cX0_watchTop 10 = .ok (.getfield 76, 3) := by decide +kernel
theorem dX0_watchTop_13 : decode cX0_watchTop 13 = .ok (.i2l, 1) := by decide +kernel
theorem dX0_watchTop_14 : decode cX0_watchTop 14 = .ok (.lmul, 1) := by decide +kernel
theorem dX0_watchTop_15 : decode cX0_watchTop 15 = .ok (.lcmp, 1) := by decide +kernel
theorem dX0_watchTop_16 : decode cX0_watchTop 16 = .ok (.ifCond .lt 14, 3) := by decide +kernel
theorem dX0_watchTop_19 : decode cX0_watchTop 19 = .ok (.aload_n 0, 1) := by decide +kernel
theorem dX0_watchTop_20 : decode cX0_watchTop 20 = .ok (.iload_n 1, 1) := by decide +kernel
theorem dX0_watchTop_21 : decode cX0_watchTop 21 = .ok (.putfield 76, 3) := by decide +kernel
theorem dX0_watchTop_24 : decode cX0_watchTop 24 = .ok (.aload_n 0, 1) := by decide +kernel
theorem dX0_watchTop_25 : decode cX0_watchTop 25 = .ok (.iconst 0, 1) := by decide +kernel
theorem dX0_watchTop_26 : decode cX0_watchTop 26 = .ok (.putfield 79, 3) := by decide +kernel
theorem dX0_watchTop_29 : decode cX0_watchTop 29 = .ok (.return_, 1) := by decide +kernel
theorem dX0_watchTop_30 : decode cX0_watchTop 30 = .ok (.aload_n 0, 1) := by decide +kernel
theorem dX0_watchTop_31 : decode cX0_watchTop 31 = .ok (.dup, 1) := by decide +kernel
theorem dX0_watchTop_32 : decode cX0_watchTop 32 = .ok (.getfield 79, 3) := by decide +kernel
theorem dX0_watchTop_35 : decode cX0_watchTop 35 = .ok (.iconst 1, 1) := by decide +kernel
theorem dX0_watchTop_36 : decode cX0_watchTop 36 = .ok (.iadd, 1) := by decide +kernel
theorem dX0_watchTop_37 : decode cX0_watchTop 37 = .ok (.putfield 79, 3) := by decide +kernel
theorem dX0_watchTop_40 : decode cX0_watchTop 40 = .ok (.aload_n 0, 1) := by decide +kernel
theorem dX0_watchTop_41 : decode cX0_watchTop 41 = .ok (.getfield 79, 3) := by decide +kernel
theorem dX0_watchTop_44 : decode cX0_watchTop 44 = .ok (.iconst 3, 1) := by decide +kernel
theorem dX0_watchTop_45 : decode cX0_watchTop 45 = .ok (.if_icmp .ne 8, 3) := by decide +kernel
theorem dX0_watchTop_48 : decode cX0_watchTop 48 = .ok (.aload_n 0, 1) := by decide +kernel
theorem dX0_watchTop_49 : decode cX0_watchTop 49 = .ok (.iconst 1, 1) := by decide +kernel
theorem dX0_watchTop_50 : decode cX0_watchTop 50 = .ok (.putfield 40, 3) := by decide +kernel
theorem dX0_watchTop_53 : decode cX0_watchTop 53 = .ok (.return_, 1) := by decide +kernel
set_option maxRecDepth 20000 in
theorem ggX0_phaseIsOver_X5_product : GoodIn wsX0_phaseIsOver wsX5_product := goodIn_r _ [14, 15, 16, 17, 30, 31, 32, 33, 34, 35, 36, 37, 38, 39, 40, 41, 42, 43, 44, 45] (by decide +kernel) (by decide +kernel)
set_option maxRecDepth 20000 in
theorem gX0_phaseIsOver_X5_product : GoodIn wsX0_phaseIsOver (wsV RX0 57 RX5 yX5_product wsX5_product) := goodIn_app (goodIn_of _ (by decide +kernel)) ggX0_phaseIsOver_X5_product
theorem dX0_phaseIsOver_0 : decode cX0_phaseIsOver 0 = .ok (.iload_n 2, 1) := by decide +kernel
theorem dX0_phaseIsOver_1 : decode cX0_phaseIsOver 1 = .ok (.aload_n 0, 1) := by decide +kernel
theorem dX0_phaseIsOver_2 : decode cX0_phaseIsOver 2 = .ok (.getfield 82, 3) := by decide +kernel
theorem dX0_phaseIsOver_5 : decode cX0_phaseIsOver 5 = .ok (.isub, 1) := by decide +kernel
theorem dX0_phaseIsOver_6 : decode cX0_phaseIsOver 6 = .ok (.aload_n 1, 1) := by decide +kernel
theorem dX0_phaseIsOver_7 : decode cX0_phaseIsOver 7 = .ok (.getfield 85, 3) := by decide +kernel
theorem dX0_phaseIsOver_10 : decode cX0_phaseIsOver 10 = .ok (.if_icmp .lt 7, 3) := by decide +kernel
theorem dX0_phaseIsOver_13 : decode cX0_phaseIsOver 13 = .ok (.iconst 1, 1) := by decide +kernel
theorem dX0_phaseIsOver_14 : decode cX0_phaseIsOver 14 = .ok (.goto 4, 3) := by decide +kernel
theorem dX0_phaseIsOver_17 : decode cX0_phaseIsOver 17 = .ok (.iconst 0, 1) := by decide +kernel
theorem dX0_phaseIsOver_18 : decode cX0_phaseIsOver 18 = .ok (.istore_n 3, 1) := by decide +kernel
theorem dX0_phaseIsOver_19 : decode cX0_phaseIsOver 19 = .ok (.aload_n 1, 1) := by decide +kernel
theorem dX0_phaseIsOver_20 : decode cX0_phaseIsOver 20 = .ok (.getfield 48, 3) := by decide +kernel
theorem dX0_phaseIsOver_23 : decode cX0_phaseIsOver 23 = .ok (.getfield 52, 3) := by decide +kernel
theorem dX0_phaseIsOver_26 : decode cX0_phaseIsOver 26 = .ok (.istore 4, 2) := by decide +kernel
theorem dX0_phaseIsOver_28 : decode cX0_phaseIsOver 28 = .ok (.aload_n 0, 1) := by decide +kernel
theorem dX0_phaseIsOver_29 : decode cX0_phaseIsOver 29 = .ok (.getfield 25, 3) := by decide +kernel
theorem dX0_phaseIsOver_32 : decode cX0_phaseIsOver 32 = .ok (.ifCond .ne 55, 3) := by decide +kernel
theorem dX0_phaseIsOver_35 : decode cX0_phaseIsOver 35 = .ok (.aload_n 1, 1) := by decide +kernel
theorem dX0_phaseIsOver_36 : decode cX0_phaseIsOver 36 = .ok (.getfield 88, 3) := by decide +kernel
theorem dX0_phaseIsOver_39 : decode cX0_phaseIsOver 39 = .ok (.aload_n 0, 1) := by decide +kernel
theorem dX0_phaseIsOver_40 : decode cX0_phaseIsOver 40 = .ok (.getfield 91, 3) := by decide +kernel
theorem dX0_phaseIsOver_43 : decode cX0_phaseIsOver 43 = .ok (.if_icmp .eq 7, 3) := by decide +kernel
theorem dX0_phaseIsOver_46 : decode cX0_phaseIsOver 46 = .ok (.iconst 1, 1) := by decide +kernel
theorem dX0_phaseIsOver_47 : decode cX0_phaseIsOver 47 = .ok (.goto 4, 3) := by decide +kernel
theorem dX0_phaseIsOver_50 : decode cX0_phaseIsOver 50 = .ok (.iconst 0, 1) := by decide +kernel
theorem dX0_phaseIsOver_51 : decode cX0_phaseIsOver 51 = .ok (.istore 5, 2) := by decide +kernel
theorem dX0_phaseIsOver_53 : decode cX0_phaseIsOver 53 = .ok (.iload_n 3, 1) := by decide +kernel
theorem dX0_phaseIsOver_54 : decode cX0_phaseIsOver 54 = .ok (.ifCond .eq 31, 3) := by decide +kernel
theorem dX0_phaseIsOver_57 : decode cX0_phaseIsOver 57 = .ok (.ldc2_w 94, 3) := by decide +kernel
theorem dX0_phaseIsOver_60 : decode cX0_phaseIsOver 60 = .ok (.iload 4, 2) := by decide +kernel
theorem dX0_phaseIsOver_62 : decode cX0_phaseIsOver 62 = .ok (.i2l, 1) := by decide +kernel
theorem dX0_phaseIsOver_63 : decode cX0_phaseIsOver 63 = .ok (.lmul, 1) := by decide +kernel
theorem dX0_phaseIsOver_64 : decode cX0_phaseIsOver 64 = .ok (.ldc2_w 96, 3) := by decide +kernel
theorem dX0_phaseIsOver_67 : decode cX0_phaseIsOver 67 = .ok (.aload_n 1, 1) := by decide +kernel
theorem dX0_phaseIsOver_68 : decode cX0_phaseIsOver 68 = .ok (.invokevirtual 57, 3) := by decide +kernel
theorem dX0_phaseIsOver_71 : decode cX0_phaseIsOver 71 = .ok (.lmul, 1) := by decide +kernel
theorem dX0_phaseIsOver_72 : decode cX0_phaseIsOver 72 = .ok (.lcmp, 1) := by decide +kernel
theorem dX0_phaseIsOver_73 : decode cX0_phaseIsOver 73 = .ok (.ifCond .ge 8, 3) := by decide +kernel
theorem dX0_phaseIsOver_76 : decode cX0_phaseIsOver 76 = .ok (.iload 5, 2) := by decide +kernel
theorem dX0_phaseIsOver_78 : decode cX0_phaseIsOver 78 = .ok (.ifCond .eq 7, 3) := by decide +kernel
theorem dX0_phaseIsOver_81 : decode cX0_phaseIsOver 81 = .ok (.iconst 1, 1) := by decide +kernel
theorem dX0_phaseIsOver_82 : decode cX0_phaseIsOver 82 = .ok (.goto 4, 3) := by decide +kernel
theorem dX0_phaseIsOver_85 : decode cX0_phaseIsOver 85 = .ok (.iconst 0, 1) := by decide +kernel
theorem dX0_phaseIsOver_86 : decode cX0_phaseIsOver 86 = .ok (.ireturn, 1) := by decide +kernel
theorem dX0_phaseIsOver_87 : decode cX0_phaseIsOver 87 = .ok (.aload_n 0, 1) := by decide +kernel
theorem dX0_phaseIsOver_88 : decode cX0_phaseIsOver 88 = .ok (.getfield 25, 3) := by decide +kernel
theorem dX0_phaseIsOver_91 : decode cX0_phaseIsOver 91 = .ok (.iconst 1, 1) := by decide +kernel
theorem dX0_phaseIsOver_92 : decode cX0_phaseIsOver 92 = .ok (.if_icmp .ne 24, 3) := by decide +kernel
theorem dX0_phaseIsOver_95 : decode cX0_phaseIsOver 95 = .ok (.iload_n 3, 1) := by decide +kernel
theorem dX0_phaseIsOver_96 : decode cX0_phaseIsOver 96 = .ok (.ifCond .ne 14, 3) := by decide +kernel
theorem dX0_phaseIsOver_99 : decode cX0_phaseIsOver 99 = .ok (.iload 4, 2) := by decide +kernel
theorem dX0_phaseIsOver_101 : decode cX0_phaseIsOver 101 = .ok (.i2l, 1) := by decide +kernel
theorem dX0_phaseIsOver_102 : decode cX0_phaseIsOver 102 = .ok (.aload_n 1, 1) := by decide +kernel
theorem dX0_phaseIsOver_103 : decode cX0_phaseIsOver 103 = .ok (.invokevirtual 57, 3) := by decide +kernel
theorem dX0_phaseIsOver_106 : decode cX0_phaseIsOver 106 = .ok (.lcmp, 1) := by decide +kernel
theorem dX0_phaseIsOver_107 : decode cX0_phaseIsOver 107 = .ok (.ifCond .gt 7, 3) := by decide +kernel
theorem dX0_phaseIsOver_110 : decode cX0_phaseIsOver 110 = .ok (.iconst 1, 1) := by decide +kernel
theorem dX0_phaseIsOver_111 : decode cX0_phaseIsOver 111 = .ok (.goto 4, 3) := by decide +kernel
theorem dX0_phaseIsOver_114 : decode cX0_phaseIsOver 114 = .ok (.iconst 0, 1) := by decide +kernel
theorem dX0_phaseIsOver_115 : decode cX0_phaseIsOver 115 = .ok (.ireturn, 1) := by decide +kernel
theorem dX0_phaseIsOver_116 : decode cX0_phaseIsOver 116 = .ok (.iload_n 3, 1) := by decide +kernel
theorem dX0_phaseIsOver_117 : decode cX0_phaseIsOver 117 = .ok (.ireturn, 1) := by decide +kernel
set_option maxRecDepth 20000 in
theorem ggX0_probe_X0_enter : GoodIn wsX0_probe wsX0_enter := goodIn_r _ [10, 11, 1, 12, 13, 14, 9, 15, 16, 17, 18, 19, 20, 21, 22, 23, 24, 25, 26, 27, 28, 29, 30, 31, 32, 33, 34, 35, 36, 37, 38, 39, 40, 41, 42, 43, 44, 45, 46, 47, 48, 49, 50, 51, 52, 53, 54, 55] (by decide +kernel) (by decide +kernel)
set_option maxRecDepth 20000 in
theorem gX0_probe_X0_enter : GoodIn wsX0_probe (wsV RX0 44 RX0 yX0_enter wsX0_enter) := goodIn_app (goodIn_of _ (by decide +kernel)) ggX0_probe_X0_enter
theorem dX0_probe_0 : decode cX0_probe 0 = .ok (.aload_n 0, 1) := by decide +kernel
theorem dX0_probe_1 : decode cX0_probe 1 = .ok (.getfield 15, 3) := by decide +kernel
theorem dX0_probe_4 : decode cX0_probe 4 = .ok (.iconst (-1), 1) := by decide +kernel
theorem dX0_probe_5 : decode cX0_probe 5 = .ok (.if_icmp .ne 26, 3) := by decide +kernel
theorem dX0_probe_8 : decode cX0_probe 8 = .ok (.aload_n 1, 1) := by decide +kernel
theorem dX0_probe_9 : decode cX0_probe 9 = .ok (.getfield 48, 3) := by decide +kernel
theorem dX0_probe_12 : decode cX0_probe 12 = .ok (.getfield 52, 3) := by decide +kernel
theorem dX0_probe_15 : decode cX0_probe 15 = .ok (.iconst 4, 1) := by decide +kernel
theorem dX0_probe_16 : decode cX0_probe 16 = .ok (.if_icmp .gt 46, 3) := by decide +kernel
theorem dX0_probe_19 : decode cX0_probe 19 = .ok (.aload_n 0, 1) := by decide +kernel
theorem dX0_probe_20 : decode cX0_probe 20 = .ok (.iload_n 2, 1) := by decide +kernel
theorem dX0_probe_21 : decode cX0_probe 21 = .ok (.sipush 200, 3) := by decide +kernel
theorem dX0_probe_24 : decode cX0_probe 24 = .ok (.iadd, 1) := by decide +kernel
theorem dX0_probe_25 : decode cX0_probe 25 = .ok (.putfield 15, 3) := by decide +kernel
theorem dX0_probe_28 : decode cX0_probe 28 = .ok (.goto 34, 3) := by decide +kernel
theorem dX0_probe_31 : decode cX0_probe 31 = .ok (.iload_n 2, 1) := by decide +kernel
theorem dX0_probe_32 : decode cX0_probe 32 = .ok (.aload_n 0, 1) := by decide +kernel
theorem dX0_probe_33 : decode cX0_probe 33 = .ok (.getfield 15, 3) := by decide +kernel
theorem dX0_probe_36 : decode cX0_probe 36 = .ok (.if_icmp .lt 26, 3) := by decide +kernel
theorem dX0_probe_39 : decode cX0_probe 39 = .ok (.aload_n 1, 1) := by decide +kernel
theorem dX0_probe_40 : decode cX0_probe 40 = .ok (.iload_n 2, 1) := by decide +kernel
theorem dX0_probe_41 : decode cX0_probe 41 = .ok (.putfield 98, 3) := by decide +kernel
theorem dX0_probe_44 : decode cX0_probe 44 = .ok (.aload_n 0, 1) := by decide +kernel
theorem dX0_probe_45 : decode cX0_probe 45 = .ok (.aload_n 0, 1) := by decide +kernel
theorem dX0_probe_46 : decode cX0_probe 46 = .ok (.getfield 40, 3) := by decide +kernel
theorem dX0_probe_49 : decode cX0_probe 49 = .ok (.ifCond .eq 7, 3) := by decide +kernel
theorem dX0_probe_52 : decode cX0_probe 52 = .ok (.iconst 2, 1) := by decide +kernel
theorem dX0_probe_53 : decode cX0_probe 53 = .ok (.goto 4, 3) := by decide +kernel
theorem dX0_probe_56 : decode cX0_probe 56 = .ok (.iconst 0, 1) := by decide +kernel
theorem dX0_probe_57 : decode cX0_probe 57 = .ok (.aload_n 1, 1) := by decide +kernel
theorem dX0_probe_58 : decode cX0_probe 58 = .ok (.iload_n 2, 1) := by decide +kernel
theorem dX0_probe_59 : decode cX0_probe 59 = .ok (.invokevirtual 44, 3) := by decide +kernel
theorem dX0_probe_62 : decode cX0_probe 62 = .ok (.return_, 1) := by decide +kernel
theorem dX0_beginPhase_0 : decode cX0_beginPhase 0 = .ok (.aload_n 0, 1) := by decide +kernel
theorem dX0_beginPhase_1 : decode cX0_beginPhase 1 = .ok (.iload_n 1, 1) := by decide +kernel
theorem dX0_beginPhase_2 : decode cX0_beginPhase 2 = .ok (.putfield 25, 3) := by decide +kernel
theorem dX0_beginPhase_5 : decode cX0_beginPhase 5 = .ok (.aload_n 0, 1) := by decide +kernel
theorem dX0_beginPhase_6 : decode cX0_beginPhase 6 = .ok (.iload_n 3, 1) := by decide +kernel
theorem dX0_beginPhase_7 : decode cX0_beginPhase 7 = .ok (.putfield 82, 3) := by decide +kernel
theorem dX0_beginPhase_10 : decode cX0_beginPhase 10 = .ok (.aload_n 0, 1) := by decide +kernel
theorem dX0_beginPhase_11 : decode cX0_beginPhase 11 = .ok (.aload_n 2, 1) := by decide +kernel
theorem dX0_beginPhase_12 : decode cX0_beginPhase 12 = .ok (.getfield 88, 3) := by decide +kernel
theorem dX0_beginPhase_15 : decode cX0_beginPhase 15 = .ok (.putfield 91, 3) := by decide +kernel
theorem dX0_beginPhase_18 : decode cX0_beginPhase 18 = .ok (.return_, 1) := by decide +kernel
set_option maxRecDepth 20000 in
theorem ggX0_enter_X0_beginPhase : GoodIn wsX0_enter wsX0_beginPhase := goodIn_r _ [7, 8, 9, 10, 11, 20, 21, 22, 23, 24, 25, 26, 27, 28, 29, 30, 31, 32, 33, 34, 35, 36, 37, 38, 39, 40, 41, 42, 43, 44, 45, 46, 47] (by decide +kernel) (by decide +kernel)
set_option maxRecDepth 20000 in
theorem gX0_enter_X0_beginPhase : GoodIn wsX0_enter (wsV RX0 65 RX0 yX0_beginPhase wsX0_beginPhase) := goodIn_app (goodIn_of _ (by decide +kernel)) ggX0_enter_X0_beginPhase
set_option maxRecDepth 20000 in
theorem ggX0_enter_X0_keepTurn : GoodIn wsX0_enter wsX0_keepTurn := goodIn_r _ [15, 16, 17, 18, 19, 20, 21, 22, 23, 24, 25, 26, 27, 28, 29, 30, 31] (by decide +kernel) (by decide +kernel)
set_option maxRecDepth 20000 in
theorem gX0_enter_X0_keepTurn : GoodIn wsX0_enter (wsV RX0 101 RX0 yX0_keepTurn wsX0_keepTurn) := goodIn_app (goodIn_of _ (by decide +kernel)) ggX0_enter_X0_keepTurn
theorem dX0_enter_0 : decode cX0_enter 0 = .ok (.aload_n 0, 1) := by decide +kernel
theorem dX0_enter_1 : decode cX0_enter 1 = .ok (.iload_n 1, 1) := by decide +kernel
theorem dX0_enter_2 : decode cX0_enter 2 = .ok (.putfield 9, 3) := by decide +kernel
theorem dX0_enter_5 : decode cX0_enter 5 = .ok (.aload_n 0, 1) := by decide +kernel
theorem dX0_enter_6 : decode cX0_enter 6 = .ok (.iconst 2, 1) := by decide +kernel
theorem dX0_enter_7 : decode cX0_enter 7 = .ok (.aload_n 2, 1) := by decide +kernel
theorem dX0_enter_8 : decode cX0_enter 8 = .ok (.iload_n 3, 1) := by decide +kernel
theorem dX0_enter_9 : decode cX0_enter 9 = .ok (.invokevirtual 65, 3) := by decide +kernel
theorem dX0_enter_12 : decode cX0_enter 12 = .ok (.aload_n 0, 1) := by decide +kernel
theorem dX0_enter_13 : decode cX0_enter 13 = .ok (.iconst (-1), 1) := by decide +kernel
theorem dX0_enter_14 : decode cX0_enter 14 = .ok (.putfield 15, 3) := by decide +kernel
theorem dX0_enter_17 : decode cX0_enter 17 = .ok (.aload_n 0, 1) := by decide +kernel
theorem dX0_enter_18 : decode cX0_enter 18 = .ok (.iload_n 1, 1) := by decide +kernel
theorem dX0_enter_19 : decode cX0_enter 19 = .ok (.iload_n 3, 1) := by decide +kernel
theorem dX0_enter_20 : decode cX0_enter 20 = .ok (.invokevirtual 101, 3) := by decide +kernel
theorem dX0_enter_23 : decode cX0_enter 23 = .ok (.return_, 1) := by decide +kernel
theorem dX0_keepTurn_0 : decode cX0_keepTurn 0 = .ok (.aload_n 0, 1) := by decide +kernel
theorem dX0_keepTurn_1 : decode cX0_keepTurn 1 = .ok (.dup, 1) := by decide +kernel
theorem dX0_keepTurn_2 : decode cX0_keepTurn 2 = .ok (.getfield 105, 3) := by decide +kernel
theorem dX0_keepTurn_5 : decode cX0_keepTurn 5 = .ok (.iconst 1, 1) := by decide +kernel
theorem dX0_keepTurn_6 : decode cX0_keepTurn 6 = .ok (.iadd, 1) := by decide +kernel
theorem dX0_keepTurn_7 : decode cX0_keepTurn 7 = .ok (.putfield 105, 3) := by decide +kernel
theorem dX0_keepTurn_10 : decode cX0_keepTurn 10 = .ok (.aload_n 0, 1) := by decide +kernel
theorem dX0_keepTurn_11 : decode cX0_keepTurn 11 = .ok (.getfield 108, 3) := by decide +kernel
theorem dX0_keepTurn_14 : decode cX0_keepTurn 14 = .ok (.bipush 12, 2) := by decide +kernel
theorem dX0_keepTurn_16 : decode cX0_keepTurn 16 = .ok (.if_icmp .ge 16, 3) := by decide +kernel
theorem dX0_keepTurn_19 : decode cX0_keepTurn 19 = .ok (.aload_n 0, 1) := by decide +kernel
theorem dX0_keepTurn_20 : decode cX0_keepTurn 20 = .ok (.dup, 1) := by decide +kernel
theorem dX0_keepTurn_21 : decode cX0_keepTurn 21 = .ok (.getfield 108, 3) := by decide +kernel
theorem dX0_keepTurn_24 : decode cX0_keepTurn 24 = .ok (.iconst 1, 1) := by decide +kernel
theorem dX0_keepTurn_25 : decode cX0_keepTurn 25 = .ok (.iadd, 1) := by decide +kernel
theorem dX0_keepTurn_26 : decode cX0_keepTurn 26 = .ok (.putfield 108, 3) := by decide +kernel
theorem dX0_keepTurn_29 : decode cX0_keepTurn 29 = .ok (.goto 45, 3) := by decide +kernel
theorem dX0_keepTurn_32 : decode cX0_keepTurn 32 = .ok (.iconst 1, 1) := by decide +kernel
theorem dX0_keepTurn_33 : decode cX0_keepTurn 33 = .ok (.istore_n 3, 1) := by decide +kernel
theorem dX0_keepTurn_34 : decode cX0_keepTurn 34 = .ok (.iload_n 3, 1) := by decide +kernel
theorem dX0_keepTurn_35 : decode cX0_keepTurn 35 = .ok (.bipush 12, 2) := by decide +kernel
theorem dX0_keepTurn_37 : decode cX0_keepTurn 37 = .ok (.if_icmp .ge 37, 3) := by decide +kernel
theorem dX0_keepTurn_40 : decode cX0_keepTurn 40 = .ok (.aload_n 0, 1) := by decide +kernel
theorem dX0_keepTurn_41 : decode cX0_keepTurn 41 = .ok (.getfield 18, 3) := by decide +kernel
theorem dX0_keepTurn_44 : decode cX0_keepTurn 44 = .ok (.iload_n 3, 1) := by decide +kernel
theorem dX0_keepTurn_45 : decode cX0_keepTurn 45 = .ok (.iconst 1, 1) := by decide +kernel
theorem dX0_keepTurn_46 : decode cX0_keepTurn 46 = .ok (.isub, 1) := by decide +kernel
theorem dX0_keepTurn_47 : decode cX0_keepTurn 47 = .ok (.aload_n 0, 1) := by decide +kernel
theorem dX0_keepTurn_48 : decode cX0_keepTurn 48 = .ok (.getfield 18, 3) := by decide +kernel
theorem dX0_keepTurn_51 : decode cX0_keepTurn 51 = .ok (.iload_n 3, 1) := by decide +kernel
theorem dX0_keepTurn_52 : decode cX0_keepTurn 52 = .ok (.iaload, 1) := by decide +kernel
theorem dX0_keepTurn_53 : decode cX0_keepTurn 53 = .ok (.iastore, 1) := by decide +kernel
theorem dX0_keepTurn_54 : decode cX0_keepTurn 54 = .ok (.aload_n 0, 1) := by decide +kernel
theorem dX0_keepTurn_55 : decode cX0_keepTurn 55 = .ok (.getfield 22, 3) := by decide +kernel
theorem dX0_keepTurn_58 : decode cX0_keepTurn 58 = .ok (.iload_n 3, 1) := by decide +kernel
theorem dX0_keepTurn_59 : decode cX0_keepTurn 59 = .ok (.iconst 1, 1) := by decide +kernel
theorem dX0_keepTurn_60 : decode cX0_keepTurn 60 = .ok (.isub, 1) := by decide +kernel
theorem dX0_keepTurn_61 : decode cX0_keepTurn 61 = .ok (.aload_n 0, 1) := by decide +kernel
theorem dX0_keepTurn_62 : decode cX0_keepTurn 62 = .ok (.getfield 22, 3) := by decide +kernel
theorem dX0_keepTurn_65 : decode cX0_keepTurn 65 = .ok (.iload_n 3, 1) := by decide +kernel
theorem dX0_keepTurn_66 : decode cX0_keepTurn 66 = .ok (.iaload, 1) := by decide +kernel
theorem dX0_keepTurn_67 : decode cX0_keepTurn 67 = .ok (.iastore, 1) := by decide +kernel
theorem dX0_keepTurn_68 : decode cX0_keepTurn 68 = .ok (.iinc 3 1, 3) := by decide +kernel
theorem dX0_keepTurn_71 : decode cX0_keepTurn 71 = .ok (.goto (-37), 3) := by decide +kernel
theorem dX0_keepTurn_74 : decode cX0_keepTurn 74 = .ok (.aload_n 0, 1) := by decide +kernel
theorem dX0_keepTurn_75 : decode cX0_keepTurn 75 = .ok (.getfield 108, 3) := by decide +kernel
theorem dX0_keepTurn_78 : decode cX0_keepTurn 78 = .ok (.iconst 1, 1) := by decide +kernel
theorem dX0_keepTurn_79 : decode cX0_keepTurn 79 = .ok (.isub, 1) := by decide +kernel
theorem dX0_keepTurn_80 : decode cX0_keepTurn 80 = .ok (.istore_n 3, 1) := by decide +kernel
theorem dX0_keepTurn_81 : decode cX0_keepTurn 81 = .ok (.iload_n 3, 1) := by decide +kernel
theorem dX0_keepTurn_82 : decode cX0_keepTurn 82 = .ok (.ifCond .lt 23, 3) := by decide +kernel
theorem dX0_keepTurn_85 : decode cX0_keepTurn 85 = .ok (.iload_n 3, 1) := by decide +kernel
theorem dX0_keepTurn_86 : decode cX0_keepTurn 86 = .ok (.bipush 12, 2) := by decide +kernel
theorem dX0_keepTurn_88 : decode cX0_keepTurn 88 = .ok (.if_icmp .ge 17, 3) := by decide +kernel
theorem dX0_keepTurn_91 : decode cX0_keepTurn 91 = .ok (.aload_n 0, 1) := by decide +kernel
theorem dX0_keepTurn_92 : decode cX0_keepTurn 92 = .ok (.getfield 18, 3) := by decide +kernel
theorem dX0_keepTurn_95 : decode cX0_keepTurn 95 = .ok (.iload_n 3, 1) := by decide +kernel
theorem dX0_keepTurn_96 : decode cX0_keepTurn 96 = .ok (.iload_n 2, 1) := by decide +kernel
theorem dX0_keepTurn_97 : decode cX0_keepTurn 97 = .ok (.iastore, 1) := by decide +kernel
theorem dX0_keepTurn_98 : decode cX0_keepTurn 98 = .ok (.aload_n 0, 1) := by decide +kernel
theorem dX0_keepTurn_99 : decode cX0_keepTurn 99 = .ok (.getfield 22, 3) := by decide +kernel
theorem dX0_keepTurn_102 : decode cX0_keepTurn 102 = .ok (.iload_n 3, 1) := by decide +kernel
theorem dX0_keepTurn_103 : decode cX0_keepTurn 103 = .ok (.iload_n 1, 1) := by decide +kernel
theorem dX0_keepTurn_104 : decode cX0_keepTurn 104 = .ok (.iastore, 1) := by decide +kernel
theorem dX0_keepTurn_105 : decode cX0_keepTurn 105 = .ok (.return_, 1) := by decide +kernel
theorem dX0_ticksToEnd_0 : decode cX0_ticksToEnd 0 = .ok (.aload_n 0, 1) := by decide +kernel
theorem dX0_ticksToEnd_1 : decode cX0_ticksToEnd 1 = .ok (.getfield 9, 3) := by decide +kernel
theorem dX0_ticksToEnd_4 : decode cX0_ticksToEnd 4 = .ok (.iconst 3, 1) := by decide +kernel
theorem dX0_ticksToEnd_5 : decode cX0_ticksToEnd 5 = .ok (.if_icmp .ne 24, 3) := by decide +kernel
theorem dX0_ticksToEnd_8 : decode cX0_ticksToEnd 8 = .ok (.aload_n 0, 1) := by decide +kernel
theorem dX0_ticksToEnd_9 : decode cX0_ticksToEnd 9 = .ok (.getfield 15, 3) := by decide +kernel
theorem dX0_ticksToEnd_12 : decode cX0_ticksToEnd 12 = .ok (.iconst (-1), 1) := by decide +kernel
theorem dX0_ticksToEnd_13 : decode cX0_ticksToEnd 13 = .ok (.if_icmp .eq 16, 3) := by decide +kernel
theorem dX0_ticksToEnd_16 : decode cX0_ticksToEnd 16 = .ok (.iconst 0, 1) := by decide +kernel
theorem dX0_ticksToEnd_17 : decode cX0_ticksToEnd 17 = .ok (.aload_n 0, 1) := by decide +kernel
theorem dX0_ticksToEnd_18 : decode cX0_ticksToEnd 18 = .ok (.getfield 15, 3) := by decide +kernel
theorem dX0_ticksToEnd_21 : decode cX0_ticksToEnd 21 = .ok (.iload_n 1, 1) := by decide +kernel
theorem dX0_ticksToEnd_22 : decode cX0_ticksToEnd 22 = .ok (.isub, 1) := by decide +kernel
theorem dX0_ticksToEnd_23 : decode cX0_ticksToEnd 23 = .ok (.invokestatic 111, 3) := by decide +kernel
theorem dX0_ticksToEnd_26 : decode cX0_ticksToEnd 26 = .ok (.goto 5, 3) := by decide +kernel
theorem dX0_ticksToEnd_29 : decode cX0_ticksToEnd 29 = .ok (.bipush (-9), 2) := by decide +kernel
theorem dX0_ticksToEnd_31 : decode cX0_ticksToEnd 31 = .ok (.ireturn, 1) := by decide +kernel
set_option maxRecDepth 20000 in
theorem ggX1_init_X2_init : GoodIn wsX1_init wsX2_init := goodIn_r _ [14, 15, 2, 3, 16, 29, 30, 31, 32, 33, 34, 35, 36] (by decide +kernel) (by decide +kernel)
set_option maxRecDepth 20000 in
theorem gX1_init_X2_init : GoodIn wsX1_init (wsX2_init) := ggX1_init_X2_init
theorem dX1_init_0 : decode cX1_init 0 = .ok (.aload_n 0, 1) := by decide +kernel
theorem dX1_init_1 : decode cX1_init 1 = .ok (.invokespecial 3, 3) := by decide +kernel
theorem dX1_init_4 : decode cX1_init 4 = .ok (.aload_n 0, 1) := by decide +kernel
theorem dX1_init_5 : decode cX1_init 5 = .ok (.iconst 5, 1) := by decide +kernel
theorem dX1_init_6 : decode cX1_init 6 = .ok (.putfield 9, 3) := by decide +kernel
theorem dX1_init_9 : decode cX1_init 9 = .ok (.aload_n 0, 1) := by decide +kernel
theorem dX1_init_10 : decode cX1_init 10 = .ok (.bipush 20, 2) := by decide +kernel
theorem dX1_init_12 : decode cX1_init 12 = .ok (.putfield 15, 3) := by decide +kernel
theorem dX1_init_15 : decode cX1_init 15 = .ok (.aload_n 0, 1) := by decide +kernel
theorem dX1_init_16 : decode cX1_init 16 = .ok (.bipush 30, 2) := by decide +kernel
theorem dX1_init_18 : decode cX1_init 18 = .ok (.putfield 18, 3) := by decide +kernel
theorem dX1_init_21 : decode cX1_init 21 = .ok (.aload_n 0, 1) := by decide +kernel
theorem dX1_init_22 : decode cX1_init 22 = .ok (.bipush 60, 2) := by decide +kernel
theorem dX1_init_24 : decode cX1_init 24 = .ok (.anewarray 21, 3) := by decide +kernel
theorem dX1_init_27 : decode cX1_init 27 = .ok (.putfield 23, 3) := by decide +kernel
theorem dX1_init_30 : decode cX1_init 30 = .ok (.aload_n 0, 1) := by decide +kernel
theorem dX1_init_31 : decode cX1_init 31 = .ok (.new 21, 3) := by decide +kernel
theorem dX1_init_34 : decode cX1_init 34 = .ok (.dup, 1) := by decide +kernel
theorem dX1_init_35 : decode cX1_init 35 = .ok (.aconst_null, 1) := by decide +kernel
theorem dX1_init_36 : decode cX1_init 36 = .ok (.invokespecial 27, 3) := by decide +kernel
theorem dX1_init_39 : decode cX1_init 39 = .ok (.putfield 30, 3) := by decide +kernel
theorem dX1_init_42 : decode cX1_init 42 = .ok (.return_, 1) := by decide +kernel
set_option maxRecDepth 20000 in
theorem ggX1_admitGuest_X1_admit : GoodIn wsX1_admitGuest wsX1_admit := goodIn_r _ [7, 8, 9, 10, 11, 12, 13, 14, 15, 16, 17, 18, 19, 20, 6, 21, 22, 23, 24, 25, 26, 27, 28, 29, 30, 31, 32, 33, 34, 35] (by decide +kernel) (by decide +kernel)
set_option maxRecDepth 20000 in
theorem gX1_admitGuest_X1_admit : GoodIn wsX1_admitGuest (wsV RX1 34 RX1 yX1_admit wsX1_admit) := goodIn_app (goodIn_of _ (by decide +kernel)) ggX1_admitGuest_X1_admit
theorem dX1_admitGuest_0 : decode cX1_admitGuest 0 = .ok (.aload_n 0, 1) := by decide +kernel
theorem dX1_admitGuest_1 : decode cX1_admitGuest 1 = .ok (.aload_n 0, 1) := by decide +kernel
theorem dX1_admitGuest_2 : decode cX1_admitGuest 2 = .ok (.getfield 30, 3) := by decide +kernel
theorem dX1_admitGuest_5 : decode cX1_admitGuest 5 = .ok (.iload_n 1, 1) := by decide +kernel
theorem dX1_admitGuest_6 : decode cX1_admitGuest 6 = .ok (.invokevirtual 34, 3) := by decide +kernel
theorem dX1_admitGuest_9 : decode cX1_admitGuest 9 = .ok (.ifCond .ne 13, 3) := by decide +kernel
theorem dX1_admitGuest_12 : decode cX1_admitGuest 12 = .ok (.aload_n 0, 1) := by decide +kernel
theorem dX1_admitGuest_13 : decode cX1_admitGuest 13 = .ok (.dup, 1) := by decide +kernel
theorem dX1_admitGuest_14 : decode cX1_admitGuest 14 = .ok (.getfield 38, 3) := by decide +kernel
theorem dX1_admitGuest_17 : decode cX1_admitGuest 17 = .ok (.iconst 1, 1) := by decide +kernel
theorem dX1_admitGuest_18 : decode cX1_admitGuest 18 = .ok (.iadd, 1) := by decide +kernel
theorem dX1_admitGuest_19 : decode cX1_admitGuest 19 = .ok (.putfield 38, 3) := by decide +kernel
theorem dX1_admitGuest_22 : decode cX1_admitGuest 22 = .ok (.return_, 1) := by decide +kernel
set_option maxRecDepth 20000 in
theorem ggX1_admit_X1_serve : GoodIn wsX1_admit wsX1_serve := goodIn_r _ [15, 1, 16, 17, 18, 19, 20, 21, 22, 23, 24, 25, 26, 27, 28, 29] (by decide +kernel) (by decide +kernel)
set_option maxRecDepth 20000 in
theorem gX1_admit_X1_serve : GoodIn wsX1_admit (wsV RX1 44 RX1 yX1_serve wsX1_serve) := goodIn_app (goodIn_of _ (by decide +kernel)) ggX1_admit_X1_serve
theorem dX1_admit_0 : decode cX1_admit 0 = .ok (.aload_n 0, 1) := by decide +kernel
theorem dX1_admit_1 : decode cX1_admit 1 = .ok (.getfield 41, 3) := by decide +kernel
theorem dX1_admit_4 : decode cX1_admit 4 = .ok (.ifnonnull 11, 3) := by decide +kernel
theorem dX1_admit_7 : decode cX1_admit 7 = .ok (.aload_n 0, 1) := by decide +kernel
theorem dX1_admit_8 : decode cX1_admit 8 = .ok (.aload_n 1, 1) := by decide +kernel
theorem dX1_admit_9 : decode cX1_admit 9 = .ok (.iload_n 2, 1) := by decide +kernel
theorem dX1_admit_10 : decode cX1_admit 10 = .ok (.invokevirtual 44, 3) := by decide +kernel
theorem dX1_admit_13 : decode cX1_admit 13 = .ok (.iconst 1, 1) := by decide +kernel
theorem dX1_admit_14 : decode cX1_admit 14 = .ok (.ireturn, 1) := by decide +kernel
theorem dX1_admit_15 : decode cX1_admit 15 = .ok (.aload_n 0, 1) := by decide +kernel
theorem dX1_admit_16 : decode cX1_admit 16 = .ok (.getfield 48, 3) := by decide +kernel
theorem dX1_admit_19 : decode cX1_admit 19 = .ok (.aload_n 0, 1) := by decide +kernel
theorem dX1_admit_20 : decode cX1_admit 20 = .ok (.getfield 51, 3) := by decide +kernel
theorem dX1_admit_23 : decode cX1_admit 23 = .ok (.iadd, 1) := by decide +kernel
theorem dX1_admit_24 : decode cX1_admit 24 = .ok (.istore_n 3, 1) := by decide +kernel
theorem dX1_admit_25 : decode cX1_admit 25 = .ok (.iload_n 3, 1) := by decide +kernel
theorem dX1_admit_26 : decode cX1_admit 26 = .ok (.aload_n 0, 1) := by decide +kernel
theorem dX1_admit_27 : decode cX1_admit 27 = .ok (.getfield 23, 3) := by decide +kernel
theorem dX1_admit_30 : decode cX1_admit 30 = .ok (.arraylength, 1) := by decide +kernel
theorem dX1_admit_31 : decode cX1_admit 31 = .ok (.if_icmp .lt 11, 3) := by decide +kernel
theorem dX1_admit_34 : decode cX1_admit 34 = .ok (.iload_n 3, 1) := by decide +kernel
theorem dX1_admit_35 : decode cX1_admit 35 = .ok (.aload_n 0, 1) := by decide +kernel
theorem dX1_admit_36 : decode cX1_admit 36 = .ok (.getfield 23, 3) := by decide +kernel
theorem dX1_admit_39 : decode cX1_admit 39 = .ok (.arraylength, 1) := by decide +kernel
theorem dX1_admit_40 : decode cX1_admit 40 = .ok (.isub, 1) := by decide +kernel
theorem dX1_admit_41 : decode cX1_admit 41 = .ok (.istore_n 3, 1) := by decide +kernel
theorem dX1_admit_42 : decode cX1_admit 42 = .ok (.aload_n 0, 1) := by decide +kernel
theorem dX1_admit_43 : decode cX1_admit 43 = .ok (.getfield 51, 3) := by decide +kernel
theorem dX1_admit_46 : decode cX1_admit 46 = .ok (.aload_n 0, 1) := by decide +kernel
theorem dX1_admit_47 : decode cX1_admit 47 = .ok (.getfield 15, 3) := by decide +kernel
theorem dX1_admit_50 : decode cX1_admit 50 = .ok (.if_icmp .ge 16, 3) := by decide +kernel
theorem dX1_admit_53 : decode cX1_admit 53 = .ok (.iload_n 3, 1) := by decide +kernel
theorem dX1_admit_54 : decode cX1_admit 54 = .ok (.ifCond .lt 12, 3) := by decide +kernel
theorem dX1_admit_57 : decode cX1_admit 57 = .ok (.iload_n 3, 1) := by decide +kernel
theorem dX1_admit_58 : decode cX1_admit 58 = .ok (.aload_n 0, 1) := by decide +kernel
theorem dX1_admit_59 : decode cX1_admit 59 = .ok (.getfield 23, 3) := by decide +kernel
theorem dX1_admit_62 : decode cX1_admit 62 = .ok (.arraylength, 1) := by decide +kernel
theorem dX1_admit_63 : decode cX1_admit 63 = .ok (.if_icmp .lt 5, 3) := by decide +kernel
theorem dX1_admit_66 : decode cX1_admit 66 = .ok (.iconst 0, 1) := by decide +kernel
theorem dX1_admit_67 : decode cX1_admit 67 = .ok (.ireturn, 1) := by decide +kernel
theorem dX1_admit_68 : decode cX1_admit 68 = .ok (.aload_n 0, 1) := by decide +kernel
theorem dX1_admit_69 : decode cX1_admit 69 = .ok (.getfield 23, 3) := by decide +kernel
theorem dX1_admit_72 : decode cX1_admit 72 = .ok (.iload_n 3, 1) := by decide +kernel
theorem dX1_admit_73 : decode cX1_admit 73 = .ok (.aload_n 1, 1) := by decide +kernel
theorem dX1_admit_74 : decode cX1_admit 74 = .ok (.aastore, 1) := by decide +kernel
theorem dX1_admit_75 : decode cX1_admit 75 = .ok (.aload_n 0, 1) := by decide +kernel
theorem dX1_admit_76 : decode cX1_admit 76 = .ok (.dup, 1) := by decide +kernel
theorem dX1_admit_77 : decode cX1_admit 77 = .ok (.getfield 51, 3) := by decide +kernel
theorem dX1_admit_80 : decode cX1_admit 80 = .ok (.iconst 1, 1) := by decide +kernel
theorem dX1_admit_81 : decode cX1_admit 81 = .ok (.iadd, 1) := by decide +kernel
theorem dX1_admit_82 : decode cX1_admit 82 = .ok (.putfield 51, 3) := by decide +kernel
theorem dX1_admit_85 : decode cX1_admit 85 = .ok (.aload_n 0, 1) := by decide +kernel
theorem dX1_admit_86 : decode cX1_admit 86 = .ok (.aload_n 0, 1) := by decide +kernel
theorem dX1_admit_87 : decode cX1_admit 87 = .ok (.getfield 54, 3) := by decide +kernel
theorem dX1_admit_90 : decode cX1_admit 90 = .ok (.aload_n 0, 1) := by decide +kernel
theorem dX1_admit_91 : decode cX1_admit 91 = .ok (.getfield 51, 3) := by decide +kernel
theorem dX1_admit_94 : decode cX1_admit 94 = .ok (.invokestatic 57, 3) := by decide +kernel
theorem dX1_admit_97 : decode cX1_admit 97 = .ok (.putfield 54, 3) := by decide +kernel
theorem dX1_admit_100 : decode cX1_admit 100 = .ok (.iconst 1, 1) := by decide +kernel
theorem dX1_admit_101 : decode cX1_admit 101 = .ok (.ireturn, 1) := by decide +kernel
set_option maxRecDepth 20000 in
theorem ggX1_release_X1_serveFirstWaiting : GoodIn wsX1_release wsX1_serveFirstWaiting := goodIn_r _ [13, 14, 15, 16, 17, 18, 19, 12, 20, 1, 21, 2, 22, 23, 24, 25, 26, 27, 28, 29, 30, 31, 32, 33] (by decide +kernel) (by decide +kernel)
set_option maxRecDepth 20000 in
theorem gX1_release_X1_serveFirstWaiting : GoodIn wsX1_release (wsV RX1 85 RX1 yX1_serveFirstWaiting wsX1_serveFirstWaiting) := goodIn_app (goodIn_of _ (by decide +kernel)) ggX1_release_X1_serveFirstWaiting
theorem dX1_release_0 : decode cX1_release 0 = .ok (.aload_n 0, 1) := by decide +kernel
theorem dX1_release_1 : decode cX1_release 1 = .ok (.getfield 41, 3) := by decide +kernel
theorem dX1_release_4 : decode cX1_release 4 = .ok (.ifnull 11, 3) := by decide +kernel
theorem dX1_release_7 : decode cX1_release 7 = .ok (.aload_n 0, 1) := by decide +kernel
theorem dX1_release_8 : decode cX1_release 8 = .ok (.getfield 63, 3) := by decide +kernel
theorem dX1_release_11 : decode cX1_release 11 = .ok (.iload_n 1, 1) := by decide +kernel
theorem dX1_release_12 : decode cX1_release 12 = .ok (.if_icmp .eq 4, 3) := by decide +kernel
theorem dX1_release_15 : decode cX1_release 15 = .ok (.return_, 1) := by decide +kernel
theorem dX1_release_16 : decode cX1_release 16 = .ok (.aload_n 0, 1) := by decide +kernel
theorem dX1_release_17 : decode cX1_release 17 = .ok (.getfield 41, 3) := by decide +kernel
theorem dX1_release_20 : decode cX1_release 20 = .ok (.getfield 66, 3) := by decide +kernel
theorem dX1_release_23 : decode cX1_release 23 = .ok (.ifnonnull 16, 3) := by decide +kernel
theorem dX1_release_26 : decode cX1_release 26 = .ok (.aload_n 0, 1) := by decide +kernel
theorem dX1_release_27 : decode cX1_release 27 = .ok (.dup, 1) := by decide +kernel
theorem dX1_release_28 : decode cX1_release 28 = .ok (.getfield 70, 3) := by decide +kernel
theorem dX1_release_31 : decode cX1_release 31 = .ok (.iconst 1, 1) := by decide +kernel
theorem dX1_release_32 : decode cX1_release 32 = .ok (.iadd, 1) := by decide +kernel
theorem dX1_release_33 : decode cX1_release 33 = .ok (.putfield 70, 3) := by decide +kernel
theorem dX1_release_36 : decode cX1_release 36 = .ok (.goto 40, 3) := by decide +kernel
theorem dX1_release_39 : decode cX1_release 39 = .ok (.aload_n 0, 1) := by decide +kernel
theorem dX1_release_40 : decode cX1_release 40 = .ok (.getfield 41, 3) := by decide +kernel
theorem dX1_release_43 : decode cX1_release 43 = .ok (.getfield 66, 3) := by decide +kernel
theorem dX1_release_46 : decode cX1_release 46 = .ok (.dup, 1) := by decide +kernel
theorem dX1_release_47 : decode cX1_release 47 = .ok (.getfield 73, 3) := by decide +kernel
theorem dX1_release_50 : decode cX1_release 50 = .ok (.iconst 1, 1) := by decide +kernel
theorem dX1_release_51 : decode cX1_release 51 = .ok (.iadd, 1) := by decide +kernel
theorem dX1_release_52 : decode cX1_release 52 = .ok (.putfield 73, 3) := by decide +kernel
theorem dX1_release_55 : decode cX1_release 55 = .ok (.aload_n 0, 1) := by decide +kernel
theorem dX1_release_56 : decode cX1_release 56 = .ok (.getfield 41, 3) := by decide +kernel
theorem dX1_release_59 : decode cX1_release 59 = .ok (.iconst 1, 1) := by decide +kernel
theorem dX1_release_60 : decode cX1_release 60 = .ok (.putfield 78, 3) := by decide +kernel
theorem dX1_release_63 : decode cX1_release 63 = .ok (.aload_n 0, 1) := by decide +kernel
theorem dX1_release_64 : decode cX1_release 64 = .ok (.getfield 41, 3) := by decide +kernel
theorem dX1_release_67 : decode cX1_release 67 = .ok (.iload_n 1, 1) := by decide +kernel
theorem dX1_release_68 : decode cX1_release 68 = .ok (.aload_n 0, 1) := by decide +kernel
theorem dX1_release_69 : decode cX1_release 69 = .ok (.getfield 18, 3) := by decide +kernel
theorem dX1_release_72 : decode cX1_release 72 = .ok (.iadd, 1) := by decide +kernel
theorem dX1_release_73 : decode cX1_release 73 = .ok (.putfield 82, 3) := by decide +kernel
theorem dX1_release_76 : decode cX1_release 76 = .ok (.aload_n 0, 1) := by decide +kernel
theorem dX1_release_77 : decode cX1_release 77 = .ok (.aconst_null, 1) := by decide +kernel
theorem dX1_release_78 : decode cX1_release 78 = .ok (.putfield 41, 3) := by decide +kernel
theorem dX1_release_81 : decode cX1_release 81 = .ok (.aload_n 0, 1) := by decide +kernel
theorem dX1_release_82 : decode cX1_release 82 = .ok (.iload_n 1, 1) := by decide +kernel
theorem dX1_release_83 : decode cX1_release 83 = .ok (.invokevirtual 85, 3) := by decide +kernel
theorem dX1_release_86 : decode cX1_release 86 = .ok (.return_, 1) := by decide +kernel
set_option maxRecDepth 20000 in
theorem ggX1_serveFirstWaiting_X1_serve : GoodIn wsX1_serveFirstWaiting wsX1_serve := goodIn_r _ [8, 9, 10, 11, 12, 13, 14, 15, 16, 17, 18, 19, 20, 21, 22, 23] (by decide +kernel) (by decide +kernel)
set_option maxRecDepth 20000 in
theorem gX1_serveFirstWaiting_X1_serve : GoodIn wsX1_serveFirstWaiting (wsV RX1 44 RX1 yX1_serve wsX1_serve) := goodIn_app (goodIn_of _ (by decide +kernel)) ggX1_serveFirstWaiting_X1_serve
theorem dX1_serveFirstWaiting_0 : decode cX1_serveFirstWaiting 0 = .ok (.aload_n 0, 1) := by decide +kernel
theorem dX1_serveFirstWaiting_1 : decode cX1_serveFirstWaiting 1 = .ok (.getfield 51, 3) := by decide +kernel
theorem dX1_serveFirstWaiting_4 : decode cX1_serveFirstWaiting 4 = .ok (.ifCond .le 22, 3) := by decide +kernel
theorem dX1_serveFirstWaiting_7 : decode cX1_serveFirstWaiting 7 = .ok (.aload_n 0, 1) := by decide +kernel
theorem dX1_serveFirstWaiting_8 : decode cX1_serveFirstWaiting 8 = .ok (.getfield 48, 3) := by decide +kernel
theorem dX1_serveFirstWaiting_11 : decode cX1_serveFirstWaiting 11 = .ok (.ifCond .lt 15, 3) := by decide +kernel
theorem dX1_serveFirstWaiting_14 : decode cX1_serveFirstWaiting 14 = .ok (.aload_n 0, 1) := by decide +kernel
theorem dX1_serveFirstWaiting_15 : decode cX1_serveFirstWaiting 15 = .ok (.getfield 48, 3) := by decide +kernel
theorem dX1_serveFirstWaiting_18 : decode cX1_serveFirstWaiting 18 = .ok (.aload_n 0, 1) := by decide +kernel
theorem dX1_serveFirstWaiting_19 : decode cX1_serveFirstWaiting 19 = .ok (.getfield 23, 3) := by decide +kernel
theorem dX1_serveFirstWaiting_22 : decode cX1_serveFirstWaiting 22 = .ok (.arraylength, 1) := by decide +kernel
theorem dX1_serveFirstWaiting_23 : decode cX1_serveFirstWaiting 23 = .ok (.if_icmp .lt 4, 3) := by decide +kernel
theorem dX1_serveFirstWaiting_26 : decode cX1_serveFirstWaiting 26 = .ok (.return_, 1) := by decide +kernel
theorem dX1_serveFirstWaiting_27 : decode cX1_serveFirstWaiting 27 = .ok (.aload_n 0, 1) := by decide +kernel
theorem dX1_serveFirstWaiting_28 : decode cX1_serveFirstWaiting 28 = .ok (.aload_n 0, 1) := by decide +kernel
theorem dX1_serveFirstWaiting_29 : decode cX1_serveFirstWaiting 29 = .ok (.getfield 23, 3) := by decide +kernel
theorem dX1_serveFirstWaiting_32 : decode cX1_serveFirstWaiting 32 = .ok (.aload_n 0, 1) := by decide +kernel
theorem dX1_serveFirstWaiting_33 : decode cX1_serveFirstWaiting 33 = .ok (.getfield 48, 3) := by decide +kernel
theorem dX1_serveFirstWaiting_36 : decode cX1_serveFirstWaiting 36 = .ok (.aaload, 1) := by decide +kernel
theorem dX1_serveFirstWaiting_37 : decode cX1_serveFirstWaiting 37 = .ok (.iload_n 1, 1) := by decide +kernel
theorem dX1_serveFirstWaiting_38 : decode cX1_serveFirstWaiting 38 = .ok (.invokevirtual 44, 3) := by decide +kernel
theorem dX1_serveFirstWaiting_41 : decode cX1_serveFirstWaiting 41 = .ok (.aload_n 0, 1) := by decide +kernel
theorem dX1_serveFirstWaiting_42 : decode cX1_serveFirstWaiting 42 = .ok (.getfield 23, 3) := by decide +kernel
theorem dX1_serveFirstWaiting_45 : decode cX1_serveFirstWaiting 45 = .ok (.aload_n 0, 1) := by decide +kernel
theorem dX1_serveFirstWaiting_46 : decode cX1_serveFirstWaiting 46 = .ok (.getfield 48, 3) := by decide +kernel
theorem dX1_serveFirstWaiting_49 : decode cX1_serveFirstWaiting 49 = .ok (.aconst_null, 1) := by decide +kernel
theorem dX1_serveFirstWaiting_50 : decode cX1_serveFirstWaiting 50 = .ok (.aastore, 1) := by decide +kernel
theorem dX1_serveFirstWaiting_51 : decode cX1_serveFirstWaiting 51 = .ok (.aload_n 0, 1) := by decide +kernel
theorem dX1_serveFirstWaiting_52 : decode cX1_serveFirstWaiting 52 = .ok (.aload_n 0, 1) := by decide +kernel
theorem dX1_serveFirstWaiting_53 : decode cX1_serveFirstWaiting 53 = .ok (.getfield 48, 3) := by decide +kernel
theorem dX1_serveFirstWaiting_56 : decode cX1_serveFirstWaiting 56 = .ok (.iconst 1, 1) := by decide +kernel
theorem dX1_serveFirstWaiting_57 : decode cX1_serveFirstWaiting 57 = .ok (.iadd, 1) := by decide +kernel
theorem dX1_serveFirstWaiting_58 : decode cX1_serveFirstWaiting 58 = .ok (.aload_n 0, 1) := by decide +kernel
theorem dX1_serveFirstWaiting_59 : decode cX1_serveFirstWaiting 59 = .ok (.getfield 23, 3) := by decide +kernel
theorem dX1_serveFirstWaiting_62 : decode cX1_serveFirstWaiting 62 = .ok (.arraylength, 1) := by decide +kernel
theorem dX1_serveFirstWaiting_63 : decode cX1_serveFirstWaiting 63 = .ok (.if_icmp .ge 12, 3) := by decide +kernel
theorem dX1_serveFirstWaiting_66 : decode cX1_serveFirstWaiting 66 = .ok (.aload_n 0, 1) := by decide +kernel
theorem dX1_serveFirstWaiting_67 : decode cX1_serveFirstWaiting 67 = .ok (.getfield 48, 3) := by decide +kernel
theorem dX1_serveFirstWaiting_70 : decode cX1_serveFirstWaiting 70 = .ok (.iconst 1, 1) := by decide +kernel
theorem dX1_serveFirstWaiting_71 : decode cX1_serveFirstWaiting 71 = .ok (.iadd, 1) := by decide +kernel
theorem dX1_serveFirstWaiting_72 : decode cX1_serveFirstWaiting 72 = .ok (.goto 4, 3) := by decide +kernel
theorem dX1_serveFirstWaiting_75 : decode cX1_serveFirstWaiting 75 = .ok (.iconst 0, 1) := by decide +kernel
theorem dX1_serveFirstWaiting_76 : decode cX1_serveFirstWaiting 76 = .ok (.putfield 48, 3) := by decide +kernel
theorem dX1_serveFirstWaiting_79 : decode cX1_serveFirstWaiting 79 = .ok (.aload_n 0, 1) := by decide +kernel
theorem dX1_serveFirstWaiting_80 : decode cX1_serveFirstWaiting 80 = .ok (.dup, 1) := by decide +kernel
theorem dX1_serveFirstWaiting_81 : decode cX1_serveFirstWaiting 81 = .ok (.getfield 51, 3) := by decide +kernel
theorem dX1_serveFirstWaiting_84 : decode cX1_serveFirstWaiting 84 = .ok (.iconst 1, 1) := by decide +kernel
theorem dX1_serveFirstWaiting_85 : decode cX1_serveFirstWaiting 85 = .ok (.isub, 1) := by decide +kernel
theorem dX1_serveFirstWaiting_86 : decode cX1_serveFirstWaiting 86 = .ok (.putfield 51, 3) := by decide +kernel
theorem dX1_serveFirstWaiting_89 : decode cX1_serveFirstWaiting 89 = .ok (.return_, 1) := by decide +kernel
theorem dX1_serve_0 : decode cX1_serve 0 = .ok (.aload_n 0, 1) := by decide +kernel
theorem dX1_serve_1 : decode cX1_serve 1 = .ok (.aload_n 1, 1) := by decide +kernel
theorem dX1_serve_2 : decode cX1_serve 2 = .ok (.putfield 41, 3) := by decide +kernel
theorem dX1_serve_5 : decode cX1_serve 5 = .ok (.aload_n 0, 1) := by decide +kernel
theorem dX1_serve_6 : decode cX1_serve 6 = .ok (.iload_n 2, 1) := by decide +kernel
theorem dX1_serve_7 : decode cX1_serve 7 = .ok (.aload_n 0, 1) := by decide +kernel
theorem dX1_serve_8 : decode cX1_serve 8 = .ok (.getfield 9, 3) := by decide +kernel
theorem dX1_serve_11 : decode cX1_serve 11 = .ok (.iadd, 1) := by decide +kernel
theorem dX1_serve_12 : decode cX1_serve 12 = .ok (.putfield 63, 3) := by decide +kernel
theorem dX1_serve_15 : decode cX1_serve 15 = .ok (.return_, 1) := by decide +kernel
theorem dX2_init_0 : decode cX2_init 0 = .ok (.aload_n 0, 1) := by decide +kernel
theorem dX2_init_1 : decode cX2_init 1 = .ok (.invokespecial 1, 3) := by decide +kernel
theorem dX2_init_4 : decode cX2_init 4 = .ok (.aload_n 0, 1) := by decide +kernel
theorem dX2_init_5 : decode cX2_init 5 = .ok (.aload_n 1, 1) := by decide +kernel
theorem dX2_init_6 : decode cX2_init 6 = .ok (.putfield 7, 3) := by decide +kernel
theorem dX2_init_9 : decode cX2_init 9 = .ok (.return_, 1) := by decide +kernel
theorem dX3_init_0 : decode cX3_init 0 = .ok (.aload_n 0, 1) := by decide +kernel
theorem dX3_init_1 : decode cX3_init 1 = .ok (.invokespecial 3, 3) := by decide +kernel
theorem dX3_init_4 : decode cX3_init 4 = .ok (.aload_n 0, 1) := by decide +kernel
theorem dX3_init_5 : decode cX3_init 5 = .ok (.sipush 262, 3) := by decide +kernel
theorem dX3_init_8 : decode cX3_init 8 = .ok (.anewarray 9, 3) := by decide +kernel
theorem dX3_init_11 : decode cX3_init 11 = .ok (.putfield 11, 3) := by decide +kernel
theorem dX3_init_14 : decode cX3_init 14 = .ok (.return_, 1) := by decide +kernel
theorem dX3_at_0 : decode cX3_at 0 = .ok (.iload_n 1, 1) := by decide +kernel
theorem dX3_at_1 : decode cX3_at 1 = .ok (.ifCond .lt 29, 3) := by decide +kernel
theorem dX3_at_4 : decode cX3_at 4 = .ok (.iload_n 1, 1) := by decide +kernel
theorem dX3_at_5 : decode cX3_at 5 = .ok (.aload_n 0, 1) := by decide +kernel
theorem dX3_at_6 : decode cX3_at 6 = .ok (.getfield 17, 3) := by decide +kernel
theorem dX3_at_9 : decode cX3_at 9 = .ok (.if_icmp .ge 21, 3) := by decide +kernel
theorem dX3_at_12 : decode cX3_at 12 = .ok (.iload_n 1, 1) := by decide +kernel
theorem dX3_at_13 : decode cX3_at 13 = .ok (.aload_n 0, 1) := by decide +kernel
theorem dX3_at_14 : decode cX3_at 14 = .ok (.getfield 11, 3) := by decide +kernel
theorem dX3_at_17 : decode cX3_at 17 = .ok (.arraylength, 1) := by decide +kernel
theorem dX3_at_18 : decode cX3_at 18 = .ok (.if_icmp .ge 12, 3) := by decide +kernel
theorem dX3_at_21 : decode cX3_at 21 = .ok (.aload_n 0, 1) := by decide +kernel
theorem dX3_at_22 : decode cX3_at 22 = .ok (.getfield 11, 3) := by decide +kernel
theorem dX3_at_25 : decode cX3_at 25 = .ok (.iload_n 1, 1) := by decide +kernel
theorem dX3_at_26 : decode cX3_at 26 = .ok (.aaload, 1) := by decide +kernel
theorem dX3_at_27 : decode cX3_at 27 = .ok (.goto 4, 3) := by decide +kernel
theorem dX3_at_30 : decode cX3_at 30 = .ok (.aconst_null, 1) := by decide +kernel
theorem dX3_at_31 : decode cX3_at 31 = .ok (.areturn, 1) := by decide +kernel
set_option maxRecDepth 20000 in
theorem ggX3_blank_X2_init : GoodIn wsX3_blank wsX2_init := goodIn_r _ [8, 9, 10, 11, 12, 15, 16, 17, 18, 19, 20, 21, 22] (by decide +kernel) (by decide +kernel)
set_option maxRecDepth 20000 in
theorem gX3_blank_X2_init : GoodIn wsX3_blank (wsX2_init) := ggX3_blank_X2_init
theorem dX3_blank_0 : decode cX3_blank 0 = .ok (.aload_n 0, 1) := by decide +kernel
theorem dX3_blank_1 : decode cX3_blank 1 = .ok (.getfield 17, 3) := by decide +kernel
theorem dX3_blank_4 : decode cX3_blank 4 = .ok (.ifCond .lt 15, 3) := by decide +kernel
theorem dX3_blank_7 : decode cX3_blank 7 = .ok (.aload_n 0, 1) := by decide +kernel
theorem dX3_blank_8 : decode cX3_blank 8 = .ok (.getfield 17, 3) := by decide +kernel
theorem dX3_blank_11 : decode cX3_blank 11 = .ok (.aload_n 0, 1) := by decide +kernel
theorem dX3_blank_12 : decode cX3_blank 12 = .ok (.getfield 11, 3) := by decide +kernel
theorem dX3_blank_15 : decode cX3_blank 15 = .ok (.arraylength, 1) := by decide +kernel
theorem dX3_blank_16 : decode cX3_blank 16 = .ok (.if_icmp .lt 5, 3) := by decide +kernel
theorem dX3_blank_19 : decode cX3_blank 19 = .ok (.aconst_null, 1) := by decide +kernel
theorem dX3_blank_20 : decode cX3_blank 20 = .ok (.areturn, 1) := by decide +kernel
theorem dX3_blank_21 : decode cX3_blank 21 = .ok (.aload_n 0, 1) := by decide +kernel
theorem dX3_blank_22 : decode cX3_blank 22 = .ok (.getfield 11, 3) := by decide +kernel
theorem dX3_blank_25 : decode cX3_blank 25 = .ok (.aload_n 0, 1) := by decide +kernel
theorem dX3_blank_26 : decode cX3_blank 26 = .ok (.getfield 17, 3) := by decide +kernel
theorem dX3_blank_29 : decode cX3_blank 29 = .ok (.aaload, 1) := by decide +kernel
theorem dX3_blank_30 : decode cX3_blank 30 = .ok (.ifnonnull 20, 3) := by decide +kernel
theorem dX3_blank_33 : decode cX3_blank 33 = .ok (.aload_n 0, 1) := by decide +kernel
theorem dX3_blank_34 : decode cX3_blank 34 = .ok (.getfield 11, 3) := by decide +kernel
theorem dX3_blank_37 : decode cX3_blank 37 = .ok (.aload_n 0, 1) := by decide +kernel
theorem dX3_blank_38 : decode cX3_blank 38 = .ok (.getfield 17, 3) := by decide +kernel
theorem dX3_blank_41 : decode cX3_blank 41 = .ok (.new 9, 3) := by decide +kernel
theorem dX3_blank_44 : decode cX3_blank 44 = .ok (.dup, 1) := by decide +kernel
theorem dX3_blank_45 : decode cX3_blank 45 = .ok (.aload_n 1, 1) := by decide +kernel
theorem dX3_blank_46 : decode cX3_blank 46 = .ok (.invokespecial 21, 3) := by decide +kernel
theorem dX3_blank_49 : decode cX3_blank 49 = .ok (.aastore, 1) := by decide +kernel
theorem dX3_blank_50 : decode cX3_blank 50 = .ok (.aload_n 0, 1) := by decide +kernel
theorem dX3_blank_51 : decode cX3_blank 51 = .ok (.getfield 11, 3) := by decide +kernel
theorem dX3_blank_54 : decode cX3_blank 54 = .ok (.aload_n 0, 1) := by decide +kernel
theorem dX3_blank_55 : decode cX3_blank 55 = .ok (.getfield 17, 3) := by decide +kernel
theorem dX3_blank_58 : decode cX3_blank 58 = .ok (.aaload, 1) := by decide +kernel
theorem dX3_blank_59 : decode cX3_blank 59 = .ok (.areturn, 1) := by decide +kernel
theorem dX3_add_0 : decode cX3_add 0 = .ok (.aload_n 0, 1) := by decide +kernel
theorem dX3_add_1 : decode cX3_add 1 = .ok (.getfield 17, 3) := by decide +kernel
theorem dX3_add_4 : decode cX3_add 4 = .ok (.aload_n 0, 1) := by decide +kernel
theorem dX3_add_5 : decode cX3_add 5 = .ok (.getfield 11, 3) := by decide +kernel
theorem dX3_add_8 : decode cX3_add 8 = .ok (.arraylength, 1) := by decide +kernel
theorem dX3_add_9 : decode cX3_add 9 = .ok (.if_icmp .ge 13, 3) := by decide +kernel
theorem dX3_add_12 : decode cX3_add 12 = .ok (.aload_n 0, 1) := by decide +kernel
theorem dX3_add_13 : decode cX3_add 13 = .ok (.dup, 1) := by decide +kernel
theorem dX3_add_14 : decode cX3_add 14 = .ok (.getfield 17, 3) := by decide +kernel
theorem dX3_add_17 : decode cX3_add 17 = .ok (.iconst 1, 1) := by decide +kernel
theorem dX3_add_18 : decode cX3_add 18 = .ok (.iadd, 1) := by decide +kernel
theorem dX3_add_19 : decode cX3_add 19 = .ok (.putfield 17, 3) := by decide +kernel
theorem dX3_add_22 : decode cX3_add 22 = .ok (.return_, 1) := by decide +kernel
set_option maxRecDepth 20000 in
theorem ggX3_remove_X3_at : GoodIn wsX3_remove wsX3_at := goodIn_r _ [7, 1, 2, 8, 9] (by decide +kernel) (by decide +kernel)
set_option maxRecDepth 20000 in
theorem gX3_remove_X3_at : GoodIn wsX3_remove (wsV RX3 24 RX3 yX3_at wsX3_at) := goodIn_app (goodIn_of _ (by decide +kernel)) ggX3_remove_X3_at
theorem dX3_remove_0 : decode cX3_remove 0 = .ok (.aload_n 0, 1) := by decide +kernel
theorem dX3_remove_1 : decode cX3_remove 1 = .ok (.iload_n 1, 1) := by decide +kernel
theorem dX3_remove_2 : decode cX3_remove 2 = .ok (.invokevirtual 24, 3) := by decide +kernel
theorem dX3_remove_5 : decode cX3_remove 5 = .ok (.astore_n 2, 1) := by decide +kernel
theorem dX3_remove_6 : decode cX3_remove 6 = .ok (.aload_n 2, 1) := by decide +kernel
theorem dX3_remove_7 : decode cX3_remove 7 = .ok (.ifnonnull 4, 3) := by decide +kernel
theorem dX3_remove_10 : decode cX3_remove 10 = .ok (.return_, 1) := by decide +kernel
theorem dX3_remove_11 : decode cX3_remove 11 = .ok (.iload_n 1, 1) := by decide +kernel
theorem dX3_remove_12 : decode cX3_remove 12 = .ok (.istore_n 3, 1) := by decide +kernel
theorem dX3_remove_13 : decode cX3_remove 13 = .ok (.iload_n 3, 1) := by decide +kernel
theorem dX3_remove_14 : decode cX3_remove 14 = .ok (.iconst 1, 1) := by decide +kernel
theorem dX3_remove_15 : decode cX3_remove 15 = .ok (.iadd, 1) := by decide +kernel
theorem dX3_remove_16 : decode cX3_remove 16 = .ok (.aload_n 0, 1) := by decide +kernel
theorem dX3_remove_17 : decode cX3_remove 17 = .ok (.getfield 17, 3) := by decide +kernel
theorem dX3_remove_20 : decode cX3_remove 20 = .ok (.if_icmp .ge 34, 3) := by decide +kernel
theorem dX3_remove_23 : decode cX3_remove 23 = .ok (.iload_n 3, 1) := by decide +kernel
theorem dX3_remove_24 : decode cX3_remove 24 = .ok (.iconst 1, 1) := by decide +kernel
theorem dX3_remove_25 : decode cX3_remove 25 = .ok (.iadd, 1) := by decide +kernel
theorem dX3_remove_26 : decode cX3_remove 26 = .ok (.aload_n 0, 1) := by decide +kernel
theorem dX3_remove_27 : decode cX3_remove 27 = .ok (.getfield 11, 3) := by decide +kernel
theorem dX3_remove_30 : decode cX3_remove 30 = .ok (.arraylength, 1) := by decide +kernel
theorem dX3_remove_31 : decode cX3_remove 31 = .ok (.if_icmp .ge 23, 3) := by decide +kernel
theorem dX3_remove_34 : decode cX3_remove 34 = .ok (.aload_n 0, 1) := by decide +kernel
theorem dX3_remove_35 : decode cX3_remove 35 = .ok (.getfield 11, 3) := by decide +kernel
theorem dX3_remove_38 : decode cX3_remove 38 = .ok (.iload_n 3, 1) := by decide +kernel
theorem dX3_remove_39 : decode cX3_remove 39 = .ok (.aload_n 0, 1) := by decide +kernel
theorem dX3_remove_40 : decode cX3_remove 40 = .ok (.getfield 11, 3) := by decide +kernel
theorem dX3_remove_43 : decode cX3_remove 43 = .ok (.iload_n 3, 1) := by decide +kernel
theorem dX3_remove_44 : decode cX3_remove 44 = .ok (.iconst 1, 1) := by decide +kernel
theorem dX3_remove_45 : decode cX3_remove 45 = .ok (.iadd, 1) := by decide +kernel
theorem dX3_remove_46 : decode cX3_remove 46 = .ok (.aaload, 1) := by decide +kernel
theorem dX3_remove_47 : decode cX3_remove 47 = .ok (.aastore, 1) := by decide +kernel
theorem dX3_remove_48 : decode cX3_remove 48 = .ok (.iinc 3 1, 3) := by decide +kernel
theorem dX3_remove_51 : decode cX3_remove 51 = .ok (.goto (-38), 3) := by decide +kernel
theorem dX3_remove_54 : decode cX3_remove 54 = .ok (.aload_n 0, 1) := by decide +kernel
theorem dX3_remove_55 : decode cX3_remove 55 = .ok (.dup, 1) := by decide +kernel
theorem dX3_remove_56 : decode cX3_remove 56 = .ok (.getfield 17, 3) := by decide +kernel
theorem dX3_remove_59 : decode cX3_remove 59 = .ok (.iconst 1, 1) := by decide +kernel
theorem dX3_remove_60 : decode cX3_remove 60 = .ok (.isub, 1) := by decide +kernel
theorem dX3_remove_61 : decode cX3_remove 61 = .ok (.putfield 17, 3) := by decide +kernel
theorem dX3_remove_64 : decode cX3_remove 64 = .ok (.aload_n 0, 1) := by decide +kernel
theorem dX3_remove_65 : decode cX3_remove 65 = .ok (.getfield 11, 3) := by decide +kernel
theorem dX3_remove_68 : decode cX3_remove 68 = .ok (.aload_n 0, 1) := by decide +kernel
theorem dX3_remove_69 : decode cX3_remove 69 = .ok (.getfield 17, 3) := by decide +kernel
theorem dX3_remove_72 : decode cX3_remove 72 = .ok (.aload_n 2, 1) := by decide +kernel
theorem dX3_remove_73 : decode cX3_remove 73 = .ok (.aastore, 1) := by decide +kernel
theorem dX3_remove_74 : decode cX3_remove 74 = .ok (.return_, 1) := by decide +kernel
theorem dX4_init_0 : decode cX4_init 0 = .ok (.aload_n 0, 1) := by decide +kernel
theorem dX4_init_1 : decode cX4_init 1 = .ok (.invokespecial 3, 3) := by decide +kernel
theorem dX4_init_4 : decode cX4_init 4 = .ok (.aload_n 0, 1) := by decide +kernel
theorem dX4_init_5 : decode cX4_init 5 = .ok (.sipush 2610, 3) := by decide +kernel
theorem dX4_init_8 : decode cX4_init 8 = .ok (.newarray .int, 2) := by decide +kernel
theorem dX4_init_10 : decode cX4_init 10 = .ok (.putfield 9, 3) := by decide +kernel
theorem dX4_init_13 : decode cX4_init 13 = .ok (.aload_n 0, 1) := by decide +kernel
theorem dX4_init_14 : decode cX4_init 14 = .ok (.bipush 10, 2) := by decide +kernel
theorem dX4_init_16 : decode cX4_init 16 = .ok (.newarray .int, 2) := by decide +kernel
theorem dX4_init_18 : decode cX4_init 18 = .ok (.putfield 15, 3) := by decide +kernel
theorem dX4_init_21 : decode cX4_init 21 = .ok (.aload_n 0, 1) := by decide +kernel
theorem dX4_init_22 : decode cX4_init 22 = .ok (.bipush 10, 2) := by decide +kernel
theorem dX4_init_24 : decode cX4_init 24 = .ok (.newarray .int, 2) := by decide +kernel
theorem dX4_init_26 : decode cX4_init 26 = .ok (.putfield 18, 3) := by decide +kernel
theorem dX4_init_29 : decode cX4_init 29 = .ok (.return_, 1) := by decide +kernel
set_option maxRecDepth 20000 in
theorem ggX4_beginRound_X4_ringPlace : GoodIn wsX4_beginRound wsX4_ringPlace := goodIn_r _ [9, 2, 10, 11, 12, 13, 14, 15] (by decide +kernel) (by decide +kernel)
set_option maxRecDepth 20000 in
theorem gX4_beginRound_X4_ringPlace : GoodIn wsX4_beginRound (wsV RX4 21 RX4 yX4_ringPlace wsX4_ringPlace) := goodIn_app (goodIn_of _ (by decide +kernel)) ggX4_beginRound_X4_ringPlace
theorem dX4_beginRound_0 : decode cX4_beginRound 0 = .ok (.aload_n 0, 1) := by decide +kernel
theorem dX4_beginRound_1 : decode cX4_beginRound 1 = .ok (.getfield 15, 3) := by decide +kernel
theorem dX4_beginRound_4 : decode cX4_beginRound 4 = .ok (.bipush 9, 2) := by decide +kernel
theorem dX4_beginRound_6 : decode cX4_beginRound 6 = .ok (.iaload, 1) := by decide +kernel
theorem dX4_beginRound_7 : decode cX4_beginRound 7 = .ok (.istore_n 1, 1) := by decide +kernel
theorem dX4_beginRound_8 : decode cX4_beginRound 8 = .ok (.aload_n 0, 1) := by decide +kernel
theorem dX4_beginRound_9 : decode cX4_beginRound 9 = .ok (.aload_n 0, 1) := by decide +kernel
theorem dX4_beginRound_10 : decode cX4_beginRound 10 = .ok (.iload_n 1, 1) := by decide +kernel
theorem dX4_beginRound_11 : decode cX4_beginRound 11 = .ok (.invokevirtual 21, 3) := by decide +kernel
theorem dX4_beginRound_14 : decode cX4_beginRound 14 = .ok (.putfield 25, 3) := by decide +kernel
theorem dX4_beginRound_17 : decode cX4_beginRound 17 = .ok (.aload_n 0, 1) := by decide +kernel
theorem dX4_beginRound_18 : decode cX4_beginRound 18 = .ok (.dup, 1) := by decide +kernel
theorem dX4_beginRound_19 : decode cX4_beginRound 19 = .ok (.getfield 29, 3) := by decide +kernel
theorem dX4_beginRound_22 : decode cX4_beginRound 22 = .ok (.iload_n 1, 1) := by decide +kernel
theorem dX4_beginRound_23 : decode cX4_beginRound 23 = .ok (.isub, 1) := by decide +kernel
theorem dX4_beginRound_24 : decode cX4_beginRound 24 = .ok (.putfield 29, 3) := by decide +kernel
theorem dX4_beginRound_27 : decode cX4_beginRound 27 = .ok (.bipush 9, 2) := by decide +kernel
theorem dX4_beginRound_29 : decode cX4_beginRound 29 = .ok (.istore_n 2, 1) := by decide +kernel
theorem dX4_beginRound_30 : decode cX4_beginRound 30 = .ok (.iload_n 2, 1) := by decide +kernel
theorem dX4_beginRound_31 : decode cX4_beginRound 31 = .ok (.ifCond .le 37, 3) := by decide +kernel
theorem dX4_beginRound_34 : decode cX4_beginRound 34 = .ok (.aload_n 0, 1) := by decide +kernel
theorem dX4_beginRound_35 : decode cX4_beginRound 35 = .ok (.getfield 15, 3) := by decide +kernel
theorem dX4_beginRound_38 : decode cX4_beginRound 38 = .ok (.iload_n 2, 1) := by decide +kernel
theorem dX4_beginRound_39 : decode cX4_beginRound 39 = .ok (.aload_n 0, 1) := by decide +kernel
theorem dX4_beginRound_40 : decode cX4_beginRound 40 = .ok (.getfield 15, 3) := by decide +kernel
theorem dX4_beginRound_43 : decode cX4_beginRound 43 = .ok (.iload_n 2, 1) := by decide +kernel
theorem dX4_beginRound_44 : decode cX4_beginRound 44 = .ok (.iconst 1, 1) := by decide +kernel
theorem dX4_beginRound_45 : decode cX4_beginRound 45 = .ok (.isub, 1) := by decide +kernel
theorem dX4_beginRound_46 : decode cX4_beginRound 46 = .ok (.iaload, 1) := by decide +kernel
theorem dX4_beginRound_47 : decode cX4_beginRound 47 = .ok (.iastore, 1) := by decide +kernel
theorem dX4_beginRound_48 : decode cX4_beginRound 48 = .ok (.aload_n 0, 1) := by decide +kernel
theorem dX4_beginRound_49 : decode cX4_beginRound 49 = .ok (.getfield 18, 3) := by decide +kernel
theorem dX4_beginRound_52 : decode cX4_beginRound 52 = .ok (.iload_n 2, 1) := by decide +kernel
theorem dX4_beginRound_53 : decode cX4_beginRound 53 = .ok (.aload_n 0, 1) := by decide +kernel
theorem dX4_beginRound_54 : decode cX4_beginRound 54 = .ok (.getfield 18, 3) := by decide +kernel
theorem dX4_beginRound_57 : decode cX4_beginRound 57 = .ok (.iload_n 2, 1) := by decide +kernel
theorem dX4_beginRound_58 : decode cX4_beginRound 58 = .ok (.iconst 1, 1) := by decide +kernel
theorem dX4_beginRound_59 : decode cX4_beginRound 59 = .ok (.isub, 1) := by decide +kernel
theorem dX4_beginRound_60 : decode cX4_beginRound 60 = .ok (.iaload, 1) := by decide +kernel
theorem dX4_beginRound_61 : decode cX4_beginRound 61 = .ok (.iastore, 1) := by decide +kernel
theorem dX4_beginRound_62 : decode cX4_beginRound 62 = .ok (.iinc 2 (-1), 3) := by decide +kernel
theorem dX4_beginRound_65 : decode cX4_beginRound 65 = .ok (.goto (-35), 3) := by decide +kernel
theorem dX4_beginRound_68 : decode cX4_beginRound 68 = .ok (.aload_n 0, 1) := by decide +kernel
theorem dX4_beginRound_69 : decode cX4_beginRound 69 = .ok (.getfield 15, 3) := by decide +kernel
theorem dX4_beginRound_72 : decode cX4_beginRound 72 = .ok (.iconst 0, 1) := by decide +kernel
theorem dX4_beginRound_73 : decode cX4_beginRound 73 = .ok (.iconst 0, 1) := by decide +kernel
theorem dX4_beginRound_74 : decode cX4_beginRound 74 = .ok (.iastore, 1) := by decide +kernel
theorem dX4_beginRound_75 : decode cX4_beginRound 75 = .ok (.aload_n 0, 1) := by decide +kernel
theorem dX4_beginRound_76 : decode cX4_beginRound 76 = .ok (.getfield 18, 3) := by decide +kernel
theorem dX4_beginRound_79 : decode cX4_beginRound 79 = .ok (.iconst 0, 1) := by decide +kernel
theorem dX4_beginRound_80 : decode cX4_beginRound 80 = .ok (.iconst 0, 1) := by decide +kernel
theorem dX4_beginRound_81 : decode cX4_beginRound 81 = .ok (.iastore, 1) := by decide +kernel
theorem dX4_beginRound_82 : decode cX4_beginRound 82 = .ok (.return_, 1) := by decide +kernel
set_option maxRecDepth 20000 in
theorem ggX4_keep_X4_ringPlace : GoodIn wsX4_keep wsX4_ringPlace := goodIn_r _ [13, 14, 2, 15, 16, 17, 18, 19] (by decide +kernel) (by decide +kernel)
set_option maxRecDepth 20000 in
theorem gX4_keep_X4_ringPlace : GoodIn wsX4_keep (wsV RX4 21 RX4 yX4_ringPlace wsX4_ringPlace) := goodIn_app (goodIn_of _ (by decide +kernel)) ggX4_keep_X4_ringPlace
theorem dX4_keep_0 : decode cX4_keep 0 = .ok (.aload_n 0, 1) := by decide +kernel
theorem dX4_keep_1 : decode cX4_keep 1 = .ok (.aload_n 0, 1) := by decide +kernel
theorem dX4_keep_2 : decode cX4_keep 2 = .ok (.getfield 29, 3) := by decide +kernel
theorem dX4_keep_5 : decode cX4_keep 5 = .ok (.invokevirtual 21, 3) := by decide +kernel
theorem dX4_keep_8 : decode cX4_keep 8 = .ok (.istore_n 2, 1) := by decide +kernel
theorem dX4_keep_9 : decode cX4_keep 9 = .ok (.aload_n 0, 1) := by decide +kernel
theorem dX4_keep_10 : decode cX4_keep 10 = .ok (.getfield 29, 3) := by decide +kernel
theorem dX4_keep_13 : decode cX4_keep 13 = .ok (.aload_n 0, 1) := by decide +kernel
theorem dX4_keep_14 : decode cX4_keep 14 = .ok (.getfield 9, 3) := by decide +kernel
theorem dX4_keep_17 : decode cX4_keep 17 = .ok (.arraylength, 1) := by decide +kernel
theorem dX4_keep_18 : decode cX4_keep 18 = .ok (.if_icmp .ge 16, 3) := by decide +kernel
theorem dX4_keep_21 : decode cX4_keep 21 = .ok (.iload_n 2, 1) := by decide +kernel
theorem dX4_keep_22 : decode cX4_keep 22 = .ok (.ifCond .lt 12, 3) := by decide +kernel
theorem dX4_keep_25 : decode cX4_keep 25 = .ok (.iload_n 2, 1) := by decide +kernel
theorem dX4_keep_26 : decode cX4_keep 26 = .ok (.aload_n 0, 1) := by decide +kernel
theorem dX4_keep_27 : decode cX4_keep 27 = .ok (.getfield 9, 3) := by decide +kernel
theorem dX4_keep_30 : decode cX4_keep 30 = .ok (.arraylength, 1) := by decide +kernel
theorem dX4_keep_31 : decode cX4_keep 31 = .ok (.if_icmp .lt 4, 3) := by decide +kernel
theorem dX4_keep_34 : decode cX4_keep 34 = .ok (.return_, 1) := by decide +kernel
theorem dX4_keep_35 : decode cX4_keep 35 = .ok (.aload_n 0, 1) := by decide +kernel
theorem dX4_keep_36 : decode cX4_keep 36 = .ok (.getfield 9, 3) := by decide +kernel
theorem dX4_keep_39 : decode cX4_keep 39 = .ok (.iload_n 2, 1) := by decide +kernel
theorem dX4_keep_40 : decode cX4_keep 40 = .ok (.iload_n 1, 1) := by decide +kernel
theorem dX4_keep_41 : decode cX4_keep 41 = .ok (.iastore, 1) := by decide +kernel
theorem dX4_keep_42 : decode cX4_keep 42 = .ok (.aload_n 0, 1) := by decide +kernel
theorem dX4_keep_43 : decode cX4_keep 43 = .ok (.dup, 1) := by decide +kernel
theorem dX4_keep_44 : decode cX4_keep 44 = .ok (.getfield 29, 3) := by decide +kernel
theorem dX4_keep_47 : decode cX4_keep 47 = .ok (.iconst 1, 1) := by decide +kernel
theorem dX4_keep_48 : decode cX4_keep 48 = .ok (.iadd, 1) := by decide +kernel
theorem dX4_keep_49 : decode cX4_keep 49 = .ok (.putfield 29, 3) := by decide +kernel
theorem dX4_keep_52 : decode cX4_keep 52 = .ok (.aload_n 0, 1) := by decide +kernel
theorem dX4_keep_53 : decode cX4_keep 53 = .ok (.getfield 15, 3) := by decide +kernel
theorem dX4_keep_56 : decode cX4_keep 56 = .ok (.iconst 0, 1) := by decide +kernel
theorem dX4_keep_57 : decode cX4_keep 57 = .ok (.dup2, 1) := by decide +kernel
theorem dX4_keep_58 : decode cX4_keep 58 = .ok (.iaload, 1) := by decide +kernel
theorem dX4_keep_59 : decode cX4_keep 59 = .ok (.iconst 1, 1) := by decide +kernel
theorem dX4_keep_60 : decode cX4_keep 60 = .ok (.iadd, 1) := by decide +kernel
theorem dX4_keep_61 : decode cX4_keep 61 = .ok (.iastore, 1) := by decide +kernel
theorem dX4_keep_62 : decode cX4_keep 62 = .ok (.aload_n 0, 1) := by decide +kernel
theorem dX4_keep_63 : decode cX4_keep 63 = .ok (.getfield 18, 3) := by decide +kernel
theorem dX4_keep_66 : decode cX4_keep 66 = .ok (.iconst 0, 1) := by decide +kernel
theorem dX4_keep_67 : decode cX4_keep 67 = .ok (.aload_n 0, 1) := by decide +kernel
theorem dX4_keep_68 : decode cX4_keep 68 = .ok (.getfield 18, 3) := by decide +kernel
theorem dX4_keep_71 : decode cX4_keep 71 = .ok (.iconst 0, 1) := by decide +kernel
theorem dX4_keep_72 : decode cX4_keep 72 = .ok (.iaload, 1) := by decide +kernel
theorem dX4_keep_73 : decode cX4_keep 73 = .ok (.iload_n 1, 1) := by decide +kernel
theorem dX4_keep_74 : decode cX4_keep 74 = .ok (.invokestatic 32, 3) := by decide +kernel
theorem dX4_keep_77 : decode cX4_keep 77 = .ok (.iastore, 1) := by decide +kernel
theorem dX4_keep_78 : decode cX4_keep 78 = .ok (.return_, 1) := by decide +kernel
set_option maxRecDepth 20000 in
theorem ggX4_greatestOfAll_X4_greatestOfLast : GoodIn wsX4_greatestOfAll wsX4_greatestOfLast := goodIn_r _ [9, 10, 11, 1, 2, 3, 4, 12, 13, 14, 15, 16] (by decide +kernel) (by decide +kernel)
set_option maxRecDepth 20000 in
theorem gX4_greatestOfAll_X4_greatestOfLast : GoodIn wsX4_greatestOfAll (wsV RX4 38 RX4 yX4_greatestOfLast wsX4_greatestOfLast) := goodIn_app (goodIn_of _ (by decide +kernel)) ggX4_greatestOfAll_X4_greatestOfLast
theorem dX4_greatestOfAll_0 : decode cX4_greatestOfAll 0 = .ok (.iconst 0, 1) := by decide +kernel
theorem dX4_greatestOfAll_1 : decode cX4_greatestOfAll 1 = .ok (.aload_n 0, 1) := by decide +kernel
theorem dX4_greatestOfAll_2 : decode cX4_greatestOfAll 2 = .ok (.bipush 10, 2) := by decide +kernel
theorem dX4_greatestOfAll_4 : decode cX4_greatestOfAll 4 = .ok (.invokevirtual 38, 3) := by decide +kernel
theorem dX4_greatestOfAll_7 : decode cX4_greatestOfAll 7 = .ok (.invokestatic 32, 3) := by decide +kernel
theorem dX4_greatestOfAll_10 : decode cX4_greatestOfAll 10 = .ok (.ireturn, 1) := by decide +kernel
theorem dX4_greatestOfLast_0 : decode cX4_greatestOfLast 0 = .ok (.bipush (-9), 2) := by decide +kernel
theorem dX4_greatestOfLast_2 : decode cX4_greatestOfLast 2 = .ok (.istore_n 2, 1) := by decide +kernel
theorem dX4_greatestOfLast_3 : decode cX4_greatestOfLast 3 = .ok (.iconst 0, 1) := by decide +kernel
theorem dX4_greatestOfLast_4 : decode cX4_greatestOfLast 4 = .ok (.istore_n 3, 1) := by decide +kernel
theorem dX4_greatestOfLast_5 : decode cX4_greatestOfLast 5 = .ok (.iload_n 3, 1) := by decide +kernel
theorem dX4_greatestOfLast_6 : decode cX4_greatestOfLast 6 = .ok (.iload_n 1, 1) := by decide +kernel
theorem dX4_greatestOfLast_7 : decode cX4_greatestOfLast 7 = .ok (.if_icmp .ge 35, 3) := by decide +kernel
theorem dX4_greatestOfLast_10 : decode cX4_greatestOfLast 10 = .ok (.iload_n 3, 1) := by decide +kernel
theorem dX4_greatestOfLast_11 : decode cX4_greatestOfLast 11 = .ok (.bipush 10, 2) := by decide +kernel
theorem dX4_greatestOfLast_13 : decode cX4_greatestOfLast 13 = .ok (.if_icmp .ge 29, 3) := by decide +kernel
theorem dX4_greatestOfLast_16 : decode cX4_greatestOfLast 16 = .ok (.aload_n 0, 1) := by decide +kernel
theorem dX4_greatestOfLast_17 : decode cX4_greatestOfLast 17 = .ok (.getfield 15, 3) := by decide +kernel
theorem dX4_greatestOfLast_20 : decode cX4_greatestOfLast 20 = .ok (.iload_n 3, 1) := by decide +kernel
theorem dX4_greatestOfLast_21 : decode cX4_greatestOfLast 21 = .ok (.iaload, 1) := by decide +kernel
theorem dX4_greatestOfLast_22 : decode cX4_greatestOfLast 22 = .ok (.ifCond .le 14, 3) := by decide +kernel
theorem dX4_greatestOfLast_25 : decode cX4_greatestOfLast 25 = .ok (.iload_n 2, 1) := by decide +kernel
theorem dX4_greatestOfLast_26 : decode cX4_greatestOfLast 26 = .ok (.aload_n 0, 1) := by decide +kernel
theorem dX4_greatestOfLast_27 : decode cX4_greatestOfLast 27 = .ok (.getfield 18, 3) := by decide +kernel
theorem dX4_greatestOfLast_30 : decode cX4_greatestOfLast 30 = .ok (.iload_n 3, 1) := by decide +kernel
theorem dX4_greatestOfLast_31 : decode cX4_greatestOfLast 31 = .ok (.iaload, 1) := by decide +kernel
theorem dX4_greatestOfLast_32 : decode cX4_greatestOfLast 32 = .ok (.invokestatic 32, 3) := by decide +kernel
theorem dX4_greatestOfLast_35 : decode cX4_greatestOfLast 35 = .ok (.istore_n 2, 1) := by decide +kernel
theorem dX4_greatestOfLast_36 : decode cX4_greatestOfLast 36 = .ok (.iinc 3 1, 3) := by decide +kernel
theorem dX4_greatestOfLast_39 : decode cX4_greatestOfLast 39 = .ok (.goto (-34), 3) := by decide +kernel
theorem dX4_greatestOfLast_42 : decode cX4_greatestOfLast 42 = .ok (.iload_n 2, 1) := by decide +kernel
theorem dX4_greatestOfLast_43 : decode cX4_greatestOfLast 43 = .ok (.ireturn, 1) := by decide +kernel
set_option maxRecDepth 20000 in
theorem ggX4_rateOf_X4_ringPlace : GoodIn wsX4_rateOf wsX4_ringPlace := goodIn_r _ [6, 7, 1, 8, 9, 10, 11, 12] (by decide +kernel) (by decide +kernel)
set_option maxRecDepth 20000 in
theorem gX4_rateOf_X4_ringPlace : GoodIn wsX4_rateOf (wsV RX4 21 RX4 yX4_ringPlace wsX4_ringPlace) := goodIn_app (goodIn_of _ (by decide +kernel)) ggX4_rateOf_X4_ringPlace
theorem dX4_rateOf_0 : decode cX4_rateOf 0 = .ok (.aload_n 0, 1) := by decide +kernel
theorem dX4_rateOf_1 : decode cX4_rateOf 1 = .ok (.iload_n 1, 1) := by decide +kernel
theorem dX4_rateOf_2 : decode cX4_rateOf 2 = .ok (.invokevirtual 21, 3) := by decide +kernel
theorem dX4_rateOf_5 : decode cX4_rateOf 5 = .ok (.istore_n 2, 1) := by decide +kernel
theorem dX4_rateOf_6 : decode cX4_rateOf 6 = .ok (.iload_n 2, 1) := by decide +kernel
theorem dX4_rateOf_7 : decode cX4_rateOf 7 = .ok (.ifCond .lt 21, 3) := by decide +kernel
theorem dX4_rateOf_10 : decode cX4_rateOf 10 = .ok (.iload_n 2, 1) := by decide +kernel
theorem dX4_rateOf_11 : decode cX4_rateOf 11 = .ok (.aload_n 0, 1) := by decide +kernel
theorem dX4_rateOf_12 : decode cX4_rateOf 12 = .ok (.getfield 9, 3) := by decide +kernel
theorem dX4_rateOf_15 : decode cX4_rateOf 15 = .ok (.arraylength, 1) := by decide +kernel
theorem dX4_rateOf_16 : decode cX4_rateOf 16 = .ok (.if_icmp .ge 12, 3) := by decide +kernel
theorem dX4_rateOf_19 : decode cX4_rateOf 19 = .ok (.aload_n 0, 1) := by decide +kernel
theorem dX4_rateOf_20 : decode cX4_rateOf 20 = .ok (.getfield 9, 3) := by decide +kernel
theorem dX4_rateOf_23 : decode cX4_rateOf 23 = .ok (.iload_n 2, 1) := by decide +kernel
theorem dX4_rateOf_24 : decode cX4_rateOf 24 = .ok (.iaload, 1) := by decide +kernel
theorem dX4_rateOf_25 : decode cX4_rateOf 25 = .ok (.goto 4, 3) := by decide +kernel
theorem dX4_rateOf_28 : decode cX4_rateOf 28 = .ok (.iconst (-1), 1) := by decide +kernel
theorem dX4_rateOf_29 : decode cX4_rateOf 29 = .ok (.ireturn, 1) := by decide +kernel
theorem dX4_roundsOf_0 : decode cX4_roundsOf 0 = .ok (.iconst 0, 1) := by decide +kernel
theorem dX4_roundsOf_1 : decode cX4_roundsOf 1 = .ok (.istore_n 3, 1) := by decide +kernel
theorem dX4_roundsOf_2 : decode cX4_roundsOf 2 = .ok (.bipush 9, 2) := by decide +kernel
theorem dX4_roundsOf_4 : decode cX4_roundsOf 4 = .ok (.istore 4, 2) := by decide +kernel
theorem dX4_roundsOf_6 : decode cX4_roundsOf 6 = .ok (.iload 4, 2) := by decide +kernel
theorem dX4_roundsOf_8 : decode cX4_roundsOf 8 = .ok (.ifCond .lt 29, 3) := by decide +kernel
theorem dX4_roundsOf_11 : decode cX4_roundsOf 11 = .ok (.iload_n 3, 1) := by decide +kernel
theorem dX4_roundsOf_12 : decode cX4_roundsOf 12 = .ok (.aload_n 0, 1) := by decide +kernel
theorem dX4_roundsOf_13 : decode cX4_roundsOf 13 = .ok (.getfield 15, 3) := by decide +kernel
theorem dX4_roundsOf_16 : decode cX4_roundsOf 16 = .ok (.iload 4, 2) := by decide +kernel
theorem dX4_roundsOf_18 : decode cX4_roundsOf 18 = .ok (.iaload, 1) := by decide +kernel
theorem dX4_roundsOf_19 : decode cX4_roundsOf 19 = .ok (.iadd, 1) := by decide +kernel
theorem dX4_roundsOf_20 : decode cX4_roundsOf 20 = .ok (.istore_n 3, 1) := by decide +kernel
theorem dX4_roundsOf_21 : decode cX4_roundsOf 21 = .ok (.iload_n 1, 1) := by decide +kernel
theorem dX4_roundsOf_22 : decode cX4_roundsOf 22 = .ok (.iload_n 3, 1) := by decide +kernel
theorem dX4_roundsOf_23 : decode cX4_roundsOf 23 = .ok (.if_icmp .ge 8, 3) := by decide +kernel
theorem dX4_roundsOf_26 : decode cX4_roundsOf 26 = .ok (.iload_n 2, 1) := by decide +kernel
theorem dX4_roundsOf_27 : decode cX4_roundsOf 27 = .ok (.iload 4, 2) := by decide +kernel
theorem dX4_roundsOf_29 : decode cX4_roundsOf 29 = .ok (.isub, 1) := by decide +kernel
theorem dX4_roundsOf_30 : decode cX4_roundsOf 30 = .ok (.ireturn, 1) := by decide +kernel
theorem dX4_roundsOf_31 : decode cX4_roundsOf 31 = .ok (.iinc 4 (-1), 3) := by decide +kernel
theorem dX4_roundsOf_34 : decode cX4_roundsOf 34 = .ok (.goto (-28), 3) := by decide +kernel
theorem dX4_roundsOf_37 : decode cX4_roundsOf 37 = .ok (.iconst (-1), 1) := by decide +kernel
theorem dX4_roundsOf_38 : decode cX4_roundsOf 38 = .ok (.ireturn, 1) := by decide +kernel
theorem dX4_ringPlace_0 : decode cX4_ringPlace 0 = .ok (.aload_n 0, 1) := by decide +kernel
theorem dX4_ringPlace_1 : decode cX4_ringPlace 1 = .ok (.getfield 25, 3) := by decide +kernel
theorem dX4_ringPlace_4 : decode cX4_ringPlace 4 = .ok (.iload_n 1, 1) := by decide +kernel
theorem dX4_ringPlace_5 : decode cX4_ringPlace 5 = .ok (.iadd, 1) := by decide +kernel
theorem dX4_ringPlace_6 : decode cX4_ringPlace 6 = .ok (.istore_n 2, 1) := by decide +kernel
theorem dX4_ringPlace_7 : decode cX4_ringPlace 7 = .ok (.iload_n 2, 1) := by decide +kernel
theorem dX4_ringPlace_8 : decode cX4_ringPlace 8 = .ok (.aload_n 0, 1) := by decide +kernel
theorem dX4_ringPlace_9 : decode cX4_ringPlace 9 = .ok (.getfield 9, 3) := by decide +kernel
theorem dX4_ringPlace_12 : decode cX4_ringPlace 12 = .ok (.arraylength, 1) := by decide +kernel
theorem dX4_ringPlace_13 : decode cX4_ringPlace 13 = .ok (.if_icmp .lt 13, 3) := by decide +kernel
theorem dX4_ringPlace_16 : decode cX4_ringPlace 16 = .ok (.iload_n 2, 1) := by decide +kernel
theorem dX4_ringPlace_17 : decode cX4_ringPlace 17 = .ok (.aload_n 0, 1) := by decide +kernel
theorem dX4_ringPlace_18 : decode cX4_ringPlace 18 = .ok (.getfield 9, 3) := by decide +kernel
theorem dX4_ringPlace_21 : decode cX4_ringPlace 21 = .ok (.arraylength, 1) := by decide +kernel
theorem dX4_ringPlace_22 : decode cX4_ringPlace 22 = .ok (.isub, 1) := by decide +kernel
theorem dX4_ringPlace_23 : decode cX4_ringPlace 23 = .ok (.goto 4, 3) := by decide +kernel
theorem dX4_ringPlace_26 : decode cX4_ringPlace 26 = .ok (.iload_n 2, 1) := by decide +kernel
theorem dX4_ringPlace_27 : decode cX4_ringPlace 27 = .ok (.ireturn, 1) := by decide +kernel
set_option maxRecDepth 20000 in
theorem ggX5_init_X3_init : GoodIn wsX5_init wsX3_init := goodIn_r _ [18, 19, 2, 3, 20, 21, 36, 37] (by decide +kernel) (by decide +kernel)
set_option maxRecDepth 20000 in
theorem gX5_init_X3_init_n11 : GoodIn wsX5_init (wsX3_init) := ggX5_init_X3_init
set_option maxRecDepth 20000 in
theorem ggX5_init_X4_init : GoodIn wsX5_init wsX4_init := goodIn_r _ [23, 24, 2, 3, 25, 26, 27, 28, 54, 55, 56, 57, 58] (by decide +kernel) (by decide +kernel)
set_option maxRecDepth 20000 in
theorem gX5_init_X4_init_n20 : GoodIn wsX5_init (wsX4_init) := ggX5_init_X4_init
set_option maxRecDepth 20000 in
theorem ggX5_init_X0_init : GoodIn wsX5_init wsX0_init := goodIn_r _ [30, 31, 2, 3, 32, 33, 25, 34, 35, 59, 60, 61, 62, 63, 64, 65, 66, 67, 68, 69, 70] (by decide +kernel) (by decide +kernel)
set_option maxRecDepth 20000 in
theorem gX5_init_X0_init_n27 : GoodIn wsX5_init (wsX0_init) := ggX5_init_X0_init
theorem dX5_init_0 : decode cX5_init 0 = .ok (.aload_n 0, 1) := by decide +kernel
theorem dX5_init_1 : decode cX5_init 1 = .ok (.invokespecial 3, 3) := by decide +kernel
theorem dX5_init_4 : decode cX5_init 4 = .ok (.aload_n 0, 1) := by decide +kernel
theorem dX5_init_5 : decode cX5_init 5 = .ok (.new 9, 3) := by decide +kernel
theorem dX5_init_8 : decode cX5_init 8 = .ok (.dup, 1) := by decide +kernel
theorem dX5_init_9 : decode cX5_init 9 = .ok (.invokespecial 11, 3) := by decide +kernel
theorem dX5_init_12 : decode cX5_init 12 = .ok (.putfield 12, 3) := by decide +kernel
theorem dX5_init_15 : decode cX5_init 15 = .ok (.aload_n 0, 1) := by decide +kernel
theorem dX5_init_16 : decode cX5_init 16 = .ok (.new 18, 3) := by decide +kernel
theorem dX5_init_19 : decode cX5_init 19 = .ok (.dup, 1) := by decide +kernel
theorem dX5_init_20 : decode cX5_init 20 = .ok (.invokespecial 20, 3) := by decide +kernel
theorem dX5_init_23 : decode cX5_init 23 = .ok (.putfield 21, 3) := by decide +kernel
theorem dX5_init_26 : decode cX5_init 26 = .ok (.aload_n 0, 1) := by decide +kernel
theorem dX5_init_27 : decode cX5_init 27 = .ok (.new 25, 3) := by decide +kernel
theorem dX5_init_30 : decode cX5_init 30 = .ok (.dup, 1) := by decide +kernel
theorem dX5_init_31 : decode cX5_init 31 = .ok (.invokespecial 27, 3) := by decide +kernel
theorem dX5_init_34 : decode cX5_init 34 = .ok (.putfield 28, 3) := by decide +kernel
theorem dX5_init_37 : decode cX5_init 37 = .ok (.aload_n 0, 1) := by decide +kernel
theorem dX5_init_38 : decode cX5_init 38 = .ok (.bipush (-9), 2) := by decide +kernel
theorem dX5_init_40 : decode cX5_init 40 = .ok (.putfield 32, 3) := by decide +kernel
theorem dX5_init_43 : decode cX5_init 43 = .ok (.return_, 1) := by decide +kernel
theorem dX5_product_0 : decode cX5_product 0 = .ok (.aload_n 0, 1) := by decide +kernel
theorem dX5_product_1 : decode cX5_product 1 = .ok (.getfield 32, 3) := by decide +kernel
theorem dX5_product_4 : decode cX5_product 4 = .ok (.bipush (-9), 2) := by decide +kernel
theorem dX5_product_6 : decode cX5_product 6 = .ok (.if_icmp .ne 7, 3) := by decide +kernel
theorem dX5_product_9 : decode cX5_product 9 = .ok (.lconst 0, 1) := by decide +kernel
theorem dX5_product_10 : decode cX5_product 10 = .ok (.goto 18, 3) := by decide +kernel
theorem dX5_product_13 : decode cX5_product 13 = .ok (.aload_n 0, 1) := by decide +kernel
theorem dX5_product_14 : decode cX5_product 14 = .ok (.getfield 36, 3) := by decide +kernel
theorem dX5_product_17 : decode cX5_product 17 = .ok (.i2l, 1) := by decide +kernel
theorem dX5_product_18 : decode cX5_product 18 = .ok (.aload_n 0, 1) := by decide +kernel
theorem dX5_product_19 : decode cX5_product 19 = .ok (.getfield 32, 3) := by decide +kernel
theorem dX5_product_22 : decode cX5_product 22 = .ok (.i2l, 1) := by decide +kernel
theorem dX5_product_23 : decode cX5_product 23 = .ok (.lmul, 1) := by decide +kernel
theorem dX5_product_24 : decode cX5_product 24 = .ok (.ldc2_w 39, 3) := by decide +kernel
theorem dX5_product_27 : decode cX5_product 27 = .ok (.ldiv, 1) := by decide +kernel
theorem dX5_product_28 : decode cX5_product 28 = .ok (.lreturn, 1) := by decide +kernel
set_option maxRecDepth 20000 in
theorem ggX5_window_X5_product : GoodIn wsX5_window wsX5_product := goodIn_r _ [18, 5, 4, 19, 20, 21, 22, 23, 24, 25, 26, 27, 28, 29, 30, 31, 32, 33, 34, 35] (by decide +kernel) (by decide +kernel)
set_option maxRecDepth 20000 in
theorem gX5_window_X5_product : GoodIn wsX5_window (wsV RX5 50 RX5 yX5_product wsX5_product) := goodIn_app (goodIn_of _ (by decide +kernel)) ggX5_window_X5_product
theorem dX5_window_0 : decode cX5_window 0 = .ok (.aload_n 0, 1) := by decide +kernel
theorem dX5_window_1 : decode cX5_window 1 = .ok (.getfield 28, 3) := by decide +kernel
theorem dX5_window_4 : decode cX5_window 4 = .ok (.getfield 41, 3) := by decide +kernel
theorem dX5_window_7 : decode cX5_window 7 = .ok (.iconst 3, 1) := by decide +kernel
theorem dX5_window_8 : decode cX5_window 8 = .ok (.if_icmp .ne 7, 3) := by decide +kernel
theorem dX5_window_11 : decode cX5_window 11 = .ok (.ldc2_w 44, 3) := by decide +kernel
theorem dX5_window_14 : decode cX5_window 14 = .ok (.lreturn, 1) := by decide +kernel
theorem dX5_window_15 : decode cX5_window 15 = .ok (.aload_n 0, 1) := by decide +kernel
theorem dX5_window_16 : decode cX5_window 16 = .ok (.getfield 36, 3) := by decide +kernel
theorem dX5_window_19 : decode cX5_window 19 = .ok (.ifCond .eq 12, 3) := by decide +kernel
theorem dX5_window_22 : decode cX5_window 22 = .ok (.aload_n 0, 1) := by decide +kernel
theorem dX5_window_23 : decode cX5_window 23 = .ok (.getfield 32, 3) := by decide +kernel
theorem dX5_window_26 : decode cX5_window 26 = .ok (.bipush (-9), 2) := by decide +kernel
theorem dX5_window_28 : decode cX5_window 28 = .ok (.if_icmp .ne 7, 3) := by decide +kernel
theorem dX5_window_31 : decode cX5_window 31 = .ok (.ldc2_w 46, 3) := by decide +kernel
theorem dX5_window_34 : decode cX5_window 34 = .ok (.lreturn, 1) := by decide +kernel
theorem dX5_window_35 : decode cX5_window 35 = .ok (.aload_n 0, 1) := by decide +kernel
theorem dX5_window_36 : decode cX5_window 36 = .ok (.getfield 28, 3) := by decide +kernel
theorem dX5_window_39 : decode cX5_window 39 = .ok (.getfield 41, 3) := by decide +kernel
theorem dX5_window_42 : decode cX5_window 42 = .ok (.iconst 2, 1) := by decide +kernel
theorem dX5_window_43 : decode cX5_window 43 = .ok (.if_icmp .ne 14, 3) := by decide +kernel
theorem dX5_window_46 : decode cX5_window 46 = .ok (.ldc2_w 48, 3) := by decide +kernel
theorem dX5_window_49 : decode cX5_window 49 = .ok (.aload_n 0, 1) := by decide +kernel
theorem dX5_window_50 : decode cX5_window 50 = .ok (.invokevirtual 50, 3) := by decide +kernel
theorem dX5_window_53 : decode cX5_window 53 = .ok (.lmul, 1) := by decide +kernel
theorem dX5_window_54 : decode cX5_window 54 = .ok (.goto 15, 3) := by decide +kernel
theorem dX5_window_57 : decode cX5_window 57 = .ok (.ldc2_w 54, 3) := by decide +kernel
theorem dX5_window_60 : decode cX5_window 60 = .ok (.aload_n 0, 1) := by decide +kernel
theorem dX5_window_61 : decode cX5_window 61 = .ok (.invokevirtual 50, 3) := by decide +kernel
theorem dX5_window_64 : decode cX5_window 64 = .ok (.lmul, 1) := by decide +kernel
theorem dX5_window_65 : decode cX5_window 65 = .ok (.ldc2_w 56, 3) := by decide +kernel
theorem dX5_window_68 : decode cX5_window 68 = .ok (.ldiv, 1) := by decide +kernel
theorem dX5_window_69 : decode cX5_window 69 = .ok (.lstore_n 1, 1) := by decide +kernel
theorem dX5_window_70 : decode cX5_window 70 = .ok (.ldc2_w 44, 3) := by decide +kernel
theorem dX5_window_73 : decode cX5_window 73 = .ok (.lload_n 1, 1) := by decide +kernel
theorem dX5_window_74 : decode cX5_window 74 = .ok (.invokestatic 58, 3) := by decide +kernel
theorem dX5_window_77 : decode cX5_window 77 = .ok (.lreturn, 1) := by decide +kernel
set_option maxRecDepth 20000 in
theorem ggX5_sendAll_X5_window : GoodIn wsX5_sendAll wsX5_window := goodIn_r _ [14, 15, 16, 17, 18, 19, 20, 21, 22, 23, 24, 25, 7, 26, 27, 28, 29, 13, 30, 31, 101, 102, 103, 104, 105, 106, 107, 108, 109, 110, 111, 112, 113, 114, 115, 116, 119, 120, 121, 122, 123, 124, 125, 126, 127, 128, 129, 130] (by decide +kernel) (by decide +kernel)
set_option maxRecDepth 20000 in
theorem gX5_sendAll_X5_window : GoodIn wsX5_sendAll (wsV RX5 64 RX5 yX5_window wsX5_window) := goodIn_app (goodIn_of _ (by decide +kernel)) ggX5_sendAll_X5_window
set_option maxRecDepth 20000 in
theorem ggX5_sendAll_X5_isFree : GoodIn wsX5_sendAll wsX5_isFree := goodIn_r _ [35, 3, 4, 36, 31, 101, 102, 103, 104, 105, 106, 107, 108, 109, 110, 111, 112, 113, 114, 115, 116, 117, 118] (by decide +kernel) (by decide +kernel)
set_option maxRecDepth 20000 in
theorem gX5_sendAll_X5_isFree : GoodIn wsX5_sendAll (wsV RX5 70 RX5 yX5_isFree wsX5_isFree) := goodIn_app (goodIn_of _ (by decide +kernel)) ggX5_sendAll_X5_isFree
set_option maxRecDepth 20000 in
theorem ggX5_sendAll_X5_sendOne : GoodIn wsX5_sendAll wsX5_sendOne := goodIn_r _ [40, 3, 1, 4, 41, 42, 43, 44, 2, 45, 46, 9, 47, 48, 49, 50, 51, 52, 53, 54, 55, 56, 57, 58, 59, 60, 61, 62, 63, 64, 65, 66, 67, 68, 69, 70, 71, 72, 73, 74, 75, 76, 77, 78, 6, 7, 8, 79, 80, 81, 82, 83, 84, 85, 86, 87, 88, 89, 90, 91, 13, 92, 18, 15, 36, 31, 24, 25, 26, 93, 94, 95, 96, 97, 98, 99, 100, 101, 102, 103, 104, 105, 106, 107, 108, 109, 110, 111, 112, 113, 114, 115, 116, 117, 118, 131, 132, 133, 134, 135, 136, 137, 138, 139, 140, 141, 142, 143, 144, 145, 146, 147, 148, 149, 150, 119, 120, 121, 122, 123, 124, 125, 126, 127, 128, 129, 130] (by decide +kernel) (by decide +kernel)
set_option maxRecDepth 20000 in
theorem gX5_sendAll_X5_sendOne : GoodIn wsX5_sendAll (wsV RX5 74 RX5 yX5_sendOne wsX5_sendOne) := goodIn_app (goodIn_of _ (by decide +kernel)) ggX5_sendAll_X5_sendOne
theorem dX5_sendAll_0 : decode cX5_sendAll 0 = .ok (.aload_n 0, 1) := by decide +kernel
theorem dX5_sendAll_1 : decode cX5_sendAll 1 = .ok (.invokevirtual 64, 3) := by decide +kernel
theorem dX5_sendAll_4 : decode cX5_sendAll 4 = .ok (.lstore_n 3, 1) := by decide +kernel
theorem dX5_sendAll_5 : decode cX5_sendAll 5 = .ok (.iconst 1, 1) := by decide +kernel
theorem dX5_sendAll_6 : decode cX5_sendAll 6 = .ok (.istore 5, 2) := by decide +kernel
theorem dX5_sendAll_8 : decode cX5_sendAll 8 = .ok (.iconst 0, 1) := by decide +kernel
theorem dX5_sendAll_9 : decode cX5_sendAll 9 = .ok (.istore 6, 2) := by decide +kernel
theorem dX5_sendAll_11 : decode cX5_sendAll 11 = .ok (.iload 6, 2) := by decide +kernel
theorem dX5_sendAll_13 : decode cX5_sendAll 13 = .ok (.bipush 8, 2) := by decide +kernel
theorem dX5_sendAll_15 : decode cX5_sendAll 15 = .ok (.if_icmp .ge 38, 3) := by decide +kernel
theorem dX5_sendAll_18 : decode cX5_sendAll 18 = .ok (.iload 5, 2) := by decide +kernel
theorem dX5_sendAll_20 : decode cX5_sendAll 20 = .ok (.ifCond .eq 33, 3) := by decide +kernel
theorem dX5_sendAll_23 : decode cX5_sendAll 23 = .ok (.aload_n 0, 1) := by decide +kernel
theorem dX5_sendAll_24 : decode cX5_sendAll 24 = .ok (.getfield 67, 3) := by decide +kernel
theorem dX5_sendAll_27 : decode cX5_sendAll 27 = .ok (.ifCond .le 26, 3) := by decide +kernel
theorem dX5_sendAll_30 : decode cX5_sendAll 30 = .ok (.aload_n 0, 1) := by decide +kernel
theorem dX5_sendAll_31 : decode cX5_sendAll 31 = .ok (.lload_n 3, 1) := by decide +kernel
theorem dX5_sendAll_32 : decode cX5_sendAll 32 = .ok (.iload_n 2, 1) := by decide +kernel
theorem dX5_sendAll_33 : decode cX5_sendAll 33 = .ok (.invokevirtual 70, 3) := by decide +kernel
theorem dX5_sendAll_36 : decode cX5_sendAll 36 = .ok (.ifCond .eq 17, 3) := by decide +kernel
theorem dX5_sendAll_39 : decode cX5_sendAll 39 = .ok (.aload_n 0, 1) := by decide +kernel
theorem dX5_sendAll_40 : decode cX5_sendAll 40 = .ok (.aload_n 1, 1) := by decide +kernel
theorem dX5_sendAll_41 : decode cX5_sendAll 41 = .ok (.iload_n 2, 1) := by decide +kernel
theorem dX5_sendAll_42 : decode cX5_sendAll 42 = .ok (.invokevirtual 74, 3) := by decide +kernel
theorem dX5_sendAll_45 : decode cX5_sendAll 45 = .ok (.istore 5, 2) := by decide +kernel
theorem dX5_sendAll_47 : decode cX5_sendAll 47 = .ok (.iinc 6 1, 3) := by decide +kernel
theorem dX5_sendAll_50 : decode cX5_sendAll 50 = .ok (.goto (-39), 3) := by decide +kernel
theorem dX5_sendAll_53 : decode cX5_sendAll 53 = .ok (.aload_n 0, 1) := by decide +kernel
theorem dX5_sendAll_54 : decode cX5_sendAll 54 = .ok (.getfield 67, 3) := by decide +kernel
theorem dX5_sendAll_57 : decode cX5_sendAll 57 = .ok (.ifCond .ne 32, 3) := by decide +kernel
theorem dX5_sendAll_60 : decode cX5_sendAll 60 = .ok (.aload_n 0, 1) := by decide +kernel
theorem dX5_sendAll_61 : decode cX5_sendAll 61 = .ok (.lload_n 3, 1) := by decide +kernel
theorem dX5_sendAll_62 : decode cX5_sendAll 62 = .ok (.iload_n 2, 1) := by decide +kernel
theorem dX5_sendAll_63 : decode cX5_sendAll 63 = .ok (.invokevirtual 70, 3) := by decide +kernel
theorem dX5_sendAll_66 : decode cX5_sendAll 66 = .ok (.ifCond .eq 23, 3) := by decide +kernel
theorem dX5_sendAll_69 : decode cX5_sendAll 69 = .ok (.aload_n 0, 1) := by decide +kernel
theorem dX5_sendAll_70 : decode cX5_sendAll 70 = .ok (.iconst 1, 1) := by decide +kernel
theorem dX5_sendAll_71 : decode cX5_sendAll 71 = .ok (.aload_n 0, 1) := by decide +kernel
theorem dX5_sendAll_72 : decode cX5_sendAll 72 = .ok (.getfield 78, 3) := by decide +kernel
theorem dX5_sendAll_75 : decode cX5_sendAll 75 = .ok (.aload_n 0, 1) := by decide +kernel
theorem dX5_sendAll_76 : decode cX5_sendAll 76 = .ok (.getfield 12, 3) := by decide +kernel
theorem dX5_sendAll_79 : decode cX5_sendAll 79 = .ok (.getfield 81, 3) := by decide +kernel
theorem dX5_sendAll_82 : decode cX5_sendAll 82 = .ok (.iadd, 1) := by decide +kernel
theorem dX5_sendAll_83 : decode cX5_sendAll 83 = .ok (.invokestatic 84, 3) := by decide +kernel
theorem dX5_sendAll_86 : decode cX5_sendAll 86 = .ok (.putfield 87, 3) := by decide +kernel
theorem dX5_sendAll_89 : decode cX5_sendAll 89 = .ok (.return_, 1) := by decide +kernel
theorem dX5_isFree_0 : decode cX5_isFree 0 = .ok (.aload_n 0, 1) := by decide +kernel
theorem dX5_isFree_1 : decode cX5_isFree 1 = .ok (.getfield 12, 3) := by decide +kernel
theorem dX5_isFree_4 : decode cX5_isFree 4 = .ok (.getfield 81, 3) := by decide +kernel
theorem dX5_isFree_7 : decode cX5_isFree 7 = .ok (.i2l, 1) := by decide +kernel
theorem dX5_isFree_8 : decode cX5_isFree 8 = .ok (.lload_n 1, 1) := by decide +kernel
theorem dX5_isFree_9 : decode cX5_isFree 9 = .ok (.lcmp, 1) := by decide +kernel
theorem dX5_isFree_10 : decode cX5_isFree 10 = .ok (.ifCond .ge 21, 3) := by decide +kernel
theorem dX5_isFree_13 : decode cX5_isFree 13 = .ok (.aload_n 0, 1) := by decide +kernel
theorem dX5_isFree_14 : decode cX5_isFree 14 = .ok (.getfield 90, 3) := by decide +kernel
theorem dX5_isFree_17 : decode cX5_isFree 17 = .ok (.ldc2_w 39, 3) := by decide +kernel
theorem dX5_isFree_20 : decode cX5_isFree 20 = .ok (.iload_n 3, 1) := by decide +kernel
theorem dX5_isFree_21 : decode cX5_isFree 21 = .ok (.i2l, 1) := by decide +kernel
theorem dX5_isFree_22 : decode cX5_isFree 22 = .ok (.lmul, 1) := by decide +kernel
theorem dX5_isFree_23 : decode cX5_isFree 23 = .ok (.lcmp, 1) := by decide +kernel
theorem dX5_isFree_24 : decode cX5_isFree 24 = .ok (.ifCond .gt 7, 3) := by decide +kernel
theorem dX5_isFree_27 : decode cX5_isFree 27 = .ok (.iconst 1, 1) := by decide +kernel
theorem dX5_isFree_28 : decode cX5_isFree 28 = .ok (.goto 4, 3) := by decide +kernel
theorem dX5_isFree_31 : decode cX5_isFree 31 = .ok (.iconst 0, 1) := by decide +kernel
theorem dX5_isFree_32 : decode cX5_isFree 32 = .ok (.ireturn, 1) := by decide +kernel
set_option maxRecDepth 20000 in
theorem ggX5_sendOne_X3_blank : GoodIn wsX5_sendOne wsX3_blank := goodIn_r _ [19, 20, 21, 22, 23, 24, 25, 26, 27, 28, 29, 30, 31, 93, 94, 95, 96, 97, 98, 99, 100, 101, 102] (by decide +kernel) (by decide +kernel)
set_option maxRecDepth 20000 in
theorem gX5_sendOne_X3_blank : GoodIn wsX5_sendOne (wsV RX5 94 RX3 yX3_blank wsX3_blank) := goodIn_app (goodIn_of _ (by decide +kernel)) ggX5_sendOne_X3_blank
set_option maxRecDepth 20000 in
theorem ggX5_sendOne_X1_admit : GoodIn wsX5_sendOne wsX1_admit := goodIn_r _ [36, 37, 38, 39, 40, 41, 42, 43, 44, 45, 46, 47, 48, 49, 35, 50, 51, 52, 103, 104, 105, 106, 107, 108, 109, 110, 111, 112, 113, 114] (by decide +kernel) (by decide +kernel)
set_option maxRecDepth 20000 in
theorem gX5_sendOne_X1_admit : GoodIn wsX5_sendOne (wsV RX5 119 RX1 yX1_admit wsX1_admit) := goodIn_app (goodIn_of _ (by decide +kernel)) ggX5_sendOne_X1_admit
set_option maxRecDepth 20000 in
theorem ggX5_sendOne_X3_add : GoodIn wsX5_sendOne wsX3_add := goodIn_r _ [56, 20, 21, 93, 94] (by decide +kernel) (by decide +kernel)
set_option maxRecDepth 20000 in
theorem gX5_sendOne_X3_add : GoodIn wsX5_sendOne (wsV RX5 125 RX3 yX3_add wsX3_add) := goodIn_app (goodIn_of _ (by decide +kernel)) ggX5_sendOne_X3_add
set_option maxRecDepth 20000 in
theorem ggX5_sendOne_X5_putOffNext : GoodIn wsX5_sendOne wsX5_putOffNext := goodIn_r _ [61, 62, 63, 64, 65, 66, 67, 45, 68, 69, 70, 71, 72, 73, 74, 75, 76, 77, 78, 79, 80, 81, 82, 83, 84, 85, 86, 87, 88, 89, 90, 91, 92, 115, 116, 117, 118, 119, 120, 121, 122, 123, 124, 125, 126] (by decide +kernel) (by decide +kernel)
set_option maxRecDepth 20000 in
theorem gX5_sendOne_X5_putOffNext : GoodIn wsX5_sendOne (wsV RX5 131 RX5 yX5_putOffNext wsX5_putOffNext) := goodIn_app (goodIn_of _ (by decide +kernel)) ggX5_sendOne_X5_putOffNext
theorem dX5_sendOne_0 : decode cX5_sendOne 0 = .ok (.aload_n 0, 1) := by decide +kernel
theorem dX5_sendOne_1 : decode cX5_sendOne 1 = .ok (.getfield 12, 3) := by decide +kernel
theorem dX5_sendOne_4 : decode cX5_sendOne 4 = .ok (.aload_n 0, 1) := by decide +kernel
theorem dX5_sendOne_5 : decode cX5_sendOne 5 = .ok (.invokevirtual 94, 3) := by decide +kernel
theorem dX5_sendOne_8 : decode cX5_sendOne 8 = .ok (.astore_n 3, 1) := by decide +kernel
theorem dX5_sendOne_9 : decode cX5_sendOne 9 = .ok (.aload_n 3, 1) := by decide +kernel
theorem dX5_sendOne_10 : decode cX5_sendOne 10 = .ok (.ifnonnull 5, 3) := by decide +kernel
theorem dX5_sendOne_13 : decode cX5_sendOne 13 = .ok (.iconst 0, 1) := by decide +kernel
theorem dX5_sendOne_14 : decode cX5_sendOne 14 = .ok (.ireturn, 1) := by decide +kernel
theorem dX5_sendOne_15 : decode cX5_sendOne 15 = .ok (.aload_n 0, 1) := by decide +kernel
theorem dX5_sendOne_16 : decode cX5_sendOne 16 = .ok (.dup, 1) := by decide +kernel
theorem dX5_sendOne_17 : decode cX5_sendOne 17 = .ok (.getfield 67, 3) := by decide +kernel
theorem dX5_sendOne_20 : decode cX5_sendOne 20 = .ok (.iconst 1, 1) := by decide +kernel
theorem dX5_sendOne_21 : decode cX5_sendOne 21 = .ok (.isub, 1) := by decide +kernel
theorem dX5_sendOne_22 : decode cX5_sendOne 22 = .ok (.putfield 67, 3) := by decide +kernel
theorem dX5_sendOne_25 : decode cX5_sendOne 25 = .ok (.aload_n 0, 1) := by decide +kernel
theorem dX5_sendOne_26 : decode cX5_sendOne 26 = .ok (.getfield 12, 3) := by decide +kernel
theorem dX5_sendOne_29 : decode cX5_sendOne 29 = .ok (.getfield 81, 3) := by decide +kernel
theorem dX5_sendOne_32 : decode cX5_sendOne 32 = .ok (.ifCond .ne 8, 3) := by decide +kernel
theorem dX5_sendOne_35 : decode cX5_sendOne 35 = .ok (.aload_n 0, 1) := by decide +kernel
theorem dX5_sendOne_36 : decode cX5_sendOne 36 = .ok (.iload_n 2, 1) := by decide +kernel
theorem dX5_sendOne_37 : decode cX5_sendOne 37 = .ok (.putfield 98, 3) := by decide +kernel
theorem dX5_sendOne_40 : decode cX5_sendOne 40 = .ok (.aload_n 3, 1) := by decide +kernel
theorem dX5_sendOne_41 : decode cX5_sendOne 41 = .ok (.aload_n 0, 1) := by decide +kernel
theorem dX5_sendOne_42 : decode cX5_sendOne 42 = .ok (.getfield 101, 3) := by decide +kernel
theorem dX5_sendOne_45 : decode cX5_sendOne 45 = .ok (.putfield 104, 3) := by decide +kernel
theorem dX5_sendOne_48 : decode cX5_sendOne 48 = .ok (.aload_n 3, 1) := by decide +kernel
theorem dX5_sendOne_49 : decode cX5_sendOne 49 = .ok (.iload_n 2, 1) := by decide +kernel
theorem dX5_sendOne_50 : decode cX5_sendOne 50 = .ok (.putfield 109, 3) := by decide +kernel
theorem dX5_sendOne_53 : decode cX5_sendOne 53 = .ok (.aload_n 3, 1) := by decide +kernel
theorem dX5_sendOne_54 : decode cX5_sendOne 54 = .ok (.aload_n 0, 1) := by decide +kernel
theorem dX5_sendOne_55 : decode cX5_sendOne 55 = .ok (.getfield 78, 3) := by decide +kernel
theorem dX5_sendOne_58 : decode cX5_sendOne 58 = .ok (.putfield 110, 3) := by decide +kernel
theorem dX5_sendOne_61 : decode cX5_sendOne 61 = .ok (.aload_n 3, 1) := by decide +kernel
theorem dX5_sendOne_62 : decode cX5_sendOne 62 = .ok (.aload_n 0, 1) := by decide +kernel
theorem dX5_sendOne_63 : decode cX5_sendOne 63 = .ok (.getfield 98, 3) := by decide +kernel
theorem dX5_sendOne_66 : decode cX5_sendOne 66 = .ok (.putfield 111, 3) := by decide +kernel
theorem dX5_sendOne_69 : decode cX5_sendOne 69 = .ok (.aload_n 3, 1) := by decide +kernel
theorem dX5_sendOne_70 : decode cX5_sendOne 70 = .ok (.aload_n 0, 1) := by decide +kernel
theorem dX5_sendOne_71 : decode cX5_sendOne 71 = .ok (.getfield 87, 3) := by decide +kernel
theorem dX5_sendOne_74 : decode cX5_sendOne 74 = .ok (.ifCond .le 7, 3) := by decide +kernel
theorem dX5_sendOne_77 : decode cX5_sendOne 77 = .ok (.iconst 1, 1) := by decide +kernel
theorem dX5_sendOne_78 : decode cX5_sendOne 78 = .ok (.goto 4, 3) := by decide +kernel
theorem dX5_sendOne_81 : decode cX5_sendOne 81 = .ok (.iconst 0, 1) := by decide +kernel
theorem dX5_sendOne_82 : decode cX5_sendOne 82 = .ok (.putfield 112, 3) := by decide +kernel
theorem dX5_sendOne_85 : decode cX5_sendOne 85 = .ok (.aload_n 3, 1) := by decide +kernel
theorem dX5_sendOne_86 : decode cX5_sendOne 86 = .ok (.iconst 0, 1) := by decide +kernel
theorem dX5_sendOne_87 : decode cX5_sendOne 87 = .ok (.putfield 116, 3) := by decide +kernel
theorem dX5_sendOne_90 : decode cX5_sendOne 90 = .ok (.aload_n 0, 1) := by decide +kernel
theorem dX5_sendOne_91 : decode cX5_sendOne 91 = .ok (.dup, 1) := by decide +kernel
theorem dX5_sendOne_92 : decode cX5_sendOne 92 = .ok (.getfield 101, 3) := by decide +kernel
theorem dX5_sendOne_95 : decode cX5_sendOne 95 = .ok (.iconst 1, 1) := by decide +kernel
theorem dX5_sendOne_96 : decode cX5_sendOne 96 = .ok (.iadd, 1) := by decide +kernel
theorem dX5_sendOne_97 : decode cX5_sendOne 97 = .ok (.putfield 101, 3) := by decide +kernel
theorem dX5_sendOne_100 : decode cX5_sendOne 100 = .ok (.aload_n 1, 1) := by decide +kernel
theorem dX5_sendOne_101 : decode cX5_sendOne 101 = .ok (.aload_n 3, 1) := by decide +kernel
theorem dX5_sendOne_102 : decode cX5_sendOne 102 = .ok (.iload_n 2, 1) := by decide +kernel
theorem dX5_sendOne_103 : decode cX5_sendOne 103 = .ok (.invokevirtual 119, 3) := by decide +kernel
theorem dX5_sendOne_106 : decode cX5_sendOne 106 = .ok (.istore 4, 2) := by decide +kernel
theorem dX5_sendOne_108 : decode cX5_sendOne 108 = .ok (.iload 4, 2) := by decide +kernel
theorem dX5_sendOne_110 : decode cX5_sendOne 110 = .ok (.ifCond .eq 13, 3) := by decide +kernel
theorem dX5_sendOne_113 : decode cX5_sendOne 113 = .ok (.aload_n 0, 1) := by decide +kernel
theorem dX5_sendOne_114 : decode cX5_sendOne 114 = .ok (.getfield 12, 3) := by decide +kernel
theorem dX5_sendOne_117 : decode cX5_sendOne 117 = .ok (.invokevirtual 125, 3) := by decide +kernel
theorem dX5_sendOne_120 : decode cX5_sendOne 120 = .ok (.goto 13, 3) := by decide +kernel
theorem dX5_sendOne_123 : decode cX5_sendOne 123 = .ok (.aload_n 0, 1) := by decide +kernel
theorem dX5_sendOne_124 : decode cX5_sendOne 124 = .ok (.dup, 1) := by decide +kernel
theorem dX5_sendOne_125 : decode cX5_sendOne 125 = .ok (.getfield 128, 3) := by decide +kernel
theorem dX5_sendOne_128 : decode cX5_sendOne 128 = .ok (.iconst 1, 1) := by decide +kernel
theorem dX5_sendOne_129 : decode cX5_sendOne 129 = .ok (.iadd, 1) := by decide +kernel
theorem dX5_sendOne_130 : decode cX5_sendOne 130 = .ok (.putfield 128, 3) := by decide +kernel
theorem dX5_sendOne_133 : decode cX5_sendOne 133 = .ok (.aload_n 0, 1) := by decide +kernel
theorem dX5_sendOne_134 : decode cX5_sendOne 134 = .ok (.iload_n 2, 1) := by decide +kernel
theorem dX5_sendOne_135 : decode cX5_sendOne 135 = .ok (.invokevirtual 131, 3) := by decide +kernel
theorem dX5_sendOne_138 : decode cX5_sendOne 138 = .ok (.iload 4, 2) := by decide +kernel
theorem dX5_sendOne_140 : decode cX5_sendOne 140 = .ok (.ireturn, 1) := by decide +kernel
set_option maxRecDepth 20000 in
theorem ggX5_putOffNext_X0_gain : GoodIn wsX5_putOffNext wsX0_gain := goodIn_r _ [14, 15, 16, 33, 34, 35, 36, 37, 38, 39, 40, 41, 42, 43, 44] (by decide +kernel) (by decide +kernel)
set_option maxRecDepth 20000 in
theorem gX5_putOffNext_X0_gain : GoodIn wsX5_putOffNext (wsV RX5 135 RX0 yX0_gain wsX0_gain) := goodIn_app (goodIn_of _ (by decide +kernel)) ggX5_putOffNext_X0_gain
theorem dX5_putOffNext_0 : decode cX5_putOffNext 0 = .ok (.aload_n 0, 1) := by decide +kernel
theorem dX5_putOffNext_1 : decode cX5_putOffNext 1 = .ok (.getfield 36, 3) := by decide +kernel
theorem dX5_putOffNext_4 : decode cX5_putOffNext 4 = .ok (.i2l, 1) := by decide +kernel
theorem dX5_putOffNext_5 : decode cX5_putOffNext 5 = .ok (.aload_n 0, 1) := by decide +kernel
theorem dX5_putOffNext_6 : decode cX5_putOffNext 6 = .ok (.getfield 28, 3) := by decide +kernel
theorem dX5_putOffNext_9 : decode cX5_putOffNext 9 = .ok (.invokevirtual 135, 3) := by decide +kernel
theorem dX5_putOffNext_12 : decode cX5_putOffNext 12 = .ok (.i2l, 1) := by decide +kernel
theorem dX5_putOffNext_13 : decode cX5_putOffNext 13 = .ok (.lmul, 1) := by decide +kernel
theorem dX5_putOffNext_14 : decode cX5_putOffNext 14 = .ok (.lstore_n 2, 1) := by decide +kernel
theorem dX5_putOffNext_15 : decode cX5_putOffNext 15 = .ok (.lload_n 2, 1) := by decide +kernel
theorem dX5_putOffNext_16 : decode cX5_putOffNext 16 = .ok (.lconst 0, 1) := by decide +kernel
theorem dX5_putOffNext_17 : decode cX5_putOffNext 17 = .ok (.lcmp, 1) := by decide +kernel
theorem dX5_putOffNext_18 : decode cX5_putOffNext 18 = .ok (.ifCond .le 26, 3) := by decide +kernel
theorem dX5_putOffNext_21 : decode cX5_putOffNext 21 = .ok (.aload_n 0, 1) := by decide +kernel
theorem dX5_putOffNext_22 : decode cX5_putOffNext 22 = .ok (.aload_n 0, 1) := by decide +kernel
theorem dX5_putOffNext_23 : decode cX5_putOffNext 23 = .ok (.getfield 90, 3) := by decide +kernel
theorem dX5_putOffNext_26 : decode cX5_putOffNext 26 = .ok (.ldc2_w 39, 3) := by decide +kernel
theorem dX5_putOffNext_29 : decode cX5_putOffNext 29 = .ok (.iload_n 1, 1) := by decide +kernel
theorem dX5_putOffNext_30 : decode cX5_putOffNext 30 = .ok (.i2l, 1) := by decide +kernel
theorem dX5_putOffNext_31 : decode cX5_putOffNext 31 = .ok (.lmul, 1) := by decide +kernel
theorem dX5_putOffNext_32 : decode cX5_putOffNext 32 = .ok (.invokestatic 58, 3) := by decide +kernel
theorem dX5_putOffNext_35 : decode cX5_putOffNext 35 = .ok (.ldc2_w 139, 3) := by decide +kernel
theorem dX5_putOffNext_38 : decode cX5_putOffNext 38 = .ok (.lload_n 2, 1) := by decide +kernel
theorem dX5_putOffNext_39 : decode cX5_putOffNext 39 = .ok (.ldiv, 1) := by decide +kernel
theorem dX5_putOffNext_40 : decode cX5_putOffNext 40 = .ok (.ladd, 1) := by decide +kernel
theorem dX5_putOffNext_41 : decode cX5_putOffNext 41 = .ok (.putfield 90, 3) := by decide +kernel
theorem dX5_putOffNext_44 : decode cX5_putOffNext 44 = .ok (.return_, 1) := by decide +kernel
set_option maxRecDepth 20000 in
theorem ggX5_takeDue_X3_at : GoodIn wsX5_takeDue wsX3_at := goodIn_r _ [9, 10, 11, 150, 151] (by decide +kernel) (by decide +kernel)
set_option maxRecDepth 20000 in
theorem gX5_takeDue_X3_at : GoodIn wsX5_takeDue (wsV RX5 141 RX3 yX3_at wsX3_at) := goodIn_app (goodIn_of _ (by decide +kernel)) ggX5_takeDue_X3_at
set_option maxRecDepth 20000 in
theorem ggX5_takeDue_X3_remove : GoodIn wsX5_takeDue wsX3_remove := goodIn_r _ [15, 10, 11, 16, 6, 7, 8, 9, 150, 151] (by decide +kernel) (by decide +kernel)
set_option maxRecDepth 20000 in
theorem gX5_takeDue_X3_remove : GoodIn wsX5_takeDue (wsV RX5 147 RX3 yX3_remove wsX3_remove) := goodIn_app (goodIn_of _ (by decide +kernel)) ggX5_takeDue_X3_remove
set_option maxRecDepth 20000 in
theorem ggX5_takeDue_X5_take : GoodIn wsX5_takeDue wsX5_take := goodIn_r _ [21, 1, 22, 23, 24, 25, 26, 27, 28, 29, 30, 31, 32, 33, 34, 35, 36, 37, 38, 39, 40, 41, 42, 43, 44, 45, 46, 47, 48, 49, 20, 50, 51, 52, 53, 54, 55, 56, 57, 58, 59, 60, 61, 62, 63, 64, 65, 66, 67, 68, 69, 70, 71, 72, 73, 74, 75, 76, 77, 78, 79, 80, 81, 82, 83, 84, 85, 86, 87, 88, 89, 90, 91, 92, 93, 94, 95, 96, 97, 98, 99, 100, 101, 102, 103, 104, 105, 106, 107, 108, 109, 110, 111, 112, 113, 114, 115, 116, 117, 118, 119, 120, 121, 122, 123, 124, 125, 126, 127, 128, 129, 130, 131, 132, 133, 134, 135, 136, 137, 138, 139, 140, 141, 142, 143, 144, 145, 146, 147, 148, 149, 152, 153, 154, 155, 156, 157, 158, 159, 160, 161, 162, 163, 164, 165, 166, 167, 168, 150, 151] (by decide +kernel) (by decide +kernel)
set_option maxRecDepth 20000 in
theorem gX5_takeDue_X5_take : GoodIn wsX5_takeDue (wsV RX5 150 RX5 yX5_take wsX5_take) := goodIn_app (goodIn_of _ (by decide +kernel)) ggX5_takeDue_X5_take
theorem dX5_takeDue_0 : decode cX5_takeDue 0 = .ok (.aload_n 0, 1) := by decide +kernel
theorem dX5_takeDue_1 : decode cX5_takeDue 1 = .ok (.getfield 78, 3) := by decide +kernel
theorem dX5_takeDue_4 : decode cX5_takeDue 4 = .ok (.istore_n 2, 1) := by decide +kernel
theorem dX5_takeDue_5 : decode cX5_takeDue 5 = .ok (.iconst 0, 1) := by decide +kernel
theorem dX5_takeDue_6 : decode cX5_takeDue 6 = .ok (.istore_n 3, 1) := by decide +kernel
theorem dX5_takeDue_7 : decode cX5_takeDue 7 = .ok (.iconst 0, 1) := by decide +kernel
theorem dX5_takeDue_8 : decode cX5_takeDue 8 = .ok (.istore 4, 2) := by decide +kernel
theorem dX5_takeDue_10 : decode cX5_takeDue 10 = .ok (.iload 4, 2) := by decide +kernel
theorem dX5_takeDue_12 : decode cX5_takeDue 12 = .ok (.sipush 261, 3) := by decide +kernel
theorem dX5_takeDue_15 : decode cX5_takeDue 15 = .ok (.if_icmp .ge 65, 3) := by decide +kernel
theorem dX5_takeDue_18 : decode cX5_takeDue 18 = .ok (.aload_n 0, 1) := by decide +kernel
theorem dX5_takeDue_19 : decode cX5_takeDue 19 = .ok (.getfield 12, 3) := by decide +kernel
theorem dX5_takeDue_22 : decode cX5_takeDue 22 = .ok (.iload_n 3, 1) := by decide +kernel
theorem dX5_takeDue_23 : decode cX5_takeDue 23 = .ok (.invokevirtual 141, 3) := by decide +kernel
theorem dX5_takeDue_26 : decode cX5_takeDue 26 = .ok (.astore 5, 2) := by decide +kernel
theorem dX5_takeDue_28 : decode cX5_takeDue 28 = .ok (.aload 5, 2) := by decide +kernel
theorem dX5_takeDue_30 : decode cX5_takeDue 30 = .ok (.ifnull 50, 3) := by decide +kernel
theorem dX5_takeDue_33 : decode cX5_takeDue 33 = .ok (.aload 5, 2) := by decide +kernel
theorem dX5_takeDue_35 : decode cX5_takeDue 35 = .ok (.getfield 116, 3) := by decide +kernel
theorem dX5_takeDue_38 : decode cX5_takeDue 38 = .ok (.ifCond .ne 6, 3) := by decide +kernel
theorem dX5_takeDue_41 : decode cX5_takeDue 41 = .ok (.goto 39, 3) := by decide +kernel
theorem dX5_takeDue_44 : decode cX5_takeDue 44 = .ok (.aload 5, 2) := by decide +kernel
theorem dX5_takeDue_46 : decode cX5_takeDue 46 = .ok (.getfield 144, 3) := by decide +kernel
theorem dX5_takeDue_49 : decode cX5_takeDue 49 = .ok (.iload_n 1, 1) := by decide +kernel
theorem dX5_takeDue_50 : decode cX5_takeDue 50 = .ok (.if_icmp .ne 21, 3) := by decide +kernel
theorem dX5_takeDue_53 : decode cX5_takeDue 53 = .ok (.aload_n 0, 1) := by decide +kernel
theorem dX5_takeDue_54 : decode cX5_takeDue 54 = .ok (.getfield 12, 3) := by decide +kernel
theorem dX5_takeDue_57 : decode cX5_takeDue 57 = .ok (.iload_n 3, 1) := by decide +kernel
theorem dX5_takeDue_58 : decode cX5_takeDue 58 = .ok (.invokevirtual 147, 3) := by decide +kernel
theorem dX5_takeDue_61 : decode cX5_takeDue 61 = .ok (.aload_n 0, 1) := by decide +kernel
theorem dX5_takeDue_62 : decode cX5_takeDue 62 = .ok (.aload 5, 2) := by decide +kernel
theorem dX5_takeDue_64 : decode cX5_takeDue 64 = .ok (.iload_n 1, 1) := by decide +kernel
theorem dX5_takeDue_65 : decode cX5_takeDue 65 = .ok (.invokevirtual 150, 3) := by decide +kernel
theorem dX5_takeDue_68 : decode cX5_takeDue 68 = .ok (.goto 6, 3) := by decide +kernel
theorem dX5_takeDue_71 : decode cX5_takeDue 71 = .ok (.iinc 3 1, 3) := by decide +kernel
theorem dX5_takeDue_74 : decode cX5_takeDue 74 = .ok (.iinc 4 1, 3) := by decide +kernel
theorem dX5_takeDue_77 : decode cX5_takeDue 77 = .ok (.goto (-67), 3) := by decide +kernel
theorem dX5_takeDue_80 : decode cX5_takeDue 80 = .ok (.aload_n 0, 1) := by decide +kernel
theorem dX5_takeDue_81 : decode cX5_takeDue 81 = .ok (.getfield 78, 3) := by decide +kernel
theorem dX5_takeDue_84 : decode cX5_takeDue 84 = .ok (.iload_n 2, 1) := by decide +kernel
theorem dX5_takeDue_85 : decode cX5_takeDue 85 = .ok (.isub, 1) := by decide +kernel
theorem dX5_takeDue_86 : decode cX5_takeDue 86 = .ok (.ireturn, 1) := by decide +kernel
set_option maxRecDepth 20000 in
theorem ggX5_take_X4_beginRound : GoodIn wsX5_take wsX4_beginRound := goodIn_r _ [17, 18, 19, 20, 21, 22, 23, 24, 16, 25, 26, 131, 132, 133, 134, 135] (by decide +kernel) (by decide +kernel)
set_option maxRecDepth 20000 in
theorem gX5_take_X4_beginRound : GoodIn wsX5_take (wsV RX5 160 RX4 yX4_beginRound wsX4_beginRound) := goodIn_app (goodIn_of _ (by decide +kernel)) ggX5_take_X4_beginRound
set_option maxRecDepth 20000 in
theorem ggX5_take_X5_learnRate : GoodIn wsX5_take wsX5_learnRate := goodIn_r _ [31, 1, 4, 32, 33, 34, 35, 36, 12, 37, 7, 38, 39, 40, 16, 41, 20, 26, 18, 21, 42, 22, 23, 24, 25, 19, 43, 44, 45, 46, 47, 48, 49, 50, 107, 108, 109, 110, 111, 112, 113, 114, 115, 116, 117, 118, 119, 120, 121, 122, 123, 124, 125, 126, 127, 128, 129, 130, 131, 132, 133, 134, 135] (by decide +kernel) (by decide +kernel)
set_option maxRecDepth 20000 in
theorem gX5_take_X5_learnRate : GoodIn wsX5_take (wsV RX5 163 RX5 yX5_learnRate wsX5_learnRate) := goodIn_app (goodIn_of _ (by decide +kernel)) ggX5_take_X5_learnRate
set_option maxRecDepth 20000 in
theorem ggX5_take_X0_follow : GoodIn wsX5_take wsX0_follow := goodIn_r _ [55, 56, 57, 58, 59, 60, 61, 62, 63, 64, 54, 65, 66, 67, 68, 69, 70, 71, 72, 73, 74, 75, 76, 77, 78, 79, 80, 81, 82, 83, 84, 85, 86, 87, 88, 89, 90, 91, 92, 30, 93, 8, 37, 94, 95, 96, 97, 98, 99, 100, 101, 102, 103, 104, 105, 106, 136, 137, 138, 139, 140, 141, 142, 143, 144, 145, 146, 147, 107, 108, 109, 110, 111, 112, 113, 114, 115, 116, 117, 118, 119, 120, 121, 122, 148, 149] (by decide +kernel) (by decide +kernel)
set_option maxRecDepth 20000 in
theorem gX5_take_X0_follow : GoodIn wsX5_take (wsV RX5 169 RX0 yX0_follow wsX0_follow) := goodIn_app (goodIn_of _ (by decide +kernel)) ggX5_take_X0_follow
theorem dX5_take_0 : decode cX5_take 0 = .ok (.aload_n 0, 1) := by decide +kernel
theorem dX5_take_1 : decode cX5_take 1 = .ok (.dup, 1) := by decide +kernel
theorem dX5_take_2 : decode cX5_take 2 = .ok (.getfield 78, 3) := by decide +kernel
theorem dX5_take_5 : decode cX5_take 5 = .ok (.iconst 1, 1) := by decide +kernel
theorem dX5_take_6 : decode cX5_take 6 = .ok (.iadd, 1) := by decide +kernel
theorem dX5_take_7 : decode cX5_take 7 = .ok (.putfield 78, 3) := by decide +kernel
theorem dX5_take_10 : decode cX5_take 10 = .ok (.aload_n 0, 1) := by decide +kernel
theorem dX5_take_11 : decode cX5_take 11 = .ok (.iload_n 2, 1) := by decide +kernel
theorem dX5_take_12 : decode cX5_take 12 = .ok (.putfield 98, 3) := by decide +kernel
theorem dX5_take_15 : decode cX5_take 15 = .ok (.aload_n 0, 1) := by decide +kernel
theorem dX5_take_16 : decode cX5_take 16 = .ok (.getfield 87, 3) := by decide +kernel
theorem dX5_take_19 : decode cX5_take 19 = .ok (.ifCond .le 19, 3) := by decide +kernel
theorem dX5_take_22 : decode cX5_take 22 = .ok (.aload_n 0, 1) := by decide +kernel
theorem dX5_take_23 : decode cX5_take 23 = .ok (.getfield 78, 3) := by decide +kernel
theorem dX5_take_26 : decode cX5_take 26 = .ok (.aload_n 0, 1) := by decide +kernel
theorem dX5_take_27 : decode cX5_take 27 = .ok (.getfield 87, 3) := by decide +kernel
theorem dX5_take_30 : decode cX5_take 30 = .ok (.if_icmp .le 8, 3) := by decide +kernel
theorem dX5_take_33 : decode cX5_take 33 = .ok (.aload_n 0, 1) := by decide +kernel
theorem dX5_take_34 : decode cX5_take 34 = .ok (.iconst 0, 1) := by decide +kernel
theorem dX5_take_35 : decode cX5_take 35 = .ok (.putfield 87, 3) := by decide +kernel
theorem dX5_take_38 : decode cX5_take 38 = .ok (.aload_n 1, 1) := by decide +kernel
theorem dX5_take_39 : decode cX5_take 39 = .ok (.getfield 110, 3) := by decide +kernel
theorem dX5_take_42 : decode cX5_take 42 = .ok (.aload_n 0, 1) := by decide +kernel
theorem dX5_take_43 : decode cX5_take 43 = .ok (.getfield 154, 3) := by decide +kernel
theorem dX5_take_46 : decode cX5_take 46 = .ok (.if_icmp .lt 7, 3) := by decide +kernel
theorem dX5_take_49 : decode cX5_take 49 = .ok (.iconst 1, 1) := by decide +kernel
theorem dX5_take_50 : decode cX5_take 50 = .ok (.goto 4, 3) := by decide +kernel
theorem dX5_take_53 : decode cX5_take 53 = .ok (.iconst 0, 1) := by decide +kernel
theorem dX5_take_54 : decode cX5_take 54 = .ok (.istore_n 3, 1) := by decide +kernel
theorem dX5_take_55 : decode cX5_take 55 = .ok (.iload_n 3, 1) := by decide +kernel
theorem dX5_take_56 : decode cX5_take 56 = .ok (.ifCond .eq 28, 3) := by decide +kernel
theorem dX5_take_59 : decode cX5_take 59 = .ok (.aload_n 0, 1) := by decide +kernel
theorem dX5_take_60 : decode cX5_take 60 = .ok (.dup, 1) := by decide +kernel
theorem dX5_take_61 : decode cX5_take 61 = .ok (.getfield 157, 3) := by decide +kernel
theorem dX5_take_64 : decode cX5_take 64 = .ok (.iconst 1, 1) := by decide +kernel
theorem dX5_take_65 : decode cX5_take 65 = .ok (.iadd, 1) := by decide +kernel
theorem dX5_take_66 : decode cX5_take 66 = .ok (.putfield 157, 3) := by decide +kernel
theorem dX5_take_69 : decode cX5_take 69 = .ok (.aload_n 0, 1) := by decide +kernel
theorem dX5_take_70 : decode cX5_take 70 = .ok (.aload_n 0, 1) := by decide +kernel
theorem dX5_take_71 : decode cX5_take 71 = .ok (.getfield 78, 3) := by decide +kernel
theorem dX5_take_74 : decode cX5_take 74 = .ok (.putfield 154, 3) := by decide +kernel
theorem dX5_take_77 : decode cX5_take 77 = .ok (.aload_n 0, 1) := by decide +kernel
theorem dX5_take_78 : decode cX5_take 78 = .ok (.getfield 21, 3) := by decide +kernel
theorem dX5_take_81 : decode cX5_take 81 = .ok (.invokevirtual 160, 3) := by decide +kernel
theorem dX5_take_84 : decode cX5_take 84 = .ok (.aload_n 0, 1) := by decide +kernel
theorem dX5_take_85 : decode cX5_take 85 = .ok (.aload_n 1, 1) := by decide +kernel
theorem dX5_take_86 : decode cX5_take 86 = .ok (.iload_n 2, 1) := by decide +kernel
theorem dX5_take_87 : decode cX5_take 87 = .ok (.invokevirtual 163, 3) := by decide +kernel
theorem dX5_take_90 : decode cX5_take 90 = .ok (.aload_n 0, 1) := by decide +kernel
theorem dX5_take_91 : decode cX5_take 91 = .ok (.getfield 32, 3) := by decide +kernel
theorem dX5_take_94 : decode cX5_take 94 = .ok (.bipush (-9), 2) := by decide +kernel
theorem dX5_take_96 : decode cX5_take 96 = .ok (.if_icmp .eq 19, 3) := by decide +kernel
theorem dX5_take_99 : decode cX5_take 99 = .ok (.iload_n 2, 1) := by decide +kernel
theorem dX5_take_100 : decode cX5_take 100 = .ok (.aload_n 0, 1) := by decide +kernel
theorem dX5_take_101 : decode cX5_take 101 = .ok (.getfield 166, 3) := by decide +kernel
theorem dX5_take_104 : decode cX5_take 104 = .ok (.isub, 1) := by decide +kernel
theorem dX5_take_105 : decode cX5_take 105 = .ok (.sipush 1000, 3) := by decide +kernel
theorem dX5_take_108 : decode cX5_take 108 = .ok (.if_icmp .le 7, 3) := by decide +kernel
theorem dX5_take_111 : decode cX5_take 111 = .ok (.iconst 1, 1) := by decide +kernel
theorem dX5_take_112 : decode cX5_take 112 = .ok (.goto 4, 3) := by decide +kernel
theorem dX5_take_115 : decode cX5_take 115 = .ok (.iconst 0, 1) := by decide +kernel
theorem dX5_take_116 : decode cX5_take 116 = .ok (.istore 4, 2) := by decide +kernel
theorem dX5_take_118 : decode cX5_take 118 = .ok (.iload_n 2, 1) := by decide +kernel
theorem dX5_take_119 : decode cX5_take 119 = .ok (.aload_n 1, 1) := by decide +kernel
theorem dX5_take_120 : decode cX5_take 120 = .ok (.getfield 109, 3) := by decide +kernel
theorem dX5_take_123 : decode cX5_take 123 = .ok (.isub, 1) := by decide +kernel
theorem dX5_take_124 : decode cX5_take 124 = .ok (.istore 5, 2) := by decide +kernel
theorem dX5_take_126 : decode cX5_take 126 = .ok (.aload_n 0, 1) := by decide +kernel
theorem dX5_take_127 : decode cX5_take 127 = .ok (.getfield 32, 3) := by decide +kernel
theorem dX5_take_130 : decode cX5_take 130 = .ok (.bipush (-9), 2) := by decide +kernel
theorem dX5_take_132 : decode cX5_take 132 = .ok (.if_icmp .eq 17, 3) := by decide +kernel
theorem dX5_take_135 : decode cX5_take 135 = .ok (.iload 4, 2) := by decide +kernel
theorem dX5_take_137 : decode cX5_take 137 = .ok (.ifCond .ne 12, 3) := by decide +kernel
theorem dX5_take_140 : decode cX5_take 140 = .ok (.iload 5, 2) := by decide +kernel
theorem dX5_take_142 : decode cX5_take 142 = .ok (.aload_n 0, 1) := by decide +kernel
theorem dX5_take_143 : decode cX5_take 143 = .ok (.getfield 32, 3) := by decide +kernel
theorem dX5_take_146 : decode cX5_take 146 = .ok (.if_icmp .gt 14, 3) := by decide +kernel
theorem dX5_take_149 : decode cX5_take 149 = .ok (.aload_n 0, 1) := by decide +kernel
theorem dX5_take_150 : decode cX5_take 150 = .ok (.iload 5, 2) := by decide +kernel
theorem dX5_take_152 : decode cX5_take 152 = .ok (.putfield 32, 3) := by decide +kernel
theorem dX5_take_155 : decode cX5_take 155 = .ok (.aload_n 0, 1) := by decide +kernel
theorem dX5_take_156 : decode cX5_take 156 = .ok (.iload_n 2, 1) := by decide +kernel
theorem dX5_take_157 : decode cX5_take 157 = .ok (.putfield 166, 3) := by decide +kernel
theorem dX5_take_160 : decode cX5_take 160 = .ok (.aload_n 0, 1) := by decide +kernel
theorem dX5_take_161 : decode cX5_take 161 = .ok (.getfield 28, 3) := by decide +kernel
theorem dX5_take_164 : decode cX5_take 164 = .ok (.aload_n 0, 1) := by decide +kernel
theorem dX5_take_165 : decode cX5_take 165 = .ok (.iload_n 2, 1) := by decide +kernel
theorem dX5_take_166 : decode cX5_take 166 = .ok (.iload_n 3, 1) := by decide +kernel
theorem dX5_take_167 : decode cX5_take 167 = .ok (.ifCond .eq 14, 3) := by decide +kernel
theorem dX5_take_170 : decode cX5_take 170 = .ok (.aload_n 1, 1) := by decide +kernel
theorem dX5_take_171 : decode cX5_take 171 = .ok (.getfield 112, 3) := by decide +kernel
theorem dX5_take_174 : decode cX5_take 174 = .ok (.ifCond .ne 7, 3) := by decide +kernel
theorem dX5_take_177 : decode cX5_take 177 = .ok (.iconst 1, 1) := by decide +kernel
theorem dX5_take_178 : decode cX5_take 178 = .ok (.goto 4, 3) := by decide +kernel
theorem dX5_take_181 : decode cX5_take 181 = .ok (.iconst 0, 1) := by decide +kernel
theorem dX5_take_182 : decode cX5_take 182 = .ok (.iload 4, 2) := by decide +kernel
theorem dX5_take_184 : decode cX5_take 184 = .ok (.invokevirtual 169, 3) := by decide +kernel
theorem dX5_take_187 : decode cX5_take 187 = .ok (.return_, 1) := by decide +kernel
set_option maxRecDepth 20000 in
theorem ggX5_learnRate_X4_keep : GoodIn wsX5_learnRate wsX4_keep := goodIn_r _ [15, 16, 17, 18, 19, 20, 5, 6, 7, 21, 22, 23, 14, 24, 25, 58, 59, 60, 61, 62] (by decide +kernel) (by decide +kernel)
set_option maxRecDepth 20000 in
theorem gX5_learnRate_X4_keep : GoodIn wsX5_learnRate (wsV RX5 173 RX4 yX4_keep wsX4_keep) := goodIn_app (goodIn_of _ (by decide +kernel)) ggX5_learnRate_X4_keep
set_option maxRecDepth 20000 in
theorem ggX5_learnRate_X4_greatestOfAll : GoodIn wsX5_learnRate wsX4_greatestOfAll := goodIn_r _ [29, 20, 5, 6, 7, 30, 31, 32, 14, 33, 18, 19, 58, 59, 60, 61, 62] (by decide +kernel) (by decide +kernel)
set_option maxRecDepth 20000 in
theorem gX5_learnRate_X4_greatestOfAll : GoodIn wsX5_learnRate (wsV RX5 176 RX4 yX4_greatestOfAll wsX4_greatestOfAll) := goodIn_app (goodIn_of _ (by decide +kernel)) ggX5_learnRate_X4_greatestOfAll
theorem dX5_learnRate_0 : decode cX5_learnRate 0 = .ok (.sipush 1000, 3) := by decide +kernel
theorem dX5_learnRate_3 : decode cX5_learnRate 3 = .ok (.aload_n 0, 1) := by decide +kernel
theorem dX5_learnRate_4 : decode cX5_learnRate 4 = .ok (.getfield 78, 3) := by decide +kernel
theorem dX5_learnRate_7 : decode cX5_learnRate 7 = .ok (.aload_n 1, 1) := by decide +kernel
theorem dX5_learnRate_8 : decode cX5_learnRate 8 = .ok (.getfield 110, 3) := by decide +kernel
theorem dX5_learnRate_11 : decode cX5_learnRate 11 = .ok (.isub, 1) := by decide +kernel
theorem dX5_learnRate_12 : decode cX5_learnRate 12 = .ok (.imul, 1) := by decide +kernel
theorem dX5_learnRate_13 : decode cX5_learnRate 13 = .ok (.iconst 1, 1) := by decide +kernel
theorem dX5_learnRate_14 : decode cX5_learnRate 14 = .ok (.iload_n 2, 1) := by decide +kernel
theorem dX5_learnRate_15 : decode cX5_learnRate 15 = .ok (.aload_n 1, 1) := by decide +kernel
theorem dX5_learnRate_16 : decode cX5_learnRate 16 = .ok (.getfield 111, 3) := by decide +kernel
theorem dX5_learnRate_19 : decode cX5_learnRate 19 = .ok (.isub, 1) := by decide +kernel
theorem dX5_learnRate_20 : decode cX5_learnRate 20 = .ok (.invokestatic 84, 3) := by decide +kernel
theorem dX5_learnRate_23 : decode cX5_learnRate 23 = .ok (.idiv, 1) := by decide +kernel
theorem dX5_learnRate_24 : decode cX5_learnRate 24 = .ok (.istore_n 3, 1) := by decide +kernel
theorem dX5_learnRate_25 : decode cX5_learnRate 25 = .ok (.aload_n 1, 1) := by decide +kernel
theorem dX5_learnRate_26 : decode cX5_learnRate 26 = .ok (.getfield 112, 3) := by decide +kernel
theorem dX5_learnRate_29 : decode cX5_learnRate 29 = .ok (.ifCond .eq 11, 3) := by decide +kernel
theorem dX5_learnRate_32 : decode cX5_learnRate 32 = .ok (.iload_n 3, 1) := by decide +kernel
theorem dX5_learnRate_33 : decode cX5_learnRate 33 = .ok (.aload_n 0, 1) := by decide +kernel
theorem dX5_learnRate_34 : decode cX5_learnRate 34 = .ok (.getfield 36, 3) := by decide +kernel
theorem dX5_learnRate_37 : decode cX5_learnRate 37 = .ok (.if_icmp .lt 11, 3) := by decide +kernel
theorem dX5_learnRate_40 : decode cX5_learnRate 40 = .ok (.aload_n 0, 1) := by decide +kernel
theorem dX5_learnRate_41 : decode cX5_learnRate 41 = .ok (.getfield 21, 3) := by decide +kernel
theorem dX5_learnRate_44 : decode cX5_learnRate 44 = .ok (.iload_n 3, 1) := by decide +kernel
theorem dX5_learnRate_45 : decode cX5_learnRate 45 = .ok (.invokevirtual 173, 3) := by decide +kernel
theorem dX5_learnRate_48 : decode cX5_learnRate 48 = .ok (.aload_n 0, 1) := by decide +kernel
theorem dX5_learnRate_49 : decode cX5_learnRate 49 = .ok (.aload_n 0, 1) := by decide +kernel
theorem dX5_learnRate_50 : decode cX5_learnRate 50 = .ok (.getfield 21, 3) := by decide +kernel
theorem dX5_learnRate_53 : decode cX5_learnRate 53 = .ok (.invokevirtual 176, 3) := by decide +kernel
theorem dX5_learnRate_56 : decode cX5_learnRate 56 = .ok (.putfield 36, 3) := by decide +kernel
theorem dX5_learnRate_59 : decode cX5_learnRate 59 = .ok (.return_, 1) := by decide +kernel
set_option maxRecDepth 20000 in
theorem ggX6_init_X1_init : GoodIn wsX6_init wsX1_init := goodIn_r _ [14, 15, 2, 3, 16, 17, 18, 19, 20, 21, 22, 23, 24, 25, 26, 27, 28, 64, 65, 66, 67, 68, 69, 70, 71, 72, 73, 74, 75, 98, 99, 100, 101, 102, 103, 104, 105] (by decide +kernel) (by decide +kernel)
set_option maxRecDepth 20000 in
theorem gX6_init_X1_init_n13 : GoodIn wsX6_init (wsX1_init) := ggX6_init_X1_init
set_option maxRecDepth 20000 in
theorem ggX6_init_X5_init : GoodIn wsX6_init wsX5_init := goodIn_r _ [30, 31, 2, 3, 32, 33, 34, 35, 36, 37, 38, 39, 40, 41, 42, 43, 44, 45, 46, 47, 48, 49, 50, 51, 52, 53, 54, 55, 56, 57, 58, 59, 60, 61, 62, 63, 106, 107, 82, 83, 84, 85, 86, 87, 88, 89, 90, 91, 92, 93, 94, 95, 96, 97, 108, 109, 110, 111, 112, 113, 114, 115, 116, 117, 118, 119, 120, 121, 122, 123, 124] (by decide +kernel) (by decide +kernel)
set_option maxRecDepth 20000 in
theorem gX6_init_X5_init_n20 : GoodIn wsX6_init (wsX5_init) := ggX6_init_X5_init
theorem dX6_init_0 : decode cX6_init 0 = .ok (.aload_n 0, 1) := by decide +kernel
theorem dX6_init_1 : decode cX6_init 1 = .ok (.invokespecial 5, 3) := by decide +kernel
theorem dX6_init_4 : decode cX6_init 4 = .ok (.aload_n 0, 1) := by decide +kernel
theorem dX6_init_5 : decode cX6_init 5 = .ok (.new 11, 3) := by decide +kernel
theorem dX6_init_8 : decode cX6_init 8 = .ok (.dup, 1) := by decide +kernel
theorem dX6_init_9 : decode cX6_init 9 = .ok (.invokespecial 13, 3) := by decide +kernel
theorem dX6_init_12 : decode cX6_init 12 = .ok (.putfield 14, 3) := by decide +kernel
theorem dX6_init_15 : decode cX6_init 15 = .ok (.aload_n 0, 1) := by decide +kernel
theorem dX6_init_16 : decode cX6_init 16 = .ok (.new 18, 3) := by decide +kernel
theorem dX6_init_19 : decode cX6_init 19 = .ok (.dup, 1) := by decide +kernel
theorem dX6_init_20 : decode cX6_init 20 = .ok (.invokespecial 20, 3) := by decide +kernel
theorem dX6_init_23 : decode cX6_init 23 = .ok (.putfield 21, 3) := by decide +kernel
theorem dX6_init_26 : decode cX6_init 26 = .ok (.aload_n 0, 1) := by decide +kernel
theorem dX6_init_27 : decode cX6_init 27 = .ok (.new 18, 3) := by decide +kernel
theorem dX6_init_30 : decode cX6_init 30 = .ok (.dup, 1) := by decide +kernel
theorem dX6_init_31 : decode cX6_init 31 = .ok (.invokespecial 20, 3) := by decide +kernel
theorem dX6_init_34 : decode cX6_init 34 = .ok (.putfield 25, 3) := by decide +kernel
theorem dX6_init_37 : decode cX6_init 37 = .ok (.return_, 1) := by decide +kernel
set_option maxRecDepth 20000 in
theorem ggX6_gate_X6_within : GoodIn wsX6_gate wsX6_within := goodIn_r _ [8] (by decide +kernel) (by decide +kernel)
set_option maxRecDepth 20000 in
theorem gX6_gate_X6_within : GoodIn wsX6_gate (va_wsS RX6 28 yX6_within wsX6_within) := goodIn_app (goodIn_of _ (by decide +kernel)) ggX6_gate_X6_within
theorem dX6_gate_0 : decode cX6_gate 0 = .ok (.iload_n 1, 1) := by decide +kernel
theorem dX6_gate_1 : decode cX6_gate 1 = .ok (.iconst 1, 1) := by decide +kernel
theorem dX6_gate_2 : decode cX6_gate 2 = .ok (.bipush 40, 2) := by decide +kernel
theorem dX6_gate_4 : decode cX6_gate 4 = .ok (.invokestatic 28, 3) := by decide +kernel
theorem dX6_gate_7 : decode cX6_gate 7 = .ok (.ifCond .eq 24, 3) := by decide +kernel
theorem dX6_gate_10 : decode cX6_gate 10 = .ok (.iload_n 2, 1) := by decide +kernel
theorem dX6_gate_11 : decode cX6_gate 11 = .ok (.iconst 1, 1) := by decide +kernel
theorem dX6_gate_12 : decode cX6_gate 12 = .ok (.bipush 60, 2) := by decide +kernel
theorem dX6_gate_14 : decode cX6_gate 14 = .ok (.invokestatic 28, 3) := by decide +kernel
theorem dX6_gate_17 : decode cX6_gate 17 = .ok (.ifCond .eq 14, 3) := by decide +kernel
theorem dX6_gate_20 : decode cX6_gate 20 = .ok (.iload_n 3, 1) := by decide +kernel
theorem dX6_gate_21 : decode cX6_gate 21 = .ok (.iconst 1, 1) := by decide +kernel
theorem dX6_gate_22 : decode cX6_gate 22 = .ok (.sipush 200, 3) := by decide +kernel
theorem dX6_gate_25 : decode cX6_gate 25 = .ok (.invokestatic 28, 3) := by decide +kernel
theorem dX6_gate_28 : decode cX6_gate 28 = .ok (.ifCond .ne 6, 3) := by decide +kernel
theorem dX6_gate_31 : decode cX6_gate 31 = .ok (.bipush (-2), 2) := by decide +kernel
theorem dX6_gate_33 : decode cX6_gate 33 = .ok (.ireturn, 1) := by decide +kernel
theorem dX6_gate_34 : decode cX6_gate 34 = .ok (.aload_n 0, 1) := by decide +kernel
theorem dX6_gate_35 : decode cX6_gate 35 = .ok (.getfield 14, 3) := by decide +kernel
theorem dX6_gate_38 : decode cX6_gate 38 = .ok (.iload_n 1, 1) := by decide +kernel
theorem dX6_gate_39 : decode cX6_gate 39 = .ok (.putfield 32, 3) := by decide +kernel
theorem dX6_gate_42 : decode cX6_gate 42 = .ok (.aload_n 0, 1) := by decide +kernel
theorem dX6_gate_43 : decode cX6_gate 43 = .ok (.getfield 14, 3) := by decide +kernel
theorem dX6_gate_46 : decode cX6_gate 46 = .ok (.iload_n 2, 1) := by decide +kernel
theorem dX6_gate_47 : decode cX6_gate 47 = .ok (.putfield 36, 3) := by decide +kernel
theorem dX6_gate_50 : decode cX6_gate 50 = .ok (.aload_n 0, 1) := by decide +kernel
theorem dX6_gate_51 : decode cX6_gate 51 = .ok (.getfield 14, 3) := by decide +kernel
theorem dX6_gate_54 : decode cX6_gate 54 = .ok (.iload_n 3, 1) := by decide +kernel
theorem dX6_gate_55 : decode cX6_gate 55 = .ok (.putfield 39, 3) := by decide +kernel
theorem dX6_gate_58 : decode cX6_gate 58 = .ok (.iconst 1, 1) := by decide +kernel
theorem dX6_gate_59 : decode cX6_gate 59 = .ok (.ireturn, 1) := by decide +kernel
set_option maxRecDepth 20000 in
theorem ggX6_guests_X6_within : GoodIn wsX6_guests wsX6_within := goodIn_r _ [5] (by decide +kernel) (by decide +kernel)
set_option maxRecDepth 20000 in
theorem gX6_guests_X6_within : GoodIn wsX6_guests (va_wsS RX6 28 yX6_within wsX6_within) := goodIn_app (goodIn_of _ (by decide +kernel)) ggX6_guests_X6_within
theorem dX6_guests_0 : decode cX6_guests 0 = .ok (.iload_n 1, 1) := by decide +kernel
theorem dX6_guests_1 : decode cX6_guests 1 = .ok (.iconst 0, 1) := by decide +kernel
theorem dX6_guests_2 : decode cX6_guests 2 = .ok (.sipush 200, 3) := by decide +kernel
theorem dX6_guests_5 : decode cX6_guests 5 = .ok (.invokestatic 28, 3) := by decide +kernel
theorem dX6_guests_8 : decode cX6_guests 8 = .ok (.ifCond .ne 6, 3) := by decide +kernel
theorem dX6_guests_11 : decode cX6_guests 11 = .ok (.bipush (-2), 2) := by decide +kernel
theorem dX6_guests_13 : decode cX6_guests 13 = .ok (.ireturn, 1) := by decide +kernel
theorem dX6_guests_14 : decode cX6_guests 14 = .ok (.aload_n 0, 1) := by decide +kernel
theorem dX6_guests_15 : decode cX6_guests 15 = .ok (.getfield 42, 3) := by decide +kernel
theorem dX6_guests_18 : decode cX6_guests 18 = .ok (.istore_n 2, 1) := by decide +kernel
theorem dX6_guests_19 : decode cX6_guests 19 = .ok (.aload_n 0, 1) := by decide +kernel
theorem dX6_guests_20 : decode cX6_guests 20 = .ok (.iload_n 1, 1) := by decide +kernel
theorem dX6_guests_21 : decode cX6_guests 21 = .ok (.putfield 42, 3) := by decide +kernel
theorem dX6_guests_24 : decode cX6_guests 24 = .ok (.iload_n 2, 1) := by decide +kernel
theorem dX6_guests_25 : decode cX6_guests 25 = .ok (.ireturn, 1) := by decide +kernel
set_option maxRecDepth 20000 in
theorem ggX6_stock_X6_senderOf : GoodIn wsX6_stock wsX6_senderOf := goodIn_r _ [7, 8, 9, 29, 30, 31, 32, 33, 34] (by decide +kernel) (by decide +kernel)
set_option maxRecDepth 20000 in
theorem gX6_stock_X6_senderOf : GoodIn wsX6_stock (wsV RX6 45 RX6 yX6_senderOf wsX6_senderOf) := goodIn_app (goodIn_of _ (by decide +kernel)) ggX6_stock_X6_senderOf
set_option maxRecDepth 20000 in
theorem ggX6_stock_X6_within : GoodIn wsX6_stock wsX6_within := goodIn_r _ [12] (by decide +kernel) (by decide +kernel)
set_option maxRecDepth 20000 in
theorem gX6_stock_X6_within : GoodIn wsX6_stock (va_wsS RX6 28 yX6_within wsX6_within) := goodIn_app (goodIn_of _ (by decide +kernel)) ggX6_stock_X6_within
theorem dX6_stock_0 : decode cX6_stock 0 = .ok (.aload_n 0, 1) := by decide +kernel
theorem dX6_stock_1 : decode cX6_stock 1 = .ok (.iload_n 1, 1) := by decide +kernel
theorem dX6_stock_2 : decode cX6_stock 2 = .ok (.invokevirtual 45, 3) := by decide +kernel
theorem dX6_stock_5 : decode cX6_stock 5 = .ok (.astore_n 3, 1) := by decide +kernel
theorem dX6_stock_6 : decode cX6_stock 6 = .ok (.aload_n 3, 1) := by decide +kernel
theorem dX6_stock_7 : decode cX6_stock 7 = .ok (.ifnonnull 5, 3) := by decide +kernel
theorem dX6_stock_10 : decode cX6_stock 10 = .ok (.iconst (-1), 1) := by decide +kernel
theorem dX6_stock_11 : decode cX6_stock 11 = .ok (.ireturn, 1) := by decide +kernel
theorem dX6_stock_12 : decode cX6_stock 12 = .ok (.iload_n 2, 1) := by decide +kernel
theorem dX6_stock_13 : decode cX6_stock 13 = .ok (.iconst 1, 1) := by decide +kernel
theorem dX6_stock_14 : decode cX6_stock 14 = .ok (.sipush 5000, 3) := by decide +kernel
theorem dX6_stock_17 : decode cX6_stock 17 = .ok (.invokestatic 28, 3) := by decide +kernel
theorem dX6_stock_20 : decode cX6_stock 20 = .ok (.ifCond .ne 6, 3) := by decide +kernel
theorem dX6_stock_23 : decode cX6_stock 23 = .ok (.bipush (-2), 2) := by decide +kernel
theorem dX6_stock_25 : decode cX6_stock 25 = .ok (.ireturn, 1) := by decide +kernel
theorem dX6_stock_26 : decode cX6_stock 26 = .ok (.aload_n 3, 1) := by decide +kernel
theorem dX6_stock_27 : decode cX6_stock 27 = .ok (.getfield 49, 3) := by decide +kernel
theorem dX6_stock_30 : decode cX6_stock 30 = .ok (.iload_n 2, 1) := by decide +kernel
theorem dX6_stock_31 : decode cX6_stock 31 = .ok (.iadd, 1) := by decide +kernel
theorem dX6_stock_32 : decode cX6_stock 32 = .ok (.ldc 52, 2) := by decide +kernel
theorem dX6_stock_34 : decode cX6_stock 34 = .ok (.if_icmp .le 6, 3) := by decide +kernel
theorem dX6_stock_37 : decode cX6_stock 37 = .ok (.bipush (-4), 2) := by decide +kernel
theorem dX6_stock_39 : decode cX6_stock 39 = .ok (.ireturn, 1) := by decide +kernel
theorem dX6_stock_40 : decode cX6_stock 40 = .ok (.aload_n 3, 1) := by decide +kernel
theorem dX6_stock_41 : decode cX6_stock 41 = .ok (.dup, 1) := by decide +kernel
theorem dX6_stock_42 : decode cX6_stock 42 = .ok (.getfield 49, 3) := by decide +kernel
theorem dX6_stock_45 : decode cX6_stock 45 = .ok (.iload_n 2, 1) := by decide +kernel
theorem dX6_stock_46 : decode cX6_stock 46 = .ok (.iadd, 1) := by decide +kernel
theorem dX6_stock_47 : decode cX6_stock 47 = .ok (.putfield 49, 3) := by decide +kernel
theorem dX6_stock_50 : decode cX6_stock 50 = .ok (.aload_n 3, 1) := by decide +kernel
theorem dX6_stock_51 : decode cX6_stock 51 = .ok (.getfield 49, 3) := by decide +kernel
theorem dX6_stock_54 : decode cX6_stock 54 = .ok (.ireturn, 1) := by decide +kernel
set_option maxRecDepth 20000 in
theorem ggX6_pass_X6_within : GoodIn wsX6_pass wsX6_within := goodIn_r _ [4] (by decide +kernel) (by decide +kernel)
set_option maxRecDepth 20000 in
theorem gX6_pass_X6_within : GoodIn wsX6_pass (va_wsS RX6 28 yX6_within wsX6_within) := goodIn_app (goodIn_of _ (by decide +kernel)) ggX6_pass_X6_within
set_option maxRecDepth 20000 in
theorem ggX6_pass_X6_runTick : GoodIn wsX6_pass wsX6_runTick := goodIn_r _ [8, 9, 10, 11, 12, 13, 14, 15, 16, 17, 18, 19, 20, 21, 22, 23, 24, 25, 26, 27, 28, 29, 30, 31, 32, 33, 34, 35, 36, 37, 38, 39, 40, 41, 42, 43, 44, 45, 46, 47, 48, 49, 50, 51, 52, 53, 54, 55, 56, 57, 58, 59, 60, 61, 62, 63, 64, 65, 66, 67, 68, 69, 70, 71, 72, 73, 74, 75, 76, 77, 78, 79, 80, 81, 82, 83, 84, 85, 86, 87, 88, 89, 90, 91, 92, 93, 94, 95, 96, 97, 98, 99, 100, 101, 102, 103, 104, 105, 106, 107, 108, 109, 110, 111, 112, 113, 114, 115, 116, 117, 118, 119, 120, 121, 122, 123, 124, 125, 126, 127, 128, 129, 130, 131, 132, 133, 134, 135, 136, 137, 138, 139, 140, 141, 142, 143, 144, 145, 146, 147, 148, 149, 150, 151, 152, 153, 154, 155, 156, 157, 158, 159, 160, 161, 162, 163, 164, 165, 166, 167, 168, 169, 170, 171, 172, 173, 174, 175, 176, 177, 178, 179, 180, 181, 182, 183, 184, 185, 186, 187, 188, 189, 190, 191, 192, 193, 194, 195, 196, 197, 198, 199, 200, 201, 202, 203, 204, 205, 206, 207, 208, 209, 210, 211, 212, 213, 214, 215, 216, 217, 218, 219, 220, 221, 222, 223, 224, 225, 226, 227, 228, 229, 230, 231, 232, 233, 234, 235, 236, 237, 238, 239, 240, 241, 242, 243, 244, 245, 246, 247, 248, 249, 250, 251, 252, 253, 254, 255, 256, 257, 258, 259, 260, 261, 262, 263, 264, 265, 266, 267, 268, 269, 270, 271, 272, 273, 274, 275, 276, 277, 278, 279, 280, 281, 282, 283, 284, 285, 286, 287, 288, 289, 290, 291, 292, 293, 294, 295, 296, 297, 298, 299, 300, 301, 302, 303] (by decide +kernel) (by decide +kernel)
set_option maxRecDepth 20000 in
theorem gX6_pass_X6_runTick : GoodIn wsX6_pass (wsV RX6 53 RX6 yX6_runTick wsX6_runTick) := goodIn_app (goodIn_of _ (by decide +kernel)) ggX6_pass_X6_runTick
theorem dX6_pass_0 : decode cX6_pass 0 = .ok (.iload_n 1, 1) := by decide +kernel
theorem dX6_pass_1 : decode cX6_pass 1 = .ok (.iconst 1, 1) := by decide +kernel
theorem dX6_pass_2 : decode cX6_pass 2 = .ok (.sipush 2000, 3) := by decide +kernel
theorem dX6_pass_5 : decode cX6_pass 5 = .ok (.invokestatic 28, 3) := by decide +kernel
theorem dX6_pass_8 : decode cX6_pass 8 = .ok (.ifCond .ne 6, 3) := by decide +kernel
theorem dX6_pass_11 : decode cX6_pass 11 = .ok (.bipush (-2), 2) := by decide +kernel
theorem dX6_pass_13 : decode cX6_pass 13 = .ok (.ireturn, 1) := by decide +kernel
theorem dX6_pass_14 : decode cX6_pass 14 = .ok (.iconst 0, 1) := by decide +kernel
theorem dX6_pass_15 : decode cX6_pass 15 = .ok (.istore_n 2, 1) := by decide +kernel
theorem dX6_pass_16 : decode cX6_pass 16 = .ok (.iconst 0, 1) := by decide +kernel
theorem dX6_pass_17 : decode cX6_pass 17 = .ok (.istore_n 3, 1) := by decide +kernel
theorem dX6_pass_18 : decode cX6_pass 18 = .ok (.iload_n 3, 1) := by decide +kernel
theorem dX6_pass_19 : decode cX6_pass 19 = .ok (.iload_n 1, 1) := by decide +kernel
theorem dX6_pass_20 : decode cX6_pass 20 = .ok (.if_icmp .ge 16, 3) := by decide +kernel
theorem dX6_pass_23 : decode cX6_pass 23 = .ok (.iload_n 2, 1) := by decide +kernel
theorem dX6_pass_24 : decode cX6_pass 24 = .ok (.aload_n 0, 1) := by decide +kernel
theorem dX6_pass_25 : decode cX6_pass 25 = .ok (.invokevirtual 53, 3) := by decide +kernel
theorem dX6_pass_28 : decode cX6_pass 28 = .ok (.iadd, 1) := by decide +kernel
theorem dX6_pass_29 : decode cX6_pass 29 = .ok (.istore_n 2, 1) := by decide +kernel
theorem dX6_pass_30 : decode cX6_pass 30 = .ok (.iinc 3 1, 3) := by decide +kernel
theorem dX6_pass_33 : decode cX6_pass 33 = .ok (.goto (-15), 3) := by decide +kernel
theorem dX6_pass_36 : decode cX6_pass 36 = .ok (.iload_n 2, 1) := by decide +kernel
theorem dX6_pass_37 : decode cX6_pass 37 = .ok (.ireturn, 1) := by decide +kernel
set_option maxRecDepth 20000 in
theorem ggX6_ofGate_X6_asNumber : GoodIn wsX6_ofGate wsX6_asNumber := goodIn_r _ [13] (by decide +kernel) (by decide +kernel)
set_option maxRecDepth 20000 in
theorem gX6_ofGate_X6_asNumber : GoodIn wsX6_ofGate (va_wsS RX6 64 yX6_asNumber wsX6_asNumber) := goodIn_app (goodIn_of _ (by decide +kernel)) ggX6_ofGate_X6_asNumber
theorem dX6_ofGate_0 : decode cX6_ofGate 0 = .ok (.iload_n 1, 1) := by decide +kernel
theorem dX6_ofGate_1 : decode cX6_ofGate 1 = .ok (.tableswitch 110 0 6 #[43, 51, 70, 78, 86, 94, 102], 43) := by decide +kernel
theorem dX6_ofGate_44 : decode cX6_ofGate 44 = .ok (.aload_n 0, 1) := by decide +kernel
theorem dX6_ofGate_45 : decode cX6_ofGate 45 = .ok (.getfield 14, 3) := by decide +kernel
theorem dX6_ofGate_48 : decode cX6_ofGate 48 = .ok (.getfield 57, 3) := by decide +kernel
theorem dX6_ofGate_51 : decode cX6_ofGate 51 = .ok (.ireturn, 1) := by decide +kernel
theorem dX6_ofGate_52 : decode cX6_ofGate 52 = .ok (.aload_n 0, 1) := by decide +kernel
theorem dX6_ofGate_53 : decode cX6_ofGate 53 = .ok (.getfield 14, 3) := by decide +kernel
theorem dX6_ofGate_56 : decode cX6_ofGate 56 = .ok (.getfield 60, 3) := by decide +kernel
theorem dX6_ofGate_59 : decode cX6_ofGate 59 = .ok (.ifnull 7, 3) := by decide +kernel
theorem dX6_ofGate_62 : decode cX6_ofGate 62 = .ok (.iconst 1, 1) := by decide +kernel
theorem dX6_ofGate_63 : decode cX6_ofGate 63 = .ok (.goto 4, 3) := by decide +kernel
theorem dX6_ofGate_66 : decode cX6_ofGate 66 = .ok (.iconst 0, 1) := by decide +kernel
theorem dX6_ofGate_67 : decode cX6_ofGate 67 = .ok (.invokestatic 64, 3) := by decide +kernel
theorem dX6_ofGate_70 : decode cX6_ofGate 70 = .ok (.ireturn, 1) := by decide +kernel
theorem dX6_ofGate_71 : decode cX6_ofGate 71 = .ok (.aload_n 0, 1) := by decide +kernel
theorem dX6_ofGate_72 : decode cX6_ofGate 72 = .ok (.getfield 21, 3) := by decide +kernel
theorem dX6_ofGate_75 : decode cX6_ofGate 75 = .ok (.getfield 68, 3) := by decide +kernel
theorem dX6_ofGate_78 : decode cX6_ofGate 78 = .ok (.ireturn, 1) := by decide +kernel
theorem dX6_ofGate_79 : decode cX6_ofGate 79 = .ok (.aload_n 0, 1) := by decide +kernel
theorem dX6_ofGate_80 : decode cX6_ofGate 80 = .ok (.getfield 25, 3) := by decide +kernel
theorem dX6_ofGate_83 : decode cX6_ofGate 83 = .ok (.getfield 68, 3) := by decide +kernel
theorem dX6_ofGate_86 : decode cX6_ofGate 86 = .ok (.ireturn, 1) := by decide +kernel
theorem dX6_ofGate_87 : decode cX6_ofGate 87 = .ok (.aload_n 0, 1) := by decide +kernel
theorem dX6_ofGate_88 : decode cX6_ofGate 88 = .ok (.getfield 14, 3) := by decide +kernel
theorem dX6_ofGate_91 : decode cX6_ofGate 91 = .ok (.getfield 71, 3) := by decide +kernel
theorem dX6_ofGate_94 : decode cX6_ofGate 94 = .ok (.ireturn, 1) := by decide +kernel
theorem dX6_ofGate_95 : decode cX6_ofGate 95 = .ok (.aload_n 0, 1) := by decide +kernel
theorem dX6_ofGate_96 : decode cX6_ofGate 96 = .ok (.getfield 14, 3) := by decide +kernel
theorem dX6_ofGate_99 : decode cX6_ofGate 99 = .ok (.getfield 74, 3) := by decide +kernel
theorem dX6_ofGate_102 : decode cX6_ofGate 102 = .ok (.ireturn, 1) := by decide +kernel
theorem dX6_ofGate_103 : decode cX6_ofGate 103 = .ok (.aload_n 0, 1) := by decide +kernel
theorem dX6_ofGate_104 : decode cX6_ofGate 104 = .ok (.getfield 14, 3) := by decide +kernel
theorem dX6_ofGate_107 : decode cX6_ofGate 107 = .ok (.getfield 77, 3) := by decide +kernel
theorem dX6_ofGate_110 : decode cX6_ofGate 110 = .ok (.ireturn, 1) := by decide +kernel
theorem dX6_ofGate_111 : decode cX6_ofGate 111 = .ok (.bipush (-2), 2) := by decide +kernel
theorem dX6_ofGate_113 : decode cX6_ofGate 113 = .ok (.ireturn, 1) := by decide +kernel
set_option maxRecDepth 20000 in
theorem ggX6_busy_X6_within : GoodIn wsX6_busy wsX6_within := goodIn_r _ [7] (by decide +kernel) (by decide +kernel)
set_option maxRecDepth 20000 in
theorem gX6_busy_X6_within : GoodIn wsX6_busy (va_wsS RX6 28 yX6_within wsX6_within) := goodIn_app (goodIn_of _ (by decide +kernel)) ggX6_busy_X6_within
set_option maxRecDepth 20000 in
theorem ggX6_busy_X6_greatestDivisor : GoodIn wsX6_busy wsX6_greatestDivisor := goodIn_r _ [10] (by decide +kernel) (by decide +kernel)
set_option maxRecDepth 20000 in
theorem gX6_busy_X6_greatestDivisor : GoodIn wsX6_busy (va_wsS RX6 88 yX6_greatestDivisor wsX6_greatestDivisor) := goodIn_app (goodIn_of _ (by decide +kernel)) ggX6_busy_X6_greatestDivisor
theorem dX6_busy_0 : decode cX6_busy 0 = .ok (.iload_n 1, 1) := by decide +kernel
theorem dX6_busy_1 : decode cX6_busy 1 = .ok (.iconst 0, 1) := by decide +kernel
theorem dX6_busy_2 : decode cX6_busy 2 = .ok (.iconst 1, 1) := by decide +kernel
theorem dX6_busy_3 : decode cX6_busy 3 = .ok (.invokestatic 28, 3) := by decide +kernel
theorem dX6_busy_6 : decode cX6_busy 6 = .ok (.ifCond .ne 7, 3) := by decide +kernel
theorem dX6_busy_9 : decode cX6_busy 9 = .ok (.ldc2_w 80, 3) := by decide +kernel
theorem dX6_busy_12 : decode cX6_busy 12 = .ok (.lreturn, 1) := by decide +kernel
theorem dX6_busy_13 : decode cX6_busy 13 = .ok (.aload_n 0, 1) := by decide +kernel
theorem dX6_busy_14 : decode cX6_busy 14 = .ok (.getfield 82, 3) := by decide +kernel
theorem dX6_busy_17 : decode cX6_busy 17 = .ok (.aload_n 0, 1) := by decide +kernel
theorem dX6_busy_18 : decode cX6_busy 18 = .ok (.getfield 85, 3) := by decide +kernel
theorem dX6_busy_21 : decode cX6_busy 21 = .ok (.invokestatic 88, 3) := by decide +kernel
theorem dX6_busy_24 : decode cX6_busy 24 = .ok (.istore_n 2, 1) := by decide +kernel
theorem dX6_busy_25 : decode cX6_busy 25 = .ok (.iload_n 2, 1) := by decide +kernel
theorem dX6_busy_26 : decode cX6_busy 26 = .ok (.ifCond .ne 6, 3) := by decide +kernel
theorem dX6_busy_29 : decode cX6_busy 29 = .ok (.iload_n 1, 1) := by decide +kernel
theorem dX6_busy_30 : decode cX6_busy 30 = .ok (.i2l, 1) := by decide +kernel
theorem dX6_busy_31 : decode cX6_busy 31 = .ok (.lreturn, 1) := by decide +kernel
theorem dX6_busy_32 : decode cX6_busy 32 = .ok (.iload_n 1, 1) := by decide +kernel
theorem dX6_busy_33 : decode cX6_busy 33 = .ok (.ifCond .ne 10, 3) := by decide +kernel
theorem dX6_busy_36 : decode cX6_busy 36 = .ok (.aload_n 0, 1) := by decide +kernel
theorem dX6_busy_37 : decode cX6_busy 37 = .ok (.getfield 82, 3) := by decide +kernel
theorem dX6_busy_40 : decode cX6_busy 40 = .ok (.goto 7, 3) := by decide +kernel
theorem dX6_busy_43 : decode cX6_busy 43 = .ok (.aload_n 0, 1) := by decide +kernel
theorem dX6_busy_44 : decode cX6_busy 44 = .ok (.getfield 85, 3) := by decide +kernel
theorem dX6_busy_47 : decode cX6_busy 47 = .ok (.iload_n 2, 1) := by decide +kernel
theorem dX6_busy_48 : decode cX6_busy 48 = .ok (.idiv, 1) := by decide +kernel
theorem dX6_busy_49 : decode cX6_busy 49 = .ok (.i2l, 1) := by decide +kernel
theorem dX6_busy_50 : decode cX6_busy 50 = .ok (.lreturn, 1) := by decide +kernel
set_option maxRecDepth 20000 in
theorem ggX6_ofSender_X6_senderOf : GoodIn wsX6_ofSender wsX6_senderOf := goodIn_r _ [24, 25, 26, 85, 86, 87, 88, 89, 90] (by decide +kernel) (by decide +kernel)
set_option maxRecDepth 20000 in
theorem gX6_ofSender_X6_senderOf : GoodIn wsX6_ofSender (wsV RX6 45 RX6 yX6_senderOf wsX6_senderOf) := goodIn_app (goodIn_of _ (by decide +kernel)) ggX6_ofSender_X6_senderOf
set_option maxRecDepth 20000 in
theorem ggX6_ofSender_X5_product : GoodIn wsX6_ofSender wsX5_product := goodIn_r _ [31, 32, 33, 34, 55, 56, 57, 58, 59, 60, 61, 62, 63, 64, 65, 66, 67, 68, 69, 70] (by decide +kernel) (by decide +kernel)
set_option maxRecDepth 20000 in
theorem gX6_ofSender_X5_product : GoodIn wsX6_ofSender (wsV RX6 119 RX5 yX5_product wsX5_product) := goodIn_app (goodIn_of _ (by decide +kernel)) ggX6_ofSender_X5_product
set_option maxRecDepth 20000 in
theorem ggX6_ofSender_X5_window : GoodIn wsX6_ofSender wsX5_window := goodIn_r _ [38, 39, 40, 41, 33, 32, 42, 43, 44, 45, 46, 17, 18, 19, 47, 28, 29, 30, 31, 34, 55, 56, 57, 58, 59, 60, 61, 62, 63, 64, 65, 66, 67, 68, 69, 70, 71, 72, 73, 74, 75, 76, 77, 78, 79, 80, 81, 82] (by decide +kernel) (by decide +kernel)
set_option maxRecDepth 20000 in
theorem gX6_ofSender_X5_window : GoodIn wsX6_ofSender (wsV RX6 123 RX5 yX5_window wsX5_window) := goodIn_app (goodIn_of _ (by decide +kernel)) ggX6_ofSender_X5_window
set_option maxRecDepth 20000 in
theorem ggX6_ofSender_X0_gain : GoodIn wsX6_ofSender wsX0_gain := goodIn_r _ [52, 53, 54, 71, 72, 73, 74, 75, 76, 77, 78, 79, 80, 81, 82] (by decide +kernel) (by decide +kernel)
set_option maxRecDepth 20000 in
theorem gX6_ofSender_X0_gain : GoodIn wsX6_ofSender (wsV RX6 126 RX0 yX0_gain wsX0_gain) := goodIn_app (goodIn_of _ (by decide +kernel)) ggX6_ofSender_X0_gain
theorem dX6_ofSender_0 : decode cX6_ofSender 0 = .ok (.aload_n 0, 1) := by decide +kernel
theorem dX6_ofSender_1 : decode cX6_ofSender 1 = .ok (.iload_n 1, 1) := by decide +kernel
theorem dX6_ofSender_2 : decode cX6_ofSender 2 = .ok (.invokevirtual 45, 3) := by decide +kernel
theorem dX6_ofSender_5 : decode cX6_ofSender 5 = .ok (.astore_n 3, 1) := by decide +kernel
theorem dX6_ofSender_6 : decode cX6_ofSender 6 = .ok (.aload_n 3, 1) := by decide +kernel
theorem dX6_ofSender_7 : decode cX6_ofSender 7 = .ok (.ifnonnull 5, 3) := by decide +kernel
theorem dX6_ofSender_10 : decode cX6_ofSender 10 = .ok (.iconst (-1), 1) := by decide +kernel
theorem dX6_ofSender_11 : decode cX6_ofSender 11 = .ok (.ireturn, 1) := by decide +kernel
theorem dX6_ofSender_12 : decode cX6_ofSender 12 = .ok (.iload_n 2, 1) := by decide +kernel
theorem dX6_ofSender_13 : decode cX6_ofSender 13 = .ok (.tableswitch 167 0 13 #[71, 79, 87, 92, 97, 102, 108, 114, 122, 127, 132, 137, 142, 147], 71) := by decide +kernel
theorem dX6_ofSender_84 : decode cX6_ofSender 84 = .ok (.aload_n 3, 1) := by decide +kernel
theorem dX6_ofSender_85 : decode cX6_ofSender 85 = .ok (.getfield 92, 3) := by decide +kernel
theorem dX6_ofSender_88 : decode cX6_ofSender 88 = .ok (.getfield 96, 3) := by decide +kernel
theorem dX6_ofSender_91 : decode cX6_ofSender 91 = .ok (.ireturn, 1) := by decide +kernel
theorem dX6_ofSender_92 : decode cX6_ofSender 92 = .ok (.aload_n 3, 1) := by decide +kernel
theorem dX6_ofSender_93 : decode cX6_ofSender 93 = .ok (.getfield 101, 3) := by decide +kernel
theorem dX6_ofSender_96 : decode cX6_ofSender 96 = .ok (.getfield 105, 3) := by decide +kernel
theorem dX6_ofSender_99 : decode cX6_ofSender 99 = .ok (.ireturn, 1) := by decide +kernel
theorem dX6_ofSender_100 : decode cX6_ofSender 100 = .ok (.aload_n 3, 1) := by decide +kernel
theorem dX6_ofSender_101 : decode cX6_ofSender 101 = .ok (.getfield 110, 3) := by decide +kernel
theorem dX6_ofSender_104 : decode cX6_ofSender 104 = .ok (.ireturn, 1) := by decide +kernel
theorem dX6_ofSender_105 : decode cX6_ofSender 105 = .ok (.aload_n 3, 1) := by decide +kernel
theorem dX6_ofSender_106 : decode cX6_ofSender 106 = .ok (.getfield 113, 3) := by decide +kernel
theorem dX6_ofSender_109 : decode cX6_ofSender 109 = .ok (.ireturn, 1) := by decide +kernel
theorem dX6_ofSender_110 : decode cX6_ofSender 110 = .ok (.aload_n 3, 1) := by decide +kernel
theorem dX6_ofSender_111 : decode cX6_ofSender 111 = .ok (.getfield 116, 3) := by decide +kernel
theorem dX6_ofSender_114 : decode cX6_ofSender 114 = .ok (.ireturn, 1) := by decide +kernel
theorem dX6_ofSender_115 : decode cX6_ofSender 115 = .ok (.aload_n 3, 1) := by decide +kernel
theorem dX6_ofSender_116 : decode cX6_ofSender 116 = .ok (.invokevirtual 119, 3) := by decide +kernel
theorem dX6_ofSender_119 : decode cX6_ofSender 119 = .ok (.l2i, 1) := by decide +kernel
theorem dX6_ofSender_120 : decode cX6_ofSender 120 = .ok (.ireturn, 1) := by decide +kernel
theorem dX6_ofSender_121 : decode cX6_ofSender 121 = .ok (.aload_n 3, 1) := by decide +kernel
theorem dX6_ofSender_122 : decode cX6_ofSender 122 = .ok (.invokevirtual 123, 3) := by decide +kernel
theorem dX6_ofSender_125 : decode cX6_ofSender 125 = .ok (.l2i, 1) := by decide +kernel
theorem dX6_ofSender_126 : decode cX6_ofSender 126 = .ok (.ireturn, 1) := by decide +kernel
theorem dX6_ofSender_127 : decode cX6_ofSender 127 = .ok (.aload_n 3, 1) := by decide +kernel
theorem dX6_ofSender_128 : decode cX6_ofSender 128 = .ok (.getfield 92, 3) := by decide +kernel
theorem dX6_ofSender_131 : decode cX6_ofSender 131 = .ok (.invokevirtual 126, 3) := by decide +kernel
theorem dX6_ofSender_134 : decode cX6_ofSender 134 = .ok (.ireturn, 1) := by decide +kernel
theorem dX6_ofSender_135 : decode cX6_ofSender 135 = .ok (.aload_n 3, 1) := by decide +kernel
theorem dX6_ofSender_136 : decode cX6_ofSender 136 = .ok (.getfield 129, 3) := by decide +kernel
theorem dX6_ofSender_139 : decode cX6_ofSender 139 = .ok (.ireturn, 1) := by decide +kernel
theorem dX6_ofSender_140 : decode cX6_ofSender 140 = .ok (.aload_n 3, 1) := by decide +kernel
theorem dX6_ofSender_141 : decode cX6_ofSender 141 = .ok (.getfield 132, 3) := by decide +kernel
theorem dX6_ofSender_144 : decode cX6_ofSender 144 = .ok (.ireturn, 1) := by decide +kernel
theorem dX6_ofSender_145 : decode cX6_ofSender 145 = .ok (.aload_n 3, 1) := by decide +kernel
theorem dX6_ofSender_146 : decode cX6_ofSender 146 = .ok (.getfield 49, 3) := by decide +kernel
theorem dX6_ofSender_149 : decode cX6_ofSender 149 = .ok (.ireturn, 1) := by decide +kernel
theorem dX6_ofSender_150 : decode cX6_ofSender 150 = .ok (.aload_n 3, 1) := by decide +kernel
theorem dX6_ofSender_151 : decode cX6_ofSender 151 = .ok (.getfield 135, 3) := by decide +kernel
theorem dX6_ofSender_154 : decode cX6_ofSender 154 = .ok (.ireturn, 1) := by decide +kernel
theorem dX6_ofSender_155 : decode cX6_ofSender 155 = .ok (.aload_n 3, 1) := by decide +kernel
theorem dX6_ofSender_156 : decode cX6_ofSender 156 = .ok (.getfield 138, 3) := by decide +kernel
theorem dX6_ofSender_159 : decode cX6_ofSender 159 = .ok (.ireturn, 1) := by decide +kernel
theorem dX6_ofSender_160 : decode cX6_ofSender 160 = .ok (.lconst 0, 1) := by decide +kernel
theorem dX6_ofSender_161 : decode cX6_ofSender 161 = .ok (.aload_n 3, 1) := by decide +kernel
theorem dX6_ofSender_162 : decode cX6_ofSender 162 = .ok (.getfield 141, 3) := by decide +kernel
theorem dX6_ofSender_165 : decode cX6_ofSender 165 = .ok (.ldc2_w 145, 3) := by decide +kernel
theorem dX6_ofSender_168 : decode cX6_ofSender 168 = .ok (.aload_n 0, 1) := by decide +kernel
theorem dX6_ofSender_169 : decode cX6_ofSender 169 = .ok (.getfield 85, 3) := by decide +kernel
theorem dX6_ofSender_172 : decode cX6_ofSender 172 = .ok (.i2l, 1) := by decide +kernel
theorem dX6_ofSender_173 : decode cX6_ofSender 173 = .ok (.lmul, 1) := by decide +kernel
theorem dX6_ofSender_174 : decode cX6_ofSender 174 = .ok (.lsub, 1) := by decide +kernel
theorem dX6_ofSender_175 : decode cX6_ofSender 175 = .ok (.invokestatic 147, 3) := by decide +kernel
theorem dX6_ofSender_178 : decode cX6_ofSender 178 = .ok (.l2i, 1) := by decide +kernel
theorem dX6_ofSender_179 : decode cX6_ofSender 179 = .ok (.ireturn, 1) := by decide +kernel
theorem dX6_ofSender_180 : decode cX6_ofSender 180 = .ok (.bipush (-2), 2) := by decide +kernel
theorem dX6_ofSender_182 : decode cX6_ofSender 182 = .ok (.ireturn, 1) := by decide +kernel
set_option maxRecDepth 20000 in
theorem ggX6_sample_X6_senderOf : GoodIn wsX6_sample wsX6_senderOf := goodIn_r _ [8, 9, 10, 51, 52, 53, 54, 55, 56] (by decide +kernel) (by decide +kernel)
set_option maxRecDepth 20000 in
theorem gX6_sample_X6_senderOf : GoodIn wsX6_sample (wsV RX6 45 RX6 yX6_senderOf wsX6_senderOf) := goodIn_app (goodIn_of _ (by decide +kernel)) ggX6_sample_X6_senderOf
set_option maxRecDepth 20000 in
theorem ggX6_sample_X6_within : GoodIn wsX6_sample wsX6_within := goodIn_r _ [13] (by decide +kernel) (by decide +kernel)
set_option maxRecDepth 20000 in
theorem gX6_sample_X6_within : GoodIn wsX6_sample (va_wsS RX6 28 yX6_within wsX6_within) := goodIn_app (goodIn_of _ (by decide +kernel)) ggX6_sample_X6_within
set_option maxRecDepth 20000 in
theorem ggX6_sample_X4_roundsOf : GoodIn wsX6_sample wsX4_roundsOf := goodIn_r _ [18, 19, 46, 47, 48, 49, 50] (by decide +kernel) (by decide +kernel)
set_option maxRecDepth 20000 in
theorem gX6_sample_X4_roundsOf : GoodIn wsX6_sample (wsV RX6 160 RX4 yX4_roundsOf wsX4_roundsOf) := goodIn_app (goodIn_of _ (by decide +kernel)) ggX6_sample_X4_roundsOf
set_option maxRecDepth 20000 in
theorem ggX6_sample_X4_rateOf : GoodIn wsX6_sample wsX4_rateOf := goodIn_r _ [23, 24, 25, 26, 27, 17, 28, 29, 46, 47, 48, 49, 50] (by decide +kernel) (by decide +kernel)
set_option maxRecDepth 20000 in
theorem gX6_sample_X4_rateOf : GoodIn wsX6_sample (wsV RX6 163 RX4 yX4_rateOf wsX4_rateOf) := goodIn_app (goodIn_of _ (by decide +kernel)) ggX6_sample_X4_rateOf
theorem dX6_sample_0 : decode cX6_sample 0 = .ok (.aload_n 0, 1) := by decide +kernel
theorem dX6_sample_1 : decode cX6_sample 1 = .ok (.iload_n 1, 1) := by decide +kernel
theorem dX6_sample_2 : decode cX6_sample 2 = .ok (.invokevirtual 45, 3) := by decide +kernel
theorem dX6_sample_5 : decode cX6_sample 5 = .ok (.astore 4, 2) := by decide +kernel
theorem dX6_sample_7 : decode cX6_sample 7 = .ok (.aload 4, 2) := by decide +kernel
theorem dX6_sample_9 : decode cX6_sample 9 = .ok (.ifnull 21, 3) := by decide +kernel
theorem dX6_sample_12 : decode cX6_sample 12 = .ok (.iload_n 2, 1) := by decide +kernel
theorem dX6_sample_13 : decode cX6_sample 13 = .ok (.iconst 0, 1) := by decide +kernel
theorem dX6_sample_14 : decode cX6_sample 14 = .ok (.aload 4, 2) := by decide +kernel
theorem dX6_sample_16 : decode cX6_sample 16 = .ok (.getfield 153, 3) := by decide +kernel
theorem dX6_sample_19 : decode cX6_sample 19 = .ok (.getfield 157, 3) := by decide +kernel
theorem dX6_sample_22 : decode cX6_sample 22 = .ok (.iconst 1, 1) := by decide +kernel
theorem dX6_sample_23 : decode cX6_sample 23 = .ok (.isub, 1) := by decide +kernel
theorem dX6_sample_24 : decode cX6_sample 24 = .ok (.invokestatic 28, 3) := by decide +kernel
theorem dX6_sample_27 : decode cX6_sample 27 = .ok (.ifCond .ne 5, 3) := by decide +kernel
theorem dX6_sample_30 : decode cX6_sample 30 = .ok (.iconst (-1), 1) := by decide +kernel
theorem dX6_sample_31 : decode cX6_sample 31 = .ok (.ireturn, 1) := by decide +kernel
theorem dX6_sample_32 : decode cX6_sample 32 = .ok (.iload_n 3, 1) := by decide +kernel
theorem dX6_sample_33 : decode cX6_sample 33 = .ok (.lookupswitch 52 #[(0, 27), (1, 42)], 27) := by decide +kernel
theorem dX6_sample_60 : decode cX6_sample 60 = .ok (.aload 4, 2) := by decide +kernel
theorem dX6_sample_62 : decode cX6_sample 62 = .ok (.getfield 153, 3) := by decide +kernel
theorem dX6_sample_65 : decode cX6_sample 65 = .ok (.iload_n 2, 1) := by decide +kernel
theorem dX6_sample_66 : decode cX6_sample 66 = .ok (.aload 4, 2) := by decide +kernel
theorem dX6_sample_68 : decode cX6_sample 68 = .ok (.getfield 129, 3) := by decide +kernel
theorem dX6_sample_71 : decode cX6_sample 71 = .ok (.invokevirtual 160, 3) := by decide +kernel
theorem dX6_sample_74 : decode cX6_sample 74 = .ok (.ireturn, 1) := by decide +kernel
theorem dX6_sample_75 : decode cX6_sample 75 = .ok (.aload 4, 2) := by decide +kernel
theorem dX6_sample_77 : decode cX6_sample 77 = .ok (.getfield 153, 3) := by decide +kernel
theorem dX6_sample_80 : decode cX6_sample 80 = .ok (.iload_n 2, 1) := by decide +kernel
theorem dX6_sample_81 : decode cX6_sample 81 = .ok (.invokevirtual 163, 3) := by decide +kernel
theorem dX6_sample_84 : decode cX6_sample 84 = .ok (.ireturn, 1) := by decide +kernel
theorem dX6_sample_85 : decode cX6_sample 85 = .ok (.bipush (-2), 2) := by decide +kernel
theorem dX6_sample_87 : decode cX6_sample 87 = .ok (.ireturn, 1) := by decide +kernel
set_option maxRecDepth 20000 in
theorem ggX6_best_X6_senderOf : GoodIn wsX6_best wsX6_senderOf := goodIn_r _ [6, 7, 8, 39, 40, 41, 42, 43, 44] (by decide +kernel) (by decide +kernel)
set_option maxRecDepth 20000 in
theorem gX6_best_X6_senderOf : GoodIn wsX6_best (wsV RX6 45 RX6 yX6_senderOf wsX6_senderOf) := goodIn_app (goodIn_of _ (by decide +kernel)) ggX6_best_X6_senderOf
set_option maxRecDepth 20000 in
theorem ggX6_best_X6_within : GoodIn wsX6_best wsX6_within := goodIn_r _ [11] (by decide +kernel) (by decide +kernel)
set_option maxRecDepth 20000 in
theorem gX6_best_X6_within : GoodIn wsX6_best (va_wsS RX6 28 yX6_within wsX6_within) := goodIn_app (goodIn_of _ (by decide +kernel)) ggX6_best_X6_within
set_option maxRecDepth 20000 in
theorem ggX6_best_X4_greatestOfLast : GoodIn wsX6_best wsX4_greatestOfLast := goodIn_r _ [16, 17, 18, 19, 20, 21, 22, 45, 46, 47, 48, 49] (by decide +kernel) (by decide +kernel)
set_option maxRecDepth 20000 in
theorem gX6_best_X4_greatestOfLast : GoodIn wsX6_best (wsV RX6 167 RX4 yX4_greatestOfLast wsX4_greatestOfLast) := goodIn_app (goodIn_of _ (by decide +kernel)) ggX6_best_X4_greatestOfLast
theorem dX6_best_0 : decode cX6_best 0 = .ok (.aload_n 0, 1) := by decide +kernel
theorem dX6_best_1 : decode cX6_best 1 = .ok (.iload_n 1, 1) := by decide +kernel
theorem dX6_best_2 : decode cX6_best 2 = .ok (.invokevirtual 45, 3) := by decide +kernel
theorem dX6_best_5 : decode cX6_best 5 = .ok (.astore_n 3, 1) := by decide +kernel
theorem dX6_best_6 : decode cX6_best 6 = .ok (.aload_n 3, 1) := by decide +kernel
theorem dX6_best_7 : decode cX6_best 7 = .ok (.ifnonnull 5, 3) := by decide +kernel
theorem dX6_best_10 : decode cX6_best 10 = .ok (.iconst (-1), 1) := by decide +kernel
theorem dX6_best_11 : decode cX6_best 11 = .ok (.ireturn, 1) := by decide +kernel
theorem dX6_best_12 : decode cX6_best 12 = .ok (.iload_n 2, 1) := by decide +kernel
theorem dX6_best_13 : decode cX6_best 13 = .ok (.iconst 1, 1) := by decide +kernel
theorem dX6_best_14 : decode cX6_best 14 = .ok (.bipush 10, 2) := by decide +kernel
theorem dX6_best_16 : decode cX6_best 16 = .ok (.invokestatic 28, 3) := by decide +kernel
theorem dX6_best_19 : decode cX6_best 19 = .ok (.ifCond .ne 6, 3) := by decide +kernel
theorem dX6_best_22 : decode cX6_best 22 = .ok (.bipush (-2), 2) := by decide +kernel
theorem dX6_best_24 : decode cX6_best 24 = .ok (.ireturn, 1) := by decide +kernel
theorem dX6_best_25 : decode cX6_best 25 = .ok (.aload_n 3, 1) := by decide +kernel
theorem dX6_best_26 : decode cX6_best 26 = .ok (.getfield 153, 3) := by decide +kernel
theorem dX6_best_29 : decode cX6_best 29 = .ok (.iload_n 2, 1) := by decide +kernel
theorem dX6_best_30 : decode cX6_best 30 = .ok (.invokevirtual 167, 3) := by decide +kernel
theorem dX6_best_33 : decode cX6_best 33 = .ok (.ireturn, 1) := by decide +kernel
set_option maxRecDepth 20000 in
theorem ggX6_letter_X6_senderOf : GoodIn wsX6_letter wsX6_senderOf := goodIn_r _ [10, 11, 12, 47, 48, 49, 50, 51, 52] (by decide +kernel) (by decide +kernel)
set_option maxRecDepth 20000 in
theorem gX6_letter_X6_senderOf : GoodIn wsX6_letter (wsV RX6 45 RX6 yX6_senderOf wsX6_senderOf) := goodIn_app (goodIn_of _ (by decide +kernel)) ggX6_letter_X6_senderOf
set_option maxRecDepth 20000 in
theorem ggX6_letter_X3_at : GoodIn wsX6_letter wsX3_at := goodIn_r _ [17, 18, 19, 53, 54] (by decide +kernel) (by decide +kernel)
set_option maxRecDepth 20000 in
theorem gX6_letter_X3_at : GoodIn wsX6_letter (wsV RX6 170 RX3 yX3_at wsX3_at) := goodIn_app (goodIn_of _ (by decide +kernel)) ggX6_letter_X3_at
set_option maxRecDepth 20000 in
theorem ggX6_letter_X6_asNumber : GoodIn wsX6_letter wsX6_asNumber := goodIn_r _ [22] (by decide +kernel) (by decide +kernel)
set_option maxRecDepth 20000 in
theorem gX6_letter_X6_asNumber : GoodIn wsX6_letter (va_wsS RX6 64 yX6_asNumber wsX6_asNumber) := goodIn_app (goodIn_of _ (by decide +kernel)) ggX6_letter_X6_asNumber
theorem dX6_letter_0 : decode cX6_letter 0 = .ok (.aload_n 0, 1) := by decide +kernel
theorem dX6_letter_1 : decode cX6_letter 1 = .ok (.iload_n 1, 1) := by decide +kernel
theorem dX6_letter_2 : decode cX6_letter 2 = .ok (.invokevirtual 45, 3) := by decide +kernel
theorem dX6_letter_5 : decode cX6_letter 5 = .ok (.astore 4, 2) := by decide +kernel
theorem dX6_letter_7 : decode cX6_letter 7 = .ok (.aload 4, 2) := by decide +kernel
theorem dX6_letter_9 : decode cX6_letter 9 = .ok (.ifnonnull 7, 3) := by decide +kernel
theorem dX6_letter_12 : decode cX6_letter 12 = .ok (.aconst_null, 1) := by decide +kernel
theorem dX6_letter_13 : decode cX6_letter 13 = .ok (.goto 12, 3) := by decide +kernel
theorem dX6_letter_16 : decode cX6_letter 16 = .ok (.aload 4, 2) := by decide +kernel
theorem dX6_letter_18 : decode cX6_letter 18 = .ok (.getfield 101, 3) := by decide +kernel
theorem dX6_letter_21 : decode cX6_letter 21 = .ok (.iload_n 2, 1) := by decide +kernel
theorem dX6_letter_22 : decode cX6_letter 22 = .ok (.invokevirtual 170, 3) := by decide +kernel
theorem dX6_letter_25 : decode cX6_letter 25 = .ok (.astore 5, 2) := by decide +kernel
theorem dX6_letter_27 : decode cX6_letter 27 = .ok (.aload 5, 2) := by decide +kernel
theorem dX6_letter_29 : decode cX6_letter 29 = .ok (.ifnonnull 5, 3) := by decide +kernel
theorem dX6_letter_32 : decode cX6_letter 32 = .ok (.iconst (-1), 1) := by decide +kernel
theorem dX6_letter_33 : decode cX6_letter 33 = .ok (.ireturn, 1) := by decide +kernel
theorem dX6_letter_34 : decode cX6_letter 34 = .ok (.iload_n 3, 1) := by decide +kernel
theorem dX6_letter_35 : decode cX6_letter 35 = .ok (.tableswitch 59 0 3 #[29, 35, 41, 50], 29) := by decide +kernel
theorem dX6_letter_64 : decode cX6_letter 64 = .ok (.aload 5, 2) := by decide +kernel
theorem dX6_letter_66 : decode cX6_letter 66 = .ok (.getfield 174, 3) := by decide +kernel
theorem dX6_letter_69 : decode cX6_letter 69 = .ok (.ireturn, 1) := by decide +kernel
theorem dX6_letter_70 : decode cX6_letter 70 = .ok (.aload 5, 2) := by decide +kernel
theorem dX6_letter_72 : decode cX6_letter 72 = .ok (.getfield 179, 3) := by decide +kernel
theorem dX6_letter_75 : decode cX6_letter 75 = .ok (.ireturn, 1) := by decide +kernel
theorem dX6_letter_76 : decode cX6_letter 76 = .ok (.aload 5, 2) := by decide +kernel
theorem dX6_letter_78 : decode cX6_letter 78 = .ok (.getfield 180, 3) := by decide +kernel
theorem dX6_letter_81 : decode cX6_letter 81 = .ok (.invokestatic 64, 3) := by decide +kernel
theorem dX6_letter_84 : decode cX6_letter 84 = .ok (.ireturn, 1) := by decide +kernel
theorem dX6_letter_85 : decode cX6_letter 85 = .ok (.aload 5, 2) := by decide +kernel
theorem dX6_letter_87 : decode cX6_letter 87 = .ok (.getfield 184, 3) := by decide +kernel
theorem dX6_letter_90 : decode cX6_letter 90 = .ok (.invokestatic 64, 3) := by decide +kernel
theorem dX6_letter_93 : decode cX6_letter 93 = .ok (.ireturn, 1) := by decide +kernel
theorem dX6_letter_94 : decode cX6_letter 94 = .ok (.bipush (-2), 2) := by decide +kernel
theorem dX6_letter_96 : decode cX6_letter 96 = .ok (.ireturn, 1) := by decide +kernel
set_option maxRecDepth 20000 in
theorem ggX6_phase_X6_senderOf : GoodIn wsX6_phase wsX6_senderOf := goodIn_r _ [10, 11, 12, 44, 45, 46, 47, 48, 49] (by decide +kernel) (by decide +kernel)
set_option maxRecDepth 20000 in
theorem gX6_phase_X6_senderOf : GoodIn wsX6_phase (wsV RX6 45 RX6 yX6_senderOf wsX6_senderOf) := goodIn_app (goodIn_of _ (by decide +kernel)) ggX6_phase_X6_senderOf
set_option maxRecDepth 20000 in
theorem ggX6_phase_X6_within : GoodIn wsX6_phase wsX6_within := goodIn_r _ [15] (by decide +kernel) (by decide +kernel)
set_option maxRecDepth 20000 in
theorem gX6_phase_X6_within : GoodIn wsX6_phase (va_wsS RX6 28 yX6_within wsX6_within) := goodIn_app (goodIn_of _ (by decide +kernel)) ggX6_phase_X6_within
theorem dX6_phase_0 : decode cX6_phase 0 = .ok (.aload_n 0, 1) := by decide +kernel
theorem dX6_phase_1 : decode cX6_phase 1 = .ok (.iload_n 1, 1) := by decide +kernel
theorem dX6_phase_2 : decode cX6_phase 2 = .ok (.invokevirtual 45, 3) := by decide +kernel
theorem dX6_phase_5 : decode cX6_phase 5 = .ok (.astore_n 3, 1) := by decide +kernel
theorem dX6_phase_6 : decode cX6_phase 6 = .ok (.aload_n 3, 1) := by decide +kernel
theorem dX6_phase_7 : decode cX6_phase 7 = .ok (.ifnonnull 5, 3) := by decide +kernel
theorem dX6_phase_10 : decode cX6_phase 10 = .ok (.iconst (-1), 1) := by decide +kernel
theorem dX6_phase_11 : decode cX6_phase 11 = .ok (.ireturn, 1) := by decide +kernel
theorem dX6_phase_12 : decode cX6_phase 12 = .ok (.iload_n 2, 1) := by decide +kernel
theorem dX6_phase_13 : decode cX6_phase 13 = .ok (.iconst 0, 1) := by decide +kernel
theorem dX6_phase_14 : decode cX6_phase 14 = .ok (.iconst 1, 1) := by decide +kernel
theorem dX6_phase_15 : decode cX6_phase 15 = .ok (.invokestatic 28, 3) := by decide +kernel
theorem dX6_phase_18 : decode cX6_phase 18 = .ok (.ifCond .ne 6, 3) := by decide +kernel
theorem dX6_phase_21 : decode cX6_phase 21 = .ok (.bipush (-2), 2) := by decide +kernel
theorem dX6_phase_23 : decode cX6_phase 23 = .ok (.ireturn, 1) := by decide +kernel
theorem dX6_phase_24 : decode cX6_phase 24 = .ok (.aload_n 3, 1) := by decide +kernel
theorem dX6_phase_25 : decode cX6_phase 25 = .ok (.getfield 92, 3) := by decide +kernel
theorem dX6_phase_28 : decode cX6_phase 28 = .ok (.astore 4, 2) := by decide +kernel
theorem dX6_phase_30 : decode cX6_phase 30 = .ok (.aload 4, 2) := by decide +kernel
theorem dX6_phase_32 : decode cX6_phase 32 = .ok (.getfield 96, 3) := by decide +kernel
theorem dX6_phase_35 : decode cX6_phase 35 = .ok (.iconst 2, 1) := by decide +kernel
theorem dX6_phase_36 : decode cX6_phase 36 = .ok (.if_icmp .eq 6, 3) := by decide +kernel
theorem dX6_phase_39 : decode cX6_phase 39 = .ok (.bipush (-9), 2) := by decide +kernel
theorem dX6_phase_41 : decode cX6_phase 41 = .ok (.ireturn, 1) := by decide +kernel
theorem dX6_phase_42 : decode cX6_phase 42 = .ok (.iload_n 2, 1) := by decide +kernel
theorem dX6_phase_43 : decode cX6_phase 43 = .ok (.ifCond .ne 11, 3) := by decide +kernel
theorem dX6_phase_46 : decode cX6_phase 46 = .ok (.aload 4, 2) := by decide +kernel
theorem dX6_phase_48 : decode cX6_phase 48 = .ok (.getfield 187, 3) := by decide +kernel
theorem dX6_phase_51 : decode cX6_phase 51 = .ok (.goto 13, 3) := by decide +kernel
theorem dX6_phase_54 : decode cX6_phase 54 = .ok (.aload_n 0, 1) := by decide +kernel
theorem dX6_phase_55 : decode cX6_phase 55 = .ok (.getfield 85, 3) := by decide +kernel
theorem dX6_phase_58 : decode cX6_phase 58 = .ok (.aload 4, 2) := by decide +kernel
theorem dX6_phase_60 : decode cX6_phase 60 = .ok (.getfield 190, 3) := by decide +kernel
theorem dX6_phase_63 : decode cX6_phase 63 = .ok (.isub, 1) := by decide +kernel
theorem dX6_phase_64 : decode cX6_phase 64 = .ok (.ireturn, 1) := by decide +kernel
set_option maxRecDepth 20000 in
theorem ggX6_model_X6_senderOf : GoodIn wsX6_model wsX6_senderOf := goodIn_r _ [11, 12, 13, 56, 57, 58, 59, 60, 61] (by decide +kernel) (by decide +kernel)
set_option maxRecDepth 20000 in
theorem gX6_model_X6_senderOf : GoodIn wsX6_model (wsV RX6 45 RX6 yX6_senderOf wsX6_senderOf) := goodIn_app (goodIn_of _ (by decide +kernel)) ggX6_model_X6_senderOf
set_option maxRecDepth 20000 in
theorem ggX6_model_X6_asNumber : GoodIn wsX6_model wsX6_asNumber := goodIn_r _ [16] (by decide +kernel) (by decide +kernel)
set_option maxRecDepth 20000 in
theorem gX6_model_X6_asNumber : GoodIn wsX6_model (va_wsS RX6 64 yX6_asNumber wsX6_asNumber) := goodIn_app (goodIn_of _ (by decide +kernel)) ggX6_model_X6_asNumber
set_option maxRecDepth 20000 in
theorem ggX6_model_X0_ticksToEnd : GoodIn wsX6_model wsX0_ticksToEnd := goodIn_r _ [21, 22, 23, 24, 25, 26, 27, 44, 45, 46, 47, 48, 49, 50, 51, 52, 53, 54, 55] (by decide +kernel) (by decide +kernel)
set_option maxRecDepth 20000 in
theorem gX6_model_X0_ticksToEnd : GoodIn wsX6_model (wsV RX6 205 RX0 yX0_ticksToEnd wsX0_ticksToEnd) := goodIn_app (goodIn_of _ (by decide +kernel)) ggX6_model_X0_ticksToEnd
theorem dX6_model_0 : decode cX6_model 0 = .ok (.aload_n 0, 1) := by decide +kernel
theorem dX6_model_1 : decode cX6_model 1 = .ok (.iload_n 1, 1) := by decide +kernel
theorem dX6_model_2 : decode cX6_model 2 = .ok (.invokevirtual 45, 3) := by decide +kernel
theorem dX6_model_5 : decode cX6_model 5 = .ok (.astore_n 3, 1) := by decide +kernel
theorem dX6_model_6 : decode cX6_model 6 = .ok (.aload_n 3, 1) := by decide +kernel
theorem dX6_model_7 : decode cX6_model 7 = .ok (.ifnonnull 5, 3) := by decide +kernel
theorem dX6_model_10 : decode cX6_model 10 = .ok (.iconst (-1), 1) := by decide +kernel
theorem dX6_model_11 : decode cX6_model 11 = .ok (.ireturn, 1) := by decide +kernel
theorem dX6_model_12 : decode cX6_model 12 = .ok (.iload_n 2, 1) := by decide +kernel
theorem dX6_model_13 : decode cX6_model 13 = .ok (.tableswitch 84 0 4 #[35, 46, 54, 62, 72], 35) := by decide +kernel
theorem dX6_model_48 : decode cX6_model 48 = .ok (.aload_n 3, 1) := by decide +kernel
theorem dX6_model_49 : decode cX6_model 49 = .ok (.getfield 92, 3) := by decide +kernel
theorem dX6_model_52 : decode cX6_model 52 = .ok (.getfield 193, 3) := by decide +kernel
theorem dX6_model_55 : decode cX6_model 55 = .ok (.invokestatic 64, 3) := by decide +kernel
theorem dX6_model_58 : decode cX6_model 58 = .ok (.ireturn, 1) := by decide +kernel
theorem dX6_model_59 : decode cX6_model 59 = .ok (.aload_n 3, 1) := by decide +kernel
theorem dX6_model_60 : decode cX6_model 60 = .ok (.getfield 92, 3) := by decide +kernel
theorem dX6_model_63 : decode cX6_model 63 = .ok (.getfield 196, 3) := by decide +kernel
theorem dX6_model_66 : decode cX6_model 66 = .ok (.ireturn, 1) := by decide +kernel
theorem dX6_model_67 : decode cX6_model 67 = .ok (.aload_n 3, 1) := by decide +kernel
theorem dX6_model_68 : decode cX6_model 68 = .ok (.getfield 92, 3) := by decide +kernel
theorem dX6_model_71 : decode cX6_model 71 = .ok (.getfield 199, 3) := by decide +kernel
theorem dX6_model_74 : decode cX6_model 74 = .ok (.ireturn, 1) := by decide +kernel
theorem dX6_model_75 : decode cX6_model 75 = .ok (.aload_n 0, 1) := by decide +kernel
theorem dX6_model_76 : decode cX6_model 76 = .ok (.getfield 85, 3) := by decide +kernel
theorem dX6_model_79 : decode cX6_model 79 = .ok (.aload_n 3, 1) := by decide +kernel
theorem dX6_model_80 : decode cX6_model 80 = .ok (.getfield 202, 3) := by decide +kernel
theorem dX6_model_83 : decode cX6_model 83 = .ok (.isub, 1) := by decide +kernel
theorem dX6_model_84 : decode cX6_model 84 = .ok (.ireturn, 1) := by decide +kernel
theorem dX6_model_85 : decode cX6_model 85 = .ok (.aload_n 3, 1) := by decide +kernel
theorem dX6_model_86 : decode cX6_model 86 = .ok (.getfield 92, 3) := by decide +kernel
theorem dX6_model_89 : decode cX6_model 89 = .ok (.aload_n 0, 1) := by decide +kernel
theorem dX6_model_90 : decode cX6_model 90 = .ok (.getfield 85, 3) := by decide +kernel
theorem dX6_model_93 : decode cX6_model 93 = .ok (.invokevirtual 205, 3) := by decide +kernel
theorem dX6_model_96 : decode cX6_model 96 = .ok (.ireturn, 1) := by decide +kernel
theorem dX6_model_97 : decode cX6_model 97 = .ok (.bipush (-2), 2) := by decide +kernel
theorem dX6_model_99 : decode cX6_model 99 = .ok (.ireturn, 1) := by decide +kernel
set_option maxRecDepth 20000 in
theorem ggX6_turn_X6_senderOf : GoodIn wsX6_turn wsX6_senderOf := goodIn_r _ [9, 10, 11, 43, 44, 45, 46, 47, 48] (by decide +kernel) (by decide +kernel)
set_option maxRecDepth 20000 in
theorem gX6_turn_X6_senderOf : GoodIn wsX6_turn (wsV RX6 45 RX6 yX6_senderOf wsX6_senderOf) := goodIn_app (goodIn_of _ (by decide +kernel)) ggX6_turn_X6_senderOf
set_option maxRecDepth 20000 in
theorem ggX6_turn_X6_within : GoodIn wsX6_turn wsX6_within := goodIn_r _ [14] (by decide +kernel) (by decide +kernel)
set_option maxRecDepth 20000 in
theorem gX6_turn_X6_within : GoodIn wsX6_turn (va_wsS RX6 28 yX6_within wsX6_within) := goodIn_app (goodIn_of _ (by decide +kernel)) ggX6_turn_X6_within
theorem dX6_turn_0 : decode cX6_turn 0 = .ok (.aload_n 0, 1) := by decide +kernel
theorem dX6_turn_1 : decode cX6_turn 1 = .ok (.iload_n 1, 1) := by decide +kernel
theorem dX6_turn_2 : decode cX6_turn 2 = .ok (.invokevirtual 45, 3) := by decide +kernel
theorem dX6_turn_5 : decode cX6_turn 5 = .ok (.astore 4, 2) := by decide +kernel
theorem dX6_turn_7 : decode cX6_turn 7 = .ok (.aload 4, 2) := by decide +kernel
theorem dX6_turn_9 : decode cX6_turn 9 = .ok (.ifnull 21, 3) := by decide +kernel
theorem dX6_turn_12 : decode cX6_turn 12 = .ok (.iload_n 2, 1) := by decide +kernel
theorem dX6_turn_13 : decode cX6_turn 13 = .ok (.iconst 0, 1) := by decide +kernel
theorem dX6_turn_14 : decode cX6_turn 14 = .ok (.aload 4, 2) := by decide +kernel
theorem dX6_turn_16 : decode cX6_turn 16 = .ok (.getfield 92, 3) := by decide +kernel
theorem dX6_turn_19 : decode cX6_turn 19 = .ok (.getfield 208, 3) := by decide +kernel
theorem dX6_turn_22 : decode cX6_turn 22 = .ok (.iconst 1, 1) := by decide +kernel
theorem dX6_turn_23 : decode cX6_turn 23 = .ok (.isub, 1) := by decide +kernel
theorem dX6_turn_24 : decode cX6_turn 24 = .ok (.invokestatic 28, 3) := by decide +kernel
theorem dX6_turn_27 : decode cX6_turn 27 = .ok (.ifCond .ne 5, 3) := by decide +kernel
theorem dX6_turn_30 : decode cX6_turn 30 = .ok (.iconst (-1), 1) := by decide +kernel
theorem dX6_turn_31 : decode cX6_turn 31 = .ok (.ireturn, 1) := by decide +kernel
theorem dX6_turn_32 : decode cX6_turn 32 = .ok (.iload_n 3, 1) := by decide +kernel
theorem dX6_turn_33 : decode cX6_turn 33 = .ok (.lookupswitch 49 #[(0, 27), (1, 38)], 27) := by decide +kernel
theorem dX6_turn_60 : decode cX6_turn 60 = .ok (.aload 4, 2) := by decide +kernel
theorem dX6_turn_62 : decode cX6_turn 62 = .ok (.getfield 92, 3) := by decide +kernel
theorem dX6_turn_65 : decode cX6_turn 65 = .ok (.getfield 211, 3) := by decide +kernel
theorem dX6_turn_68 : decode cX6_turn 68 = .ok (.iload_n 2, 1) := by decide +kernel
theorem dX6_turn_69 : decode cX6_turn 69 = .ok (.iaload, 1) := by decide +kernel
theorem dX6_turn_70 : decode cX6_turn 70 = .ok (.ireturn, 1) := by decide +kernel
theorem dX6_turn_71 : decode cX6_turn 71 = .ok (.aload 4, 2) := by decide +kernel
theorem dX6_turn_73 : decode cX6_turn 73 = .ok (.getfield 92, 3) := by decide +kernel
theorem dX6_turn_76 : decode cX6_turn 76 = .ok (.getfield 215, 3) := by decide +kernel
theorem dX6_turn_79 : decode cX6_turn 79 = .ok (.iload_n 2, 1) := by decide +kernel
theorem dX6_turn_80 : decode cX6_turn 80 = .ok (.iaload, 1) := by decide +kernel
theorem dX6_turn_81 : decode cX6_turn 81 = .ok (.ireturn, 1) := by decide +kernel
theorem dX6_turn_82 : decode cX6_turn 82 = .ok (.bipush (-2), 2) := by decide +kernel
theorem dX6_turn_84 : decode cX6_turn 84 = .ok (.ireturn, 1) := by decide +kernel
theorem dX6_many_0 : decode cX6_many 0 = .ok (.iload_n 1, 1) := by decide +kernel
theorem dX6_many_1 : decode cX6_many 1 = .ok (.tableswitch 99 0 4 #[35, 40, 56, 72, 94], 35) := by decide +kernel
theorem dX6_many_36 : decode cX6_many 36 = .ok (.aload_n 0, 1) := by decide +kernel
theorem dX6_many_37 : decode cX6_many 37 = .ok (.getfield 85, 3) := by decide +kernel
theorem dX6_many_40 : decode cX6_many 40 = .ok (.ireturn, 1) := by decide +kernel
theorem dX6_many_41 : decode cX6_many 41 = .ok (.aload_n 0, 1) := by decide +kernel
theorem dX6_many_42 : decode cX6_many 42 = .ok (.getfield 21, 3) := by decide +kernel
theorem dX6_many_45 : decode cX6_many 45 = .ok (.getfield 110, 3) := by decide +kernel
theorem dX6_many_48 : decode cX6_many 48 = .ok (.aload_n 0, 1) := by decide +kernel
theorem dX6_many_49 : decode cX6_many 49 = .ok (.getfield 25, 3) := by decide +kernel
theorem dX6_many_52 : decode cX6_many 52 = .ok (.getfield 110, 3) := by decide +kernel
theorem dX6_many_55 : decode cX6_many 55 = .ok (.iadd, 1) := by decide +kernel
theorem dX6_many_56 : decode cX6_many 56 = .ok (.ireturn, 1) := by decide +kernel
theorem dX6_many_57 : decode cX6_many 57 = .ok (.aload_n 0, 1) := by decide +kernel
theorem dX6_many_58 : decode cX6_many 58 = .ok (.getfield 21, 3) := by decide +kernel
theorem dX6_many_61 : decode cX6_many 61 = .ok (.getfield 132, 3) := by decide +kernel
theorem dX6_many_64 : decode cX6_many 64 = .ok (.aload_n 0, 1) := by decide +kernel
theorem dX6_many_65 : decode cX6_many 65 = .ok (.getfield 25, 3) := by decide +kernel
theorem dX6_many_68 : decode cX6_many 68 = .ok (.getfield 132, 3) := by decide +kernel
theorem dX6_many_71 : decode cX6_many 71 = .ok (.iadd, 1) := by decide +kernel
theorem dX6_many_72 : decode cX6_many 72 = .ok (.ireturn, 1) := by decide +kernel
theorem dX6_many_73 : decode cX6_many 73 = .ok (.aload_n 0, 1) := by decide +kernel
theorem dX6_many_74 : decode cX6_many 74 = .ok (.getfield 21, 3) := by decide +kernel
theorem dX6_many_77 : decode cX6_many 77 = .ok (.getfield 92, 3) := by decide +kernel
theorem dX6_many_80 : decode cX6_many 80 = .ok (.getfield 218, 3) := by decide +kernel
theorem dX6_many_83 : decode cX6_many 83 = .ok (.aload_n 0, 1) := by decide +kernel
theorem dX6_many_84 : decode cX6_many 84 = .ok (.getfield 25, 3) := by decide +kernel
theorem dX6_many_87 : decode cX6_many 87 = .ok (.getfield 92, 3) := by decide +kernel
theorem dX6_many_90 : decode cX6_many 90 = .ok (.getfield 218, 3) := by decide +kernel
theorem dX6_many_93 : decode cX6_many 93 = .ok (.iadd, 1) := by decide +kernel
theorem dX6_many_94 : decode cX6_many 94 = .ok (.ireturn, 1) := by decide +kernel
theorem dX6_many_95 : decode cX6_many 95 = .ok (.aload_n 0, 1) := by decide +kernel
theorem dX6_many_96 : decode cX6_many 96 = .ok (.getfield 82, 3) := by decide +kernel
theorem dX6_many_99 : decode cX6_many 99 = .ok (.ireturn, 1) := by decide +kernel
theorem dX6_many_100 : decode cX6_many 100 = .ok (.bipush (-2), 2) := by decide +kernel
theorem dX6_many_102 : decode cX6_many 102 = .ok (.ireturn, 1) := by decide +kernel
theorem dX6_senderOf_0 : decode cX6_senderOf 0 = .ok (.iload_n 1, 1) := by decide +kernel
theorem dX6_senderOf_1 : decode cX6_senderOf 1 = .ok (.ifCond .ne 8, 3) := by decide +kernel
theorem dX6_senderOf_4 : decode cX6_senderOf 4 = .ok (.aload_n 0, 1) := by decide +kernel
theorem dX6_senderOf_5 : decode cX6_senderOf 5 = .ok (.getfield 21, 3) := by decide +kernel
theorem dX6_senderOf_8 : decode cX6_senderOf 8 = .ok (.areturn, 1) := by decide +kernel
theorem dX6_senderOf_9 : decode cX6_senderOf 9 = .ok (.iload_n 1, 1) := by decide +kernel
theorem dX6_senderOf_10 : decode cX6_senderOf 10 = .ok (.iconst 1, 1) := by decide +kernel
theorem dX6_senderOf_11 : decode cX6_senderOf 11 = .ok (.if_icmp .ne 10, 3) := by decide +kernel
theorem dX6_senderOf_14 : decode cX6_senderOf 14 = .ok (.aload_n 0, 1) := by decide +kernel
theorem dX6_senderOf_15 : decode cX6_senderOf 15 = .ok (.getfield 25, 3) := by decide +kernel
theorem dX6_senderOf_18 : decode cX6_senderOf 18 = .ok (.goto 4, 3) := by decide +kernel
theorem dX6_senderOf_21 : decode cX6_senderOf 21 = .ok (.aconst_null, 1) := by decide +kernel
theorem dX6_senderOf_22 : decode cX6_senderOf 22 = .ok (.areturn, 1) := by decide +kernel
set_option maxRecDepth 20000 in
theorem ggX6_runTick_X5_takeDue : GoodIn wsX6_runTick wsX5_takeDue := goodIn_r _ [12, 13, 14, 15, 16, 17, 18, 19, 20, 21, 22, 23, 24, 25, 26, 27, 28, 29, 30, 31, 11, 32, 33, 34, 35, 36, 37, 38, 39, 40, 41, 42, 43, 44, 45, 46, 47, 48, 49, 50, 51, 52, 53, 54, 55, 56, 57, 58, 59, 60, 61, 62, 63, 64, 65, 66, 67, 68, 69, 70, 71, 72, 73, 74, 75, 76, 77, 78, 79, 80, 81, 82, 83, 84, 85, 86, 87, 88, 89, 90, 91, 92, 93, 94, 95, 96, 97, 98, 99, 100, 101, 102, 103, 104, 105, 106, 107, 108, 109, 110, 111, 112, 113, 114, 115, 116, 117, 118, 119, 120, 121, 122, 123, 124, 125, 126, 127, 128, 129, 130, 131, 132, 133, 134, 135, 136, 253, 254, 255, 256, 257, 258, 259, 260, 261, 262, 263, 264, 265, 266, 267, 268, 269, 270, 271, 272, 273, 274, 275, 276, 277, 278, 279, 280, 281, 282, 283, 284, 285, 286, 287, 288, 289, 290, 291, 292, 293, 294, 295] (by decide +kernel) (by decide +kernel)
set_option maxRecDepth 20000 in
theorem gX6_runTick_X5_takeDue : GoodIn wsX6_runTick (wsV RX6 221 RX5 yX5_takeDue wsX5_takeDue) := goodIn_app (goodIn_of _ (by decide +kernel)) ggX6_runTick_X5_takeDue
set_option maxRecDepth 20000 in
theorem ggX6_runTick_X1_release : GoodIn wsX6_runTick wsX1_release := goodIn_r _ [141, 142, 143, 144, 145, 146, 147, 148, 149, 150, 151, 152, 140, 153, 154, 155, 156, 157, 158, 159, 160, 161, 241, 242, 243, 244, 245, 246, 247, 248, 249, 250, 251, 252, 269, 270, 271, 272, 273, 274, 275, 276, 253, 254, 255, 256, 257, 258, 259, 260, 261, 262, 263, 264, 265, 266, 267, 268] (by decide +kernel) (by decide +kernel)
set_option maxRecDepth 20000 in
theorem gX6_runTick_X1_release : GoodIn wsX6_runTick (wsV RX6 224 RX1 yX1_release wsX1_release) := goodIn_app (goodIn_of _ (by decide +kernel)) ggX6_runTick_X1_release
set_option maxRecDepth 20000 in
theorem ggX6_runTick_X1_admitGuest : GoodIn wsX6_runTick wsX1_admitGuest := goodIn_r _ [165, 166, 167, 168, 169, 170, 140, 171, 142, 155, 154, 156, 172, 173, 174, 64, 65, 66, 157, 158, 159, 160, 161, 143, 241, 242, 243, 244, 245, 246, 247, 248, 249, 250, 251, 252] (by decide +kernel) (by decide +kernel)
set_option maxRecDepth 20000 in
theorem gX6_runTick_X1_admitGuest : GoodIn wsX6_runTick (wsV RX6 228 RX1 yX1_admitGuest wsX1_admitGuest) := goodIn_app (goodIn_of _ (by decide +kernel)) ggX6_runTick_X1_admitGuest
set_option maxRecDepth 20000 in
theorem ggX6_runTick_X5_sendAll : GoodIn wsX6_runTick wsX5_sendAll := goodIn_r _ [178, 179, 13, 14, 180, 63, 64, 65, 66, 34, 181, 182, 183, 11, 184, 42, 185, 186, 67, 39, 187, 188, 189, 190, 191, 192, 193, 194, 121, 122, 123, 124, 195, 196, 197, 198, 199, 200, 201, 202, 203, 33, 204, 205, 41, 35, 62, 43, 15, 206, 207, 208, 209, 20, 210, 22, 23, 211, 212, 213, 214, 215, 216, 217, 218, 219, 220, 221, 169, 170, 140, 171, 142, 155, 154, 156, 172, 173, 174, 157, 158, 159, 160, 161, 143, 222, 223, 224, 225, 226, 227, 228, 229, 230, 231, 232, 233, 84, 234, 86, 91, 253, 254, 255, 256, 257, 258, 259, 260, 261, 262, 263, 264, 265, 266, 267, 268, 277, 278, 284, 285, 286, 287, 288, 289, 290, 291, 292, 293, 294, 295, 269, 270, 271, 272, 273, 274, 275, 276, 241, 242, 243, 244, 245, 246, 247, 248, 249, 250, 251, 252] (by decide +kernel) (by decide +kernel)
set_option maxRecDepth 20000 in
theorem gX6_runTick_X5_sendAll : GoodIn wsX6_runTick (wsV RX6 231 RX5 yX5_sendAll wsX5_sendAll) := goodIn_app (goodIn_of _ (by decide +kernel)) ggX6_runTick_X5_sendAll
theorem dX6_runTick_0 : decode cX6_runTick 0 = .ok (.aload_n 0, 1) := by decide +kernel
theorem dX6_runTick_1 : decode cX6_runTick 1 = .ok (.getfield 21, 3) := by decide +kernel
theorem dX6_runTick_4 : decode cX6_runTick 4 = .ok (.aload_n 0, 1) := by decide +kernel
theorem dX6_runTick_5 : decode cX6_runTick 5 = .ok (.getfield 85, 3) := by decide +kernel
theorem dX6_runTick_8 : decode cX6_runTick 8 = .ok (.invokevirtual 221, 3) := by decide +kernel
theorem dX6_runTick_11 : decode cX6_runTick 11 = .ok (.aload_n 0, 1) := by decide +kernel
theorem dX6_runTick_12 : decode cX6_runTick 12 = .ok (.getfield 25, 3) := by decide +kernel
theorem dX6_runTick_15 : decode cX6_runTick 15 = .ok (.aload_n 0, 1) := by decide +kernel
theorem dX6_runTick_16 : decode cX6_runTick 16 = .ok (.getfield 85, 3) := by decide +kernel
theorem dX6_runTick_19 : decode cX6_runTick 19 = .ok (.invokevirtual 221, 3) := by decide +kernel
theorem dX6_runTick_22 : decode cX6_runTick 22 = .ok (.iadd, 1) := by decide +kernel
theorem dX6_runTick_23 : decode cX6_runTick 23 = .ok (.istore_n 1, 1) := by decide +kernel
theorem dX6_runTick_24 : decode cX6_runTick 24 = .ok (.aload_n 0, 1) := by decide +kernel
theorem dX6_runTick_25 : decode cX6_runTick 25 = .ok (.getfield 14, 3) := by decide +kernel
theorem dX6_runTick_28 : decode cX6_runTick 28 = .ok (.aload_n 0, 1) := by decide +kernel
theorem dX6_runTick_29 : decode cX6_runTick 29 = .ok (.getfield 85, 3) := by decide +kernel
theorem dX6_runTick_32 : decode cX6_runTick 32 = .ok (.invokevirtual 224, 3) := by decide +kernel
theorem dX6_runTick_35 : decode cX6_runTick 35 = .ok (.aload_n 0, 1) := by decide +kernel
theorem dX6_runTick_36 : decode cX6_runTick 36 = .ok (.getfield 42, 3) := by decide +kernel
theorem dX6_runTick_39 : decode cX6_runTick 39 = .ok (.ifCond .le 26, 3) := by decide +kernel
theorem dX6_runTick_42 : decode cX6_runTick 42 = .ok (.aload_n 0, 1) := by decide +kernel
theorem dX6_runTick_43 : decode cX6_runTick 43 = .ok (.getfield 85, 3) := by decide +kernel
theorem dX6_runTick_46 : decode cX6_runTick 46 = .ok (.aload_n 0, 1) := by decide +kernel
theorem dX6_runTick_47 : decode cX6_runTick 47 = .ok (.getfield 42, 3) := by decide +kernel
theorem dX6_runTick_50 : decode cX6_runTick 50 = .ok (.irem, 1) := by decide +kernel
theorem dX6_runTick_51 : decode cX6_runTick 51 = .ok (.ifCond .ne 14, 3) := by decide +kernel
theorem dX6_runTick_54 : decode cX6_runTick 54 = .ok (.aload_n 0, 1) := by decide +kernel
theorem dX6_runTick_55 : decode cX6_runTick 55 = .ok (.getfield 14, 3) := by decide +kernel
theorem dX6_runTick_58 : decode cX6_runTick 58 = .ok (.aload_n 0, 1) := by decide +kernel
theorem dX6_runTick_59 : decode cX6_runTick 59 = .ok (.getfield 85, 3) := by decide +kernel
theorem dX6_runTick_62 : decode cX6_runTick 62 = .ok (.invokevirtual 228, 3) := by decide +kernel
theorem dX6_runTick_65 : decode cX6_runTick 65 = .ok (.aload_n 0, 1) := by decide +kernel
theorem dX6_runTick_66 : decode cX6_runTick 66 = .ok (.getfield 21, 3) := by decide +kernel
theorem dX6_runTick_69 : decode cX6_runTick 69 = .ok (.aload_n 0, 1) := by decide +kernel
theorem dX6_runTick_70 : decode cX6_runTick 70 = .ok (.getfield 14, 3) := by decide +kernel
theorem dX6_runTick_73 : decode cX6_runTick 73 = .ok (.aload_n 0, 1) := by decide +kernel
theorem dX6_runTick_74 : decode cX6_runTick 74 = .ok (.getfield 85, 3) := by decide +kernel
theorem dX6_runTick_77 : decode cX6_runTick 77 = .ok (.invokevirtual 231, 3) := by decide +kernel
theorem dX6_runTick_80 : decode cX6_runTick 80 = .ok (.aload_n 0, 1) := by decide +kernel
theorem dX6_runTick_81 : decode cX6_runTick 81 = .ok (.getfield 25, 3) := by decide +kernel
theorem dX6_runTick_84 : decode cX6_runTick 84 = .ok (.aload_n 0, 1) := by decide +kernel
theorem dX6_runTick_85 : decode cX6_runTick 85 = .ok (.getfield 14, 3) := by decide +kernel
theorem dX6_runTick_88 : decode cX6_runTick 88 = .ok (.aload_n 0, 1) := by decide +kernel
theorem dX6_runTick_89 : decode cX6_runTick 89 = .ok (.getfield 85, 3) := by decide +kernel
theorem dX6_runTick_92 : decode cX6_runTick 92 = .ok (.invokevirtual 231, 3) := by decide +kernel
theorem dX6_runTick_95 : decode cX6_runTick 95 = .ok (.aload_n 0, 1) := by decide +kernel
theorem dX6_runTick_96 : decode cX6_runTick 96 = .ok (.getfield 14, 3) := by decide +kernel
theorem dX6_runTick_99 : decode cX6_runTick 99 = .ok (.getfield 60, 3) := by decide +kernel
theorem dX6_runTick_102 : decode cX6_runTick 102 = .ok (.ifnull 13, 3) := by decide +kernel
theorem dX6_runTick_105 : decode cX6_runTick 105 = .ok (.aload_n 0, 1) := by decide +kernel
theorem dX6_runTick_106 : decode cX6_runTick 106 = .ok (.dup, 1) := by decide +kernel
theorem dX6_runTick_107 : decode cX6_runTick 107 = .ok (.getfield 82, 3) := by decide +kernel
theorem dX6_runTick_110 : decode cX6_runTick 110 = .ok (.iconst 1, 1) := by decide +kernel
theorem dX6_runTick_111 : decode cX6_runTick 111 = .ok (.iadd, 1) := by decide +kernel
theorem dX6_runTick_112 : decode cX6_runTick 112 = .ok (.putfield 82, 3) := by decide +kernel
theorem dX6_runTick_115 : decode cX6_runTick 115 = .ok (.aload_n 0, 1) := by decide +kernel
theorem dX6_runTick_116 : decode cX6_runTick 116 = .ok (.dup, 1) := by decide +kernel
theorem dX6_runTick_117 : decode cX6_runTick 117 = .ok (.getfield 85, 3) := by decide +kernel
theorem dX6_runTick_120 : decode cX6_runTick 120 = .ok (.iconst 1, 1) := by decide +kernel
theorem dX6_runTick_121 : decode cX6_runTick 121 = .ok (.iadd, 1) := by decide +kernel
theorem dX6_runTick_122 : decode cX6_runTick 122 = .ok (.putfield 85, 3) := by decide +kernel
theorem dX6_runTick_125 : decode cX6_runTick 125 = .ok (.iload_n 1, 1) := by decide +kernel
theorem dX6_runTick_126 : decode cX6_runTick 126 = .ok (.ireturn, 1) := by decide +kernel
theorem dX6_within_0 : decode cX6_within 0 = .ok (.iload_n 0, 1) := by decide +kernel
theorem dX6_within_1 : decode cX6_within 1 = .ok (.iload_n 1, 1) := by decide +kernel
theorem dX6_within_2 : decode cX6_within 2 = .ok (.if_icmp .lt 12, 3) := by decide +kernel
theorem dX6_within_5 : decode cX6_within 5 = .ok (.iload_n 0, 1) := by decide +kernel
theorem dX6_within_6 : decode cX6_within 6 = .ok (.iload_n 2, 1) := by decide +kernel
theorem dX6_within_7 : decode cX6_within 7 = .ok (.if_icmp .gt 7, 3) := by decide +kernel
theorem dX6_within_10 : decode cX6_within 10 = .ok (.iconst 1, 1) := by decide +kernel
theorem dX6_within_11 : decode cX6_within 11 = .ok (.goto 4, 3) := by decide +kernel
theorem dX6_within_14 : decode cX6_within 14 = .ok (.iconst 0, 1) := by decide +kernel
theorem dX6_within_15 : decode cX6_within 15 = .ok (.ireturn, 1) := by decide +kernel
theorem dX6_asNumber_0 : decode cX6_asNumber 0 = .ok (.iload_n 0, 1) := by decide +kernel
theorem dX6_asNumber_1 : decode cX6_asNumber 1 = .ok (.ifCond .eq 7, 3) := by decide +kernel
theorem dX6_asNumber_4 : decode cX6_asNumber 4 = .ok (.iconst 1, 1) := by decide +kernel
theorem dX6_asNumber_5 : decode cX6_asNumber 5 = .ok (.goto 4, 3) := by decide +kernel
theorem dX6_asNumber_8 : decode cX6_asNumber 8 = .ok (.iconst 0, 1) := by decide +kernel
theorem dX6_asNumber_9 : decode cX6_asNumber 9 = .ok (.ireturn, 1) := by decide +kernel
theorem dX6_greatestDivisor_0 : decode cX6_greatestDivisor 0 = .ok (.iload_n 0, 1) := by decide +kernel
theorem dX6_greatestDivisor_1 : decode cX6_greatestDivisor 1 = .ok (.istore_n 2, 1) := by decide +kernel
theorem dX6_greatestDivisor_2 : decode cX6_greatestDivisor 2 = .ok (.iload_n 1, 1) := by decide +kernel
theorem dX6_greatestDivisor_3 : decode cX6_greatestDivisor 3 = .ok (.istore_n 3, 1) := by decide +kernel
theorem dX6_greatestDivisor_4 : decode cX6_greatestDivisor 4 = .ok (.iconst 0, 1) := by decide +kernel
theorem dX6_greatestDivisor_5 : decode cX6_greatestDivisor 5 = .ok (.istore 4, 2) := by decide +kernel
theorem dX6_greatestDivisor_7 : decode cX6_greatestDivisor 7 = .ok (.iload 4, 2) := by decide +kernel
theorem dX6_greatestDivisor_9 : decode cX6_greatestDivisor 9 = .ok (.bipush 64, 2) := by decide +kernel
theorem dX6_greatestDivisor_11 : decode cX6_greatestDivisor 11 = .ok (.if_icmp .ge 23, 3) := by decide +kernel
theorem dX6_greatestDivisor_14 : decode cX6_greatestDivisor 14 = .ok (.iload_n 3, 1) := by decide +kernel
theorem dX6_greatestDivisor_15 : decode cX6_greatestDivisor 15 = .ok (.ifCond .eq 19, 3) := by decide +kernel
theorem dX6_greatestDivisor_18 : decode cX6_greatestDivisor 18 = .ok (.iload_n 2, 1) := by decide +kernel
theorem dX6_greatestDivisor_19 : decode cX6_greatestDivisor 19 = .ok (.iload_n 3, 1) := by decide +kernel
theorem dX6_greatestDivisor_20 : decode cX6_greatestDivisor 20 = .ok (.irem, 1) := by decide +kernel
theorem dX6_greatestDivisor_21 : decode cX6_greatestDivisor 21 = .ok (.istore 5, 2) := by decide +kernel
theorem dX6_greatestDivisor_23 : decode cX6_greatestDivisor 23 = .ok (.iload_n 3, 1) := by decide +kernel
theorem dX6_greatestDivisor_24 : decode cX6_greatestDivisor 24 = .ok (.istore_n 2, 1) := by decide +kernel
theorem dX6_greatestDivisor_25 : decode cX6_greatestDivisor 25 = .ok (.iload 5, 2) := by decide +kernel
theorem dX6_greatestDivisor_27 : decode cX6_greatestDivisor 27 = .ok (.istore_n 3, 1) := by decide +kernel
theorem dX6_greatestDivisor_28 : decode cX6_greatestDivisor 28 = .ok (.iinc 4 1, 3) := by decide +kernel
theorem dX6_greatestDivisor_31 : decode cX6_greatestDivisor 31 = .ok (.goto (-24), 3) := by decide +kernel
theorem dX6_greatestDivisor_34 : decode cX6_greatestDivisor 34 = .ok (.iload_n 2, 1) := by decide +kernel
theorem dX6_greatestDivisor_35 : decode cX6_greatestDivisor 35 = .ok (.ireturn, 1) := by decide +kernel
theorem dX7_init_0 : decode cX7_init 0 = .ok (.aload_n 0, 1) := by decide +kernel
theorem dX7_init_1 : decode cX7_init 1 = .ok (.invokespecial 1, 3) := by decide +kernel
theorem dX7_init_4 : decode cX7_init 4 = .ok (.aload_n 0, 1) := by decide +kernel
theorem dX7_init_5 : decode cX7_init 5 = .ok (.iconst 5, 1) := by decide +kernel
theorem dX7_init_6 : decode cX7_init 6 = .ok (.putfield 7, 3) := by decide +kernel
theorem dX7_init_9 : decode cX7_init 9 = .ok (.aload_n 0, 1) := by decide +kernel
theorem dX7_init_10 : decode cX7_init 10 = .ok (.bipush 20, 2) := by decide +kernel
theorem dX7_init_12 : decode cX7_init 12 = .ok (.putfield 13, 3) := by decide +kernel
theorem dX7_init_15 : decode cX7_init 15 = .ok (.aload_n 0, 1) := by decide +kernel
theorem dX7_init_16 : decode cX7_init 16 = .ok (.bipush 30, 2) := by decide +kernel
theorem dX7_init_18 : decode cX7_init 18 = .ok (.putfield 16, 3) := by decide +kernel
theorem dX7_init_21 : decode cX7_init 21 = .ok (.aload_n 0, 1) := by decide +kernel
theorem dX7_init_22 : decode cX7_init 22 = .ok (.iconst 3, 1) := by decide +kernel
theorem dX7_init_23 : decode cX7_init 23 = .ok (.putfield 19, 3) := by decide +kernel
theorem dX7_init_26 : decode cX7_init 26 = .ok (.aload_n 0, 1) := by decide +kernel
theorem dX7_init_27 : decode cX7_init 27 = .ok (.bipush 64, 2) := by decide +kernel
theorem dX7_init_29 : decode cX7_init 29 = .ok (.newarray .int, 2) := by decide +kernel
theorem dX7_init_31 : decode cX7_init 31 = .ok (.putfield 22, 3) := by decide +kernel
theorem dX7_init_34 : decode cX7_init 34 = .ok (.aload_n 0, 1) := by decide +kernel
theorem dX7_init_35 : decode cX7_init 35 = .ok (.bipush 64, 2) := by decide +kernel
theorem dX7_init_37 : decode cX7_init 37 = .ok (.newarray .int, 2) := by decide +kernel
theorem dX7_init_39 : decode cX7_init 39 = .ok (.putfield 26, 3) := by decide +kernel
theorem dX7_init_42 : decode cX7_init 42 = .ok (.aload_n 0, 1) := by decide +kernel
theorem dX7_init_43 : decode cX7_init 43 = .ok (.iconst 3, 1) := by decide +kernel
theorem dX7_init_44 : decode cX7_init 44 = .ok (.newarray .int, 2) := by decide +kernel
theorem dX7_init_46 : decode cX7_init 46 = .ok (.putfield 29, 3) := by decide +kernel
theorem dX7_init_49 : decode cX7_init 49 = .ok (.aload_n 0, 1) := by decide +kernel
theorem dX7_init_50 : decode cX7_init 50 = .ok (.iconst 2, 1) := by decide +kernel
theorem dX7_init_51 : decode cX7_init 51 = .ok (.newarray .int, 2) := by decide +kernel
theorem dX7_init_53 : decode cX7_init 53 = .ok (.putfield 32, 3) := by decide +kernel
theorem dX7_init_56 : decode cX7_init 56 = .ok (.aload_n 0, 1) := by decide +kernel
theorem dX7_init_57 : decode cX7_init 57 = .ok (.sipush 1024, 3) := by decide +kernel
theorem dX7_init_60 : decode cX7_init 60 = .ok (.newarray .int, 2) := by decide +kernel
theorem dX7_init_62 : decode cX7_init 62 = .ok (.putfield 35, 3) := by decide +kernel
theorem dX7_init_65 : decode cX7_init 65 = .ok (.aload_n 0, 1) := by decide +kernel
theorem dX7_init_66 : decode cX7_init 66 = .ok (.sipush 1024, 3) := by decide +kernel
theorem dX7_init_69 : decode cX7_init 69 = .ok (.newarray .int, 2) := by decide +kernel
theorem dX7_init_71 : decode cX7_init 71 = .ok (.putfield 38, 3) := by decide +kernel
theorem dX7_init_74 : decode cX7_init 74 = .ok (.aload_n 0, 1) := by decide +kernel
theorem dX7_init_75 : decode cX7_init 75 = .ok (.sipush 1024, 3) := by decide +kernel
theorem dX7_init_78 : decode cX7_init 78 = .ok (.newarray .int, 2) := by decide +kernel
theorem dX7_init_80 : decode cX7_init 80 = .ok (.putfield 41, 3) := by decide +kernel
theorem dX7_init_83 : decode cX7_init 83 = .ok (.aload_n 0, 1) := by decide +kernel
theorem dX7_init_84 : decode cX7_init 84 = .ok (.sipush 1024, 3) := by decide +kernel
theorem dX7_init_87 : decode cX7_init 87 = .ok (.newarray .int, 2) := by decide +kernel
theorem dX7_init_89 : decode cX7_init 89 = .ok (.putfield 44, 3) := by decide +kernel
theorem dX7_init_92 : decode cX7_init 92 = .ok (.aload_n 0, 1) := by decide +kernel
theorem dX7_init_93 : decode cX7_init 93 = .ok (.sipush 1024, 3) := by decide +kernel
theorem dX7_init_96 : decode cX7_init 96 = .ok (.newarray .boolean, 2) := by decide +kernel
theorem dX7_init_98 : decode cX7_init 98 = .ok (.putfield 47, 3) := by decide +kernel
theorem dX7_init_101 : decode cX7_init 101 = .ok (.aload_n 0, 1) := by decide +kernel
theorem dX7_init_102 : decode cX7_init 102 = .ok (.sipush 1024, 3) := by decide +kernel
theorem dX7_init_105 : decode cX7_init 105 = .ok (.newarray .int, 2) := by decide +kernel
theorem dX7_init_107 : decode cX7_init 107 = .ok (.putfield 51, 3) := by decide +kernel
theorem dX7_init_110 : decode cX7_init 110 = .ok (.aload_n 0, 1) := by decide +kernel
theorem dX7_init_111 : decode cX7_init 111 = .ok (.iconst 2, 1) := by decide +kernel
theorem dX7_init_112 : decode cX7_init 112 = .ok (.newarray .int, 2) := by decide +kernel
theorem dX7_init_114 : decode cX7_init 114 = .ok (.putfield 54, 3) := by decide +kernel
theorem dX7_init_117 : decode cX7_init 117 = .ok (.aload_n 0, 1) := by decide +kernel
theorem dX7_init_118 : decode cX7_init 118 = .ok (.iconst 2, 1) := by decide +kernel
theorem dX7_init_119 : decode cX7_init 119 = .ok (.newarray .int, 2) := by decide +kernel
theorem dX7_init_121 : decode cX7_init 121 = .ok (.putfield 57, 3) := by decide +kernel
theorem dX7_init_124 : decode cX7_init 124 = .ok (.aload_n 0, 1) := by decide +kernel
theorem dX7_init_125 : decode cX7_init 125 = .ok (.iconst 2, 1) := by decide +kernel
theorem dX7_init_126 : decode cX7_init 126 = .ok (.newarray .int, 2) := by decide +kernel
theorem dX7_init_128 : decode cX7_init 128 = .ok (.putfield 60, 3) := by decide +kernel
theorem dX7_init_131 : decode cX7_init 131 = .ok (.aload_n 0, 1) := by decide +kernel
theorem dX7_init_132 : decode cX7_init 132 = .ok (.iconst 2, 1) := by decide +kernel
theorem dX7_init_133 : decode cX7_init 133 = .ok (.newarray .int, 2) := by decide +kernel
theorem dX7_init_135 : decode cX7_init 135 = .ok (.putfield 63, 3) := by decide +kernel
theorem dX7_init_138 : decode cX7_init 138 = .ok (.aload_n 0, 1) := by decide +kernel
theorem dX7_init_139 : decode cX7_init 139 = .ok (.iconst 2, 1) := by decide +kernel
theorem dX7_init_140 : decode cX7_init 140 = .ok (.newarray .int, 2) := by decide +kernel
theorem dX7_init_142 : decode cX7_init 142 = .ok (.putfield 66, 3) := by decide +kernel
theorem dX7_init_145 : decode cX7_init 145 = .ok (.aload_n 0, 1) := by decide +kernel
theorem dX7_init_146 : decode cX7_init 146 = .ok (.iconst 2, 1) := by decide +kernel
theorem dX7_init_147 : decode cX7_init 147 = .ok (.newarray .int, 2) := by decide +kernel
theorem dX7_init_149 : decode cX7_init 149 = .ok (.putfield 69, 3) := by decide +kernel
theorem dX7_init_152 : decode cX7_init 152 = .ok (.aload_n 0, 1) := by decide +kernel
theorem dX7_init_153 : decode cX7_init 153 = .ok (.iconst 2, 1) := by decide +kernel
theorem dX7_init_154 : decode cX7_init 154 = .ok (.newarray .int, 2) := by decide +kernel
theorem dX7_init_156 : decode cX7_init 156 = .ok (.putfield 72, 3) := by decide +kernel
theorem dX7_init_159 : decode cX7_init 159 = .ok (.aload_n 0, 1) := by decide +kernel
theorem dX7_init_160 : decode cX7_init 160 = .ok (.iconst 2, 1) := by decide +kernel
theorem dX7_init_161 : decode cX7_init 161 = .ok (.newarray .int, 2) := by decide +kernel
theorem dX7_init_163 : decode cX7_init 163 = .ok (.putfield 75, 3) := by decide +kernel
theorem dX7_init_166 : decode cX7_init 166 = .ok (.aload_n 0, 1) := by decide +kernel
theorem dX7_init_167 : decode cX7_init 167 = .ok (.iconst 2, 1) := by decide +kernel
theorem dX7_init_168 : decode cX7_init 168 = .ok (.newarray .int, 2) := by decide +kernel
theorem dX7_init_170 : decode cX7_init 170 = .ok (.putfield 78, 3) := by decide +kernel
theorem dX7_init_173 : decode cX7_init 173 = .ok (.aload_n 0, 1) := by decide +kernel
theorem dX7_init_174 : decode cX7_init 174 = .ok (.iconst 2, 1) := by decide +kernel
theorem dX7_init_175 : decode cX7_init 175 = .ok (.newarray .int, 2) := by decide +kernel
theorem dX7_init_177 : decode cX7_init 177 = .ok (.putfield 81, 3) := by decide +kernel
theorem dX7_init_180 : decode cX7_init 180 = .ok (.aload_n 0, 1) := by decide +kernel
theorem dX7_init_181 : decode cX7_init 181 = .ok (.iconst 2, 1) := by decide +kernel
theorem dX7_init_182 : decode cX7_init 182 = .ok (.newarray .long, 2) := by decide +kernel
theorem dX7_init_184 : decode cX7_init 184 = .ok (.putfield 84, 3) := by decide +kernel
theorem dX7_init_187 : decode cX7_init 187 = .ok (.aload_n 0, 1) := by decide +kernel
theorem dX7_init_188 : decode cX7_init 188 = .ok (.iconst 2, 1) := by decide +kernel
theorem dX7_init_189 : decode cX7_init 189 = .ok (.newarray .int, 2) := by decide +kernel
theorem dX7_init_191 : decode cX7_init 191 = .ok (.putfield 88, 3) := by decide +kernel
theorem dX7_init_194 : decode cX7_init 194 = .ok (.aload_n 0, 1) := by decide +kernel
theorem dX7_init_195 : decode cX7_init 195 = .ok (.iconst 2, 1) := by decide +kernel
theorem dX7_init_196 : decode cX7_init 196 = .ok (.newarray .int, 2) := by decide +kernel
theorem dX7_init_198 : decode cX7_init 198 = .ok (.putfield 91, 3) := by decide +kernel
theorem dX7_init_201 : decode cX7_init 201 = .ok (.aload_n 0, 1) := by decide +kernel
theorem dX7_init_202 : decode cX7_init 202 = .ok (.iconst 2, 1) := by decide +kernel
theorem dX7_init_203 : decode cX7_init 203 = .ok (.newarray .int, 2) := by decide +kernel
theorem dX7_init_205 : decode cX7_init 205 = .ok (.putfield 94, 3) := by decide +kernel
theorem dX7_init_208 : decode cX7_init 208 = .ok (.aload_n 0, 1) := by decide +kernel
theorem dX7_init_209 : decode cX7_init 209 = .ok (.sipush 16384, 3) := by decide +kernel
theorem dX7_init_212 : decode cX7_init 212 = .ok (.newarray .int, 2) := by decide +kernel
theorem dX7_init_214 : decode cX7_init 214 = .ok (.putfield 97, 3) := by decide +kernel
theorem dX7_init_217 : decode cX7_init 217 = .ok (.aload_n 0, 1) := by decide +kernel
theorem dX7_init_218 : decode cX7_init 218 = .ok (.sipush 16384, 3) := by decide +kernel
theorem dX7_init_221 : decode cX7_init 221 = .ok (.newarray .int, 2) := by decide +kernel
theorem dX7_init_223 : decode cX7_init 223 = .ok (.putfield 100, 3) := by decide +kernel
theorem dX7_init_226 : decode cX7_init 226 = .ok (.aload_n 0, 1) := by decide +kernel
theorem dX7_init_227 : decode cX7_init 227 = .ok (.iconst 2, 1) := by decide +kernel
theorem dX7_init_228 : decode cX7_init 228 = .ok (.newarray .int, 2) := by decide +kernel
theorem dX7_init_230 : decode cX7_init 230 = .ok (.putfield 103, 3) := by decide +kernel
theorem dX7_init_233 : decode cX7_init 233 = .ok (.aload_n 0, 1) := by decide +kernel
theorem dX7_init_234 : decode cX7_init 234 = .ok (.iconst 2, 1) := by decide +kernel
theorem dX7_init_235 : decode cX7_init 235 = .ok (.newarray .int, 2) := by decide +kernel
theorem dX7_init_237 : decode cX7_init 237 = .ok (.putfield 106, 3) := by decide +kernel
theorem dX7_init_240 : decode cX7_init 240 = .ok (.aload_n 0, 1) := by decide +kernel
theorem dX7_init_241 : decode cX7_init 241 = .ok (.iconst 2, 1) := by decide +kernel
theorem dX7_init_242 : decode cX7_init 242 = .ok (.newarray .int, 2) := by decide +kernel
theorem dX7_init_244 : decode cX7_init 244 = .ok (.putfield 109, 3) := by decide +kernel
theorem dX7_init_247 : decode cX7_init 247 = .ok (.aload_n 0, 1) := by decide +kernel
theorem dX7_init_248 : decode cX7_init 248 = .ok (.iconst 2, 1) := by decide +kernel
theorem dX7_init_249 : decode cX7_init 249 = .ok (.newarray .int, 2) := by decide +kernel
theorem dX7_init_251 : decode cX7_init 251 = .ok (.putfield 112, 3) := by decide +kernel
theorem dX7_init_254 : decode cX7_init 254 = .ok (.aload_n 0, 1) := by decide +kernel
theorem dX7_init_255 : decode cX7_init 255 = .ok (.iconst 2, 1) := by decide +kernel
theorem dX7_init_256 : decode cX7_init 256 = .ok (.newarray .int, 2) := by decide +kernel
theorem dX7_init_258 : decode cX7_init 258 = .ok (.putfield 115, 3) := by decide +kernel
theorem dX7_init_261 : decode cX7_init 261 = .ok (.aload_n 0, 1) := by decide +kernel
theorem dX7_init_262 : decode cX7_init 262 = .ok (.iconst 2, 1) := by decide +kernel
theorem dX7_init_263 : decode cX7_init 263 = .ok (.newarray .boolean, 2) := by decide +kernel
theorem dX7_init_265 : decode cX7_init 265 = .ok (.putfield 118, 3) := by decide +kernel
theorem dX7_init_268 : decode cX7_init 268 = .ok (.aload_n 0, 1) := by decide +kernel
theorem dX7_init_269 : decode cX7_init 269 = .ok (.iconst 2, 1) := by decide +kernel
theorem dX7_init_270 : decode cX7_init 270 = .ok (.newarray .int, 2) := by decide +kernel
theorem dX7_init_272 : decode cX7_init 272 = .ok (.putfield 121, 3) := by decide +kernel
theorem dX7_init_275 : decode cX7_init 275 = .ok (.aload_n 0, 1) := by decide +kernel
theorem dX7_init_276 : decode cX7_init 276 = .ok (.iconst 2, 1) := by decide +kernel
theorem dX7_init_277 : decode cX7_init 277 = .ok (.newarray .int, 2) := by decide +kernel
theorem dX7_init_279 : decode cX7_init 279 = .ok (.putfield 124, 3) := by decide +kernel
theorem dX7_init_282 : decode cX7_init 282 = .ok (.aload_n 0, 1) := by decide +kernel
theorem dX7_init_283 : decode cX7_init 283 = .ok (.iconst 2, 1) := by decide +kernel
theorem dX7_init_284 : decode cX7_init 284 = .ok (.newarray .int, 2) := by decide +kernel
theorem dX7_init_286 : decode cX7_init 286 = .ok (.putfield 127, 3) := by decide +kernel
theorem dX7_init_289 : decode cX7_init 289 = .ok (.aload_n 0, 1) := by decide +kernel
theorem dX7_init_290 : decode cX7_init 290 = .ok (.bipush 24, 2) := by decide +kernel
theorem dX7_init_292 : decode cX7_init 292 = .ok (.newarray .int, 2) := by decide +kernel
theorem dX7_init_294 : decode cX7_init 294 = .ok (.putfield 130, 3) := by decide +kernel
theorem dX7_init_297 : decode cX7_init 297 = .ok (.aload_n 0, 1) := by decide +kernel
theorem dX7_init_298 : decode cX7_init 298 = .ok (.bipush 24, 2) := by decide +kernel
theorem dX7_init_300 : decode cX7_init 300 = .ok (.newarray .int, 2) := by decide +kernel
theorem dX7_init_302 : decode cX7_init 302 = .ok (.putfield 133, 3) := by decide +kernel
theorem dX7_init_305 : decode cX7_init 305 = .ok (.iconst 0, 1) := by decide +kernel
theorem dX7_init_306 : decode cX7_init 306 = .ok (.istore_n 1, 1) := by decide +kernel
theorem dX7_init_307 : decode cX7_init 307 = .ok (.iload_n 1, 1) := by decide +kernel
theorem dX7_init_308 : decode cX7_init 308 = .ok (.iconst 2, 1) := by decide +kernel
theorem dX7_init_309 : decode cX7_init 309 = .ok (.if_icmp .ge 25, 3) := by decide +kernel
theorem dX7_init_312 : decode cX7_init 312 = .ok (.aload_n 0, 1) := by decide +kernel
theorem dX7_init_313 : decode cX7_init 313 = .ok (.getfield 78, 3) := by decide +kernel
theorem dX7_init_316 : decode cX7_init 316 = .ok (.iload_n 1, 1) := by decide +kernel
theorem dX7_init_317 : decode cX7_init 317 = .ok (.bipush (-9), 2) := by decide +kernel
theorem dX7_init_319 : decode cX7_init 319 = .ok (.iastore, 1) := by decide +kernel
theorem dX7_init_320 : decode cX7_init 320 = .ok (.aload_n 0, 1) := by decide +kernel
theorem dX7_init_321 : decode cX7_init 321 = .ok (.getfield 115, 3) := by decide +kernel
theorem dX7_init_324 : decode cX7_init 324 = .ok (.iload_n 1, 1) := by decide +kernel

theorem dX7_init_325 : decode cX7_init 325 = .ok (.bipush (-9), 2) := by decide +kernel
theorem dX7_init_327 : decode cX7_init 327 = .ok (.iastore, 1) := by decide +kernel
theorem dX7_init_328 : decode cX7_init 328 = .ok (.iinc 1 1, 3) := by decide +kernel
theorem dX7_init_331 : decode cX7_init 331 = .ok (.goto (-24), 3) := by decide +kernel
theorem dX7_init_334 : decode cX7_init 334 = .ok (.return_, 1) := by decide +kernel
theorem dX7_within_0 : decode cX7_within 0 = .ok (.iload_n 0, 1) := by decide +kernel
theorem dX7_within_1 : decode cX7_within 1 = .ok (.iload_n 1, 1) := by decide +kernel
theorem dX7_within_2 : decode cX7_within 2 = .ok (.if_icmp .lt 12, 3) := by decide +kernel
theorem dX7_within_5 : decode cX7_within 5 = .ok (.iload_n 0, 1) := by decide +kernel
theorem dX7_within_6 : decode cX7_within 6 = .ok (.iload_n 2, 1) := by decide +kernel
theorem dX7_within_7 : decode cX7_within 7 = .ok (.if_icmp .gt 7, 3) := by decide +kernel
theorem dX7_within_10 : decode cX7_within 10 = .ok (.iconst 1, 1) := by decide +kernel
theorem dX7_within_11 : decode cX7_within 11 = .ok (.goto 4, 3) := by decide +kernel
theorem dX7_within_14 : decode cX7_within 14 = .ok (.iconst 0, 1) := by decide +kernel
theorem dX7_within_15 : decode cX7_within 15 = .ok (.ireturn, 1) := by decide +kernel
set_option maxRecDepth 20000 in
theorem ggX7_isSender_X7_within : GoodIn wsX7_isSender wsX7_within := goodIn_r _ [4] (by decide +kernel) (by decide +kernel)
set_option maxRecDepth 20000 in
theorem gX7_isSender_X7_within : GoodIn wsX7_isSender (va_wsS RX7 136 yX7_within wsX7_within) := goodIn_app (goodIn_of _ (by decide +kernel)) ggX7_isSender_X7_within
theorem dX7_isSender_0 : decode cX7_isSender 0 = .ok (.iload_n 0, 1) := by decide +kernel
theorem dX7_isSender_1 : decode cX7_isSender 1 = .ok (.iconst 0, 1) := by decide +kernel
theorem dX7_isSender_2 : decode cX7_isSender 2 = .ok (.iconst 1, 1) := by decide +kernel
theorem dX7_isSender_3 : decode cX7_isSender 3 = .ok (.invokestatic 136, 3) := by decide +kernel
theorem dX7_isSender_6 : decode cX7_isSender 6 = .ok (.ireturn, 1) := by decide +kernel
set_option maxRecDepth 20000 in
theorem ggX7_gate_X7_within : GoodIn wsX7_gate wsX7_within := goodIn_r _ [7] (by decide +kernel) (by decide +kernel)
set_option maxRecDepth 20000 in
theorem gX7_gate_X7_within : GoodIn wsX7_gate (va_wsS RX7 136 yX7_within wsX7_within) := goodIn_app (goodIn_of _ (by decide +kernel)) ggX7_gate_X7_within
theorem dX7_gate_0 : decode cX7_gate 0 = .ok (.iload_n 1, 1) := by decide +kernel
theorem dX7_gate_1 : decode cX7_gate 1 = .ok (.iconst 1, 1) := by decide +kernel
theorem dX7_gate_2 : decode cX7_gate 2 = .ok (.bipush 40, 2) := by decide +kernel
theorem dX7_gate_4 : decode cX7_gate 4 = .ok (.invokestatic 136, 3) := by decide +kernel
theorem dX7_gate_7 : decode cX7_gate 7 = .ok (.ifCond .eq 24, 3) := by decide +kernel
theorem dX7_gate_10 : decode cX7_gate 10 = .ok (.iload_n 2, 1) := by decide +kernel
theorem dX7_gate_11 : decode cX7_gate 11 = .ok (.iconst 1, 1) := by decide +kernel
theorem dX7_gate_12 : decode cX7_gate 12 = .ok (.bipush 60, 2) := by decide +kernel
theorem dX7_gate_14 : decode cX7_gate 14 = .ok (.invokestatic 136, 3) := by decide +kernel
theorem dX7_gate_17 : decode cX7_gate 17 = .ok (.ifCond .eq 14, 3) := by decide +kernel
theorem dX7_gate_20 : decode cX7_gate 20 = .ok (.iload_n 3, 1) := by decide +kernel
theorem dX7_gate_21 : decode cX7_gate 21 = .ok (.iconst 1, 1) := by decide +kernel
theorem dX7_gate_22 : decode cX7_gate 22 = .ok (.sipush 200, 3) := by decide +kernel
theorem dX7_gate_25 : decode cX7_gate 25 = .ok (.invokestatic 136, 3) := by decide +kernel
theorem dX7_gate_28 : decode cX7_gate 28 = .ok (.ifCond .ne 6, 3) := by decide +kernel
theorem dX7_gate_31 : decode cX7_gate 31 = .ok (.bipush (-2), 2) := by decide +kernel
theorem dX7_gate_33 : decode cX7_gate 33 = .ok (.ireturn, 1) := by decide +kernel
theorem dX7_gate_34 : decode cX7_gate 34 = .ok (.aload_n 0, 1) := by decide +kernel
theorem dX7_gate_35 : decode cX7_gate 35 = .ok (.iload_n 1, 1) := by decide +kernel
theorem dX7_gate_36 : decode cX7_gate 36 = .ok (.putfield 7, 3) := by decide +kernel
theorem dX7_gate_39 : decode cX7_gate 39 = .ok (.aload_n 0, 1) := by decide +kernel
theorem dX7_gate_40 : decode cX7_gate 40 = .ok (.iload_n 2, 1) := by decide +kernel
theorem dX7_gate_41 : decode cX7_gate 41 = .ok (.putfield 13, 3) := by decide +kernel
theorem dX7_gate_44 : decode cX7_gate 44 = .ok (.aload_n 0, 1) := by decide +kernel
theorem dX7_gate_45 : decode cX7_gate 45 = .ok (.iload_n 3, 1) := by decide +kernel
theorem dX7_gate_46 : decode cX7_gate 46 = .ok (.putfield 16, 3) := by decide +kernel
theorem dX7_gate_49 : decode cX7_gate 49 = .ok (.iconst 1, 1) := by decide +kernel
theorem dX7_gate_50 : decode cX7_gate 50 = .ok (.ireturn, 1) := by decide +kernel
set_option maxRecDepth 20000 in
theorem ggX7_guests_X7_within : GoodIn wsX7_guests wsX7_within := goodIn_r _ [5] (by decide +kernel) (by decide +kernel)
set_option maxRecDepth 20000 in
theorem gX7_guests_X7_within : GoodIn wsX7_guests (va_wsS RX7 136 yX7_within wsX7_within) := goodIn_app (goodIn_of _ (by decide +kernel)) ggX7_guests_X7_within
theorem dX7_guests_0 : decode cX7_guests 0 = .ok (.iload_n 1, 1) := by decide +kernel
theorem dX7_guests_1 : decode cX7_guests 1 = .ok (.iconst 0, 1) := by decide +kernel
theorem dX7_guests_2 : decode cX7_guests 2 = .ok (.sipush 200, 3) := by decide +kernel
theorem dX7_guests_5 : decode cX7_guests 5 = .ok (.invokestatic 136, 3) := by decide +kernel
theorem dX7_guests_8 : decode cX7_guests 8 = .ok (.ifCond .ne 6, 3) := by decide +kernel
theorem dX7_guests_11 : decode cX7_guests 11 = .ok (.bipush (-2), 2) := by decide +kernel
theorem dX7_guests_13 : decode cX7_guests 13 = .ok (.ireturn, 1) := by decide +kernel
theorem dX7_guests_14 : decode cX7_guests 14 = .ok (.aload_n 0, 1) := by decide +kernel
theorem dX7_guests_15 : decode cX7_guests 15 = .ok (.getfield 140, 3) := by decide +kernel
theorem dX7_guests_18 : decode cX7_guests 18 = .ok (.istore_n 2, 1) := by decide +kernel
theorem dX7_guests_19 : decode cX7_guests 19 = .ok (.aload_n 0, 1) := by decide +kernel
theorem dX7_guests_20 : decode cX7_guests 20 = .ok (.iload_n 1, 1) := by decide +kernel
theorem dX7_guests_21 : decode cX7_guests 21 = .ok (.putfield 140, 3) := by decide +kernel
theorem dX7_guests_24 : decode cX7_guests 24 = .ok (.iload_n 2, 1) := by decide +kernel
theorem dX7_guests_25 : decode cX7_guests 25 = .ok (.ireturn, 1) := by decide +kernel
theorem dX7_serves_0 : decode cX7_serves 0 = .ok (.aload_n 0, 1) := by decide +kernel
theorem dX7_serves_1 : decode cX7_serves 1 = .ok (.iload_n 1, 1) := by decide +kernel
theorem dX7_serves_2 : decode cX7_serves 2 = .ok (.putfield 19, 3) := by decide +kernel
theorem dX7_serves_5 : decode cX7_serves 5 = .ok (.aload_n 0, 1) := by decide +kernel
theorem dX7_serves_6 : decode cX7_serves 6 = .ok (.iload_n 2, 1) := by decide +kernel
theorem dX7_serves_7 : decode cX7_serves 7 = .ok (.putfield 143, 3) := by decide +kernel
theorem dX7_serves_10 : decode cX7_serves 10 = .ok (.aload_n 0, 1) := by decide +kernel
theorem dX7_serves_11 : decode cX7_serves 11 = .ok (.aload_n 0, 1) := by decide +kernel
theorem dX7_serves_12 : decode cX7_serves 12 = .ok (.getfield 146, 3) := by decide +kernel
theorem dX7_serves_15 : decode cX7_serves 15 = .ok (.aload_n 0, 1) := by decide +kernel
theorem dX7_serves_16 : decode cX7_serves 16 = .ok (.getfield 7, 3) := by decide +kernel
theorem dX7_serves_19 : decode cX7_serves 19 = .ok (.iadd, 1) := by decide +kernel
theorem dX7_serves_20 : decode cX7_serves 20 = .ok (.putfield 149, 3) := by decide +kernel
theorem dX7_serves_23 : decode cX7_serves 23 = .ok (.return_, 1) := by decide +kernel
set_option maxRecDepth 20000 in
theorem ggX7_comes_X7_serves : GoodIn wsX7_comes wsX7_serves := goodIn_r _ [11, 1, 12, 13, 14, 15, 16, 17, 18, 19, 20, 21, 22, 23, 24, 25, 26, 27, 28, 29, 30, 31, 32, 33, 34, 35, 36, 37, 38, 39, 40, 41, 42, 43, 44, 45, 46, 47, 48, 49, 50, 51, 52, 53, 54, 55, 56, 57, 58, 59, 60, 61, 62, 63, 64, 65] (by decide +kernel) (by decide +kernel)
set_option maxRecDepth 20000 in
theorem gX7_comes_X7_serves : GoodIn wsX7_comes (wsV RX7 152 RX7 yX7_serves wsX7_serves) := goodIn_app (goodIn_of _ (by decide +kernel)) ggX7_comes_X7_serves
theorem dX7_comes_0 : decode cX7_comes 0 = .ok (.aload_n 0, 1) := by decide +kernel
theorem dX7_comes_1 : decode cX7_comes 1 = .ok (.getfield 19, 3) := by decide +kernel
theorem dX7_comes_4 : decode cX7_comes 4 = .ok (.iconst 3, 1) := by decide +kernel
theorem dX7_comes_5 : decode cX7_comes 5 = .ok (.if_icmp .ne 11, 3) := by decide +kernel
theorem dX7_comes_8 : decode cX7_comes 8 = .ok (.aload_n 0, 1) := by decide +kernel
theorem dX7_comes_9 : decode cX7_comes 9 = .ok (.iload_n 1, 1) := by decide +kernel
theorem dX7_comes_10 : decode cX7_comes 10 = .ok (.iload_n 2, 1) := by decide +kernel
theorem dX7_comes_11 : decode cX7_comes 11 = .ok (.invokevirtual 152, 3) := by decide +kernel
theorem dX7_comes_14 : decode cX7_comes 14 = .ok (.iconst 1, 1) := by decide +kernel
theorem dX7_comes_15 : decode cX7_comes 15 = .ok (.ireturn, 1) := by decide +kernel
theorem dX7_comes_16 : decode cX7_comes 16 = .ok (.aload_n 0, 1) := by decide +kernel
theorem dX7_comes_17 : decode cX7_comes 17 = .ok (.getfield 156, 3) := by decide +kernel
theorem dX7_comes_20 : decode cX7_comes 20 = .ok (.aload_n 0, 1) := by decide +kernel
theorem dX7_comes_21 : decode cX7_comes 21 = .ok (.getfield 13, 3) := by decide +kernel
theorem dX7_comes_24 : decode cX7_comes 24 = .ok (.if_icmp .lt 5, 3) := by decide +kernel
theorem dX7_comes_27 : decode cX7_comes 27 = .ok (.iconst 0, 1) := by decide +kernel
theorem dX7_comes_28 : decode cX7_comes 28 = .ok (.ireturn, 1) := by decide +kernel
theorem dX7_comes_29 : decode cX7_comes 29 = .ok (.aload_n 0, 1) := by decide +kernel
theorem dX7_comes_30 : decode cX7_comes 30 = .ok (.getfield 22, 3) := by decide +kernel
theorem dX7_comes_33 : decode cX7_comes 33 = .ok (.aload_n 0, 1) := by decide +kernel
theorem dX7_comes_34 : decode cX7_comes 34 = .ok (.getfield 156, 3) := by decide +kernel
theorem dX7_comes_37 : decode cX7_comes 37 = .ok (.iload_n 1, 1) := by decide +kernel
theorem dX7_comes_38 : decode cX7_comes 38 = .ok (.iastore, 1) := by decide +kernel
theorem dX7_comes_39 : decode cX7_comes 39 = .ok (.aload_n 0, 1) := by decide +kernel
theorem dX7_comes_40 : decode cX7_comes 40 = .ok (.getfield 26, 3) := by decide +kernel
theorem dX7_comes_43 : decode cX7_comes 43 = .ok (.aload_n 0, 1) := by decide +kernel
theorem dX7_comes_44 : decode cX7_comes 44 = .ok (.getfield 156, 3) := by decide +kernel
theorem dX7_comes_47 : decode cX7_comes 47 = .ok (.iload_n 2, 1) := by decide +kernel
theorem dX7_comes_48 : decode cX7_comes 48 = .ok (.iastore, 1) := by decide +kernel
theorem dX7_comes_49 : decode cX7_comes 49 = .ok (.aload_n 0, 1) := by decide +kernel
theorem dX7_comes_50 : decode cX7_comes 50 = .ok (.dup, 1) := by decide +kernel
theorem dX7_comes_51 : decode cX7_comes 51 = .ok (.getfield 156, 3) := by decide +kernel
theorem dX7_comes_54 : decode cX7_comes 54 = .ok (.iconst 1, 1) := by decide +kernel
theorem dX7_comes_55 : decode cX7_comes 55 = .ok (.iadd, 1) := by decide +kernel
theorem dX7_comes_56 : decode cX7_comes 56 = .ok (.putfield 156, 3) := by decide +kernel
theorem dX7_comes_59 : decode cX7_comes 59 = .ok (.aload_n 0, 1) := by decide +kernel
theorem dX7_comes_60 : decode cX7_comes 60 = .ok (.aload_n 0, 1) := by decide +kernel
theorem dX7_comes_61 : decode cX7_comes 61 = .ok (.getfield 156, 3) := by decide +kernel
theorem dX7_comes_64 : decode cX7_comes 64 = .ok (.aload_n 0, 1) := by decide +kernel
theorem dX7_comes_65 : decode cX7_comes 65 = .ok (.getfield 159, 3) := by decide +kernel
theorem dX7_comes_68 : decode cX7_comes 68 = .ok (.if_icmp .le 10, 3) := by decide +kernel
theorem dX7_comes_71 : decode cX7_comes 71 = .ok (.aload_n 0, 1) := by decide +kernel
theorem dX7_comes_72 : decode cX7_comes 72 = .ok (.getfield 156, 3) := by decide +kernel
theorem dX7_comes_75 : decode cX7_comes 75 = .ok (.goto 7, 3) := by decide +kernel
theorem dX7_comes_78 : decode cX7_comes 78 = .ok (.aload_n 0, 1) := by decide +kernel
theorem dX7_comes_79 : decode cX7_comes 79 = .ok (.getfield 159, 3) := by decide +kernel
theorem dX7_comes_82 : decode cX7_comes 82 = .ok (.putfield 159, 3) := by decide +kernel
theorem dX7_comes_85 : decode cX7_comes 85 = .ok (.iconst 1, 1) := by decide +kernel
theorem dX7_comes_86 : decode cX7_comes 86 = .ok (.ireturn, 1) := by decide +kernel
set_option maxRecDepth 20000 in
theorem ggX7_leaves_X7_placeOf : GoodIn wsX7_leaves wsX7_placeOf := goodIn_r _ [14, 15, 22, 23, 24, 25, 26, 27, 28, 29, 30, 31, 32, 33, 34, 35, 36, 37, 38, 39, 40, 41, 42, 43, 44, 45, 46, 47, 48, 49, 50, 51, 52, 53, 54, 55, 56, 57, 58, 59, 60, 61, 62, 63, 64, 65, 66, 67, 68, 69, 70, 71] (by decide +kernel) (by decide +kernel)
set_option maxRecDepth 20000 in
theorem gX7_leaves_X7_placeOf : GoodIn wsX7_leaves (wsV RX7 162 RX7 yX7_placeOf wsX7_placeOf) := goodIn_app (goodIn_of _ (by decide +kernel)) ggX7_leaves_X7_placeOf
set_option maxRecDepth 20000 in
theorem ggX7_leaves_X7_serves : GoodIn wsX7_leaves wsX7_serves := goodIn_r _ [19, 2, 4, 5, 20, 21, 22, 23, 24, 25, 26, 27, 28, 29, 30, 31, 32, 33, 34, 35, 36, 37, 38, 39, 40, 41, 42, 43, 44, 45, 46, 47, 48, 49, 50, 51, 52, 53, 54, 55, 56, 57, 58, 59, 60, 61, 62, 63, 64, 65, 66, 67, 68, 69, 70, 71] (by decide +kernel) (by decide +kernel)
set_option maxRecDepth 20000 in
theorem gX7_leaves_X7_serves : GoodIn wsX7_leaves (wsV RX7 152 RX7 yX7_serves wsX7_serves) := goodIn_app (goodIn_of _ (by decide +kernel)) ggX7_leaves_X7_serves
theorem dX7_leaves_0 : decode cX7_leaves 0 = .ok (.aload_n 0, 1) := by decide +kernel
theorem dX7_leaves_1 : decode cX7_leaves 1 = .ok (.getfield 29, 3) := by decide +kernel
theorem dX7_leaves_4 : decode cX7_leaves 4 = .ok (.aload_n 0, 1) := by decide +kernel
theorem dX7_leaves_5 : decode cX7_leaves 5 = .ok (.getfield 19, 3) := by decide +kernel
theorem dX7_leaves_8 : decode cX7_leaves 8 = .ok (.dup2, 1) := by decide +kernel
theorem dX7_leaves_9 : decode cX7_leaves 9 = .ok (.iaload, 1) := by decide +kernel
theorem dX7_leaves_10 : decode cX7_leaves 10 = .ok (.iconst 1, 1) := by decide +kernel
theorem dX7_leaves_11 : decode cX7_leaves 11 = .ok (.iadd, 1) := by decide +kernel
theorem dX7_leaves_12 : decode cX7_leaves 12 = .ok (.iastore, 1) := by decide +kernel
theorem dX7_leaves_13 : decode cX7_leaves 13 = .ok (.aload_n 0, 1) := by decide +kernel
theorem dX7_leaves_14 : decode cX7_leaves 14 = .ok (.getfield 19, 3) := by decide +kernel
theorem dX7_leaves_17 : decode cX7_leaves 17 = .ok (.iconst 2, 1) := by decide +kernel
theorem dX7_leaves_18 : decode cX7_leaves 18 = .ok (.if_icmp .eq 38, 3) := by decide +kernel
theorem dX7_leaves_21 : decode cX7_leaves 21 = .ok (.aload_n 0, 1) := by decide +kernel
theorem dX7_leaves_22 : decode cX7_leaves 22 = .ok (.getfield 51, 3) := by decide +kernel
theorem dX7_leaves_25 : decode cX7_leaves 25 = .ok (.sipush 512, 3) := by decide +kernel
theorem dX7_leaves_28 : decode cX7_leaves 28 = .ok (.aload_n 0, 1) := by decide +kernel
theorem dX7_leaves_29 : decode cX7_leaves 29 = .ok (.getfield 19, 3) := by decide +kernel
theorem dX7_leaves_32 : decode cX7_leaves 32 = .ok (.imul, 1) := by decide +kernel
theorem dX7_leaves_33 : decode cX7_leaves 33 = .ok (.aload_n 0, 1) := by decide +kernel
theorem dX7_leaves_34 : decode cX7_leaves 34 = .ok (.aload_n 0, 1) := by decide +kernel
theorem dX7_leaves_35 : decode cX7_leaves 35 = .ok (.getfield 19, 3) := by decide +kernel
theorem dX7_leaves_38 : decode cX7_leaves 38 = .ok (.aload_n 0, 1) := by decide +kernel
theorem dX7_leaves_39 : decode cX7_leaves 39 = .ok (.getfield 143, 3) := by decide +kernel
theorem dX7_leaves_42 : decode cX7_leaves 42 = .ok (.invokevirtual 162, 3) := by decide +kernel
theorem dX7_leaves_45 : decode cX7_leaves 45 = .ok (.iadd, 1) := by decide +kernel
theorem dX7_leaves_46 : decode cX7_leaves 46 = .ok (.aload_n 0, 1) := by decide +kernel
theorem dX7_leaves_47 : decode cX7_leaves 47 = .ok (.getfield 146, 3) := by decide +kernel
theorem dX7_leaves_50 : decode cX7_leaves 50 = .ok (.aload_n 0, 1) := by decide +kernel
theorem dX7_leaves_51 : decode cX7_leaves 51 = .ok (.getfield 16, 3) := by decide +kernel
theorem dX7_leaves_54 : decode cX7_leaves 54 = .ok (.iadd, 1) := by decide +kernel
theorem dX7_leaves_55 : decode cX7_leaves 55 = .ok (.iastore, 1) := by decide +kernel
theorem dX7_leaves_56 : decode cX7_leaves 56 = .ok (.aload_n 0, 1) := by decide +kernel
theorem dX7_leaves_57 : decode cX7_leaves 57 = .ok (.iconst 3, 1) := by decide +kernel
theorem dX7_leaves_58 : decode cX7_leaves 58 = .ok (.putfield 19, 3) := by decide +kernel
theorem dX7_leaves_61 : decode cX7_leaves 61 = .ok (.aload_n 0, 1) := by decide +kernel
theorem dX7_leaves_62 : decode cX7_leaves 62 = .ok (.getfield 156, 3) := by decide +kernel
theorem dX7_leaves_65 : decode cX7_leaves 65 = .ok (.ifCond .le 73, 3) := by decide +kernel
theorem dX7_leaves_68 : decode cX7_leaves 68 = .ok (.aload_n 0, 1) := by decide +kernel
theorem dX7_leaves_69 : decode cX7_leaves 69 = .ok (.aload_n 0, 1) := by decide +kernel
theorem dX7_leaves_70 : decode cX7_leaves 70 = .ok (.getfield 22, 3) := by decide +kernel
theorem dX7_leaves_73 : decode cX7_leaves 73 = .ok (.iconst 0, 1) := by decide +kernel
theorem dX7_leaves_74 : decode cX7_leaves 74 = .ok (.iaload, 1) := by decide +kernel
theorem dX7_leaves_75 : decode cX7_leaves 75 = .ok (.aload_n 0, 1) := by decide +kernel
theorem dX7_leaves_76 : decode cX7_leaves 76 = .ok (.getfield 26, 3) := by decide +kernel
theorem dX7_leaves_79 : decode cX7_leaves 79 = .ok (.iconst 0, 1) := by decide +kernel
theorem dX7_leaves_80 : decode cX7_leaves 80 = .ok (.iaload, 1) := by decide +kernel
theorem dX7_leaves_81 : decode cX7_leaves 81 = .ok (.invokevirtual 152, 3) := by decide +kernel
theorem dX7_leaves_84 : decode cX7_leaves 84 = .ok (.aload_n 0, 1) := by decide +kernel
theorem dX7_leaves_85 : decode cX7_leaves 85 = .ok (.dup, 1) := by decide +kernel
theorem dX7_leaves_86 : decode cX7_leaves 86 = .ok (.getfield 156, 3) := by decide +kernel
theorem dX7_leaves_89 : decode cX7_leaves 89 = .ok (.iconst 1, 1) := by decide +kernel
theorem dX7_leaves_90 : decode cX7_leaves 90 = .ok (.isub, 1) := by decide +kernel
theorem dX7_leaves_91 : decode cX7_leaves 91 = .ok (.putfield 156, 3) := by decide +kernel
theorem dX7_leaves_94 : decode cX7_leaves 94 = .ok (.iconst 0, 1) := by decide +kernel
theorem dX7_leaves_95 : decode cX7_leaves 95 = .ok (.istore_n 1, 1) := by decide +kernel
theorem dX7_leaves_96 : decode cX7_leaves 96 = .ok (.iload_n 1, 1) := by decide +kernel
theorem dX7_leaves_97 : decode cX7_leaves 97 = .ok (.aload_n 0, 1) := by decide +kernel
theorem dX7_leaves_98 : decode cX7_leaves 98 = .ok (.getfield 156, 3) := by decide +kernel
theorem dX7_leaves_101 : decode cX7_leaves 101 = .ok (.if_icmp .ge 37, 3) := by decide +kernel
theorem dX7_leaves_104 : decode cX7_leaves 104 = .ok (.aload_n 0, 1) := by decide +kernel
theorem dX7_leaves_105 : decode cX7_leaves 105 = .ok (.getfield 22, 3) := by decide +kernel
theorem dX7_leaves_108 : decode cX7_leaves 108 = .ok (.iload_n 1, 1) := by decide +kernel
theorem dX7_leaves_109 : decode cX7_leaves 109 = .ok (.aload_n 0, 1) := by decide +kernel
theorem dX7_leaves_110 : decode cX7_leaves 110 = .ok (.getfield 22, 3) := by decide +kernel
theorem dX7_leaves_113 : decode cX7_leaves 113 = .ok (.iload_n 1, 1) := by decide +kernel
theorem dX7_leaves_114 : decode cX7_leaves 114 = .ok (.iconst 1, 1) := by decide +kernel
theorem dX7_leaves_115 : decode cX7_leaves 115 = .ok (.iadd, 1) := by decide +kernel
theorem dX7_leaves_116 : decode cX7_leaves 116 = .ok (.iaload, 1) := by decide +kernel
theorem dX7_leaves_117 : decode cX7_leaves 117 = .ok (.iastore, 1) := by decide +kernel
theorem dX7_leaves_118 : decode cX7_leaves 118 = .ok (.aload_n 0, 1) := by decide +kernel
theorem dX7_leaves_119 : decode cX7_leaves 119 = .ok (.getfield 26, 3) := by decide +kernel
theorem dX7_leaves_122 : decode cX7_leaves 122 = .ok (.iload_n 1, 1) := by decide +kernel
theorem dX7_leaves_123 : decode cX7_leaves 123 = .ok (.aload_n 0, 1) := by decide +kernel
theorem dX7_leaves_124 : decode cX7_leaves 124 = .ok (.getfield 26, 3) := by decide +kernel
theorem dX7_leaves_127 : decode cX7_leaves 127 = .ok (.iload_n 1, 1) := by decide +kernel
theorem dX7_leaves_128 : decode cX7_leaves 128 = .ok (.iconst 1, 1) := by decide +kernel
theorem dX7_leaves_129 : decode cX7_leaves 129 = .ok (.iadd, 1) := by decide +kernel
theorem dX7_leaves_130 : decode cX7_leaves 130 = .ok (.iaload, 1) := by decide +kernel
theorem dX7_leaves_131 : decode cX7_leaves 131 = .ok (.iastore, 1) := by decide +kernel
theorem dX7_leaves_132 : decode cX7_leaves 132 = .ok (.iinc 1 1, 3) := by decide +kernel
theorem dX7_leaves_135 : decode cX7_leaves 135 = .ok (.goto (-39), 3) := by decide +kernel
theorem dX7_leaves_138 : decode cX7_leaves 138 = .ok (.return_, 1) := by decide +kernel
theorem dX7_placeOf_0 : decode cX7_placeOf 0 = .ok (.iconst 0, 1) := by decide +kernel
theorem dX7_placeOf_1 : decode cX7_placeOf 1 = .ok (.istore_n 3, 1) := by decide +kernel
theorem dX7_placeOf_2 : decode cX7_placeOf 2 = .ok (.aload_n 0, 1) := by decide +kernel
theorem dX7_placeOf_3 : decode cX7_placeOf 3 = .ok (.getfield 35, 3) := by decide +kernel
theorem dX7_placeOf_6 : decode cX7_placeOf 6 = .ok (.sipush 512, 3) := by decide +kernel
theorem dX7_placeOf_9 : decode cX7_placeOf 9 = .ok (.iload_n 1, 1) := by decide +kernel
theorem dX7_placeOf_10 : decode cX7_placeOf 10 = .ok (.imul, 1) := by decide +kernel
theorem dX7_placeOf_11 : decode cX7_placeOf 11 = .ok (.iload_n 3, 1) := by decide +kernel
theorem dX7_placeOf_12 : decode cX7_placeOf 12 = .ok (.iadd, 1) := by decide +kernel
theorem dX7_placeOf_13 : decode cX7_placeOf 13 = .ok (.iaload, 1) := by decide +kernel
theorem dX7_placeOf_14 : decode cX7_placeOf 14 = .ok (.iload_n 2, 1) := by decide +kernel
theorem dX7_placeOf_15 : decode cX7_placeOf 15 = .ok (.if_icmp .eq 9, 3) := by decide +kernel
theorem dX7_placeOf_18 : decode cX7_placeOf 18 = .ok (.iinc 3 1, 3) := by decide +kernel
theorem dX7_placeOf_21 : decode cX7_placeOf 21 = .ok (.goto (-19), 3) := by decide +kernel
theorem dX7_placeOf_24 : decode cX7_placeOf 24 = .ok (.iload_n 3, 1) := by decide +kernel
theorem dX7_placeOf_25 : decode cX7_placeOf 25 = .ok (.ireturn, 1) := by decide +kernel
theorem dX7_takesOff_0 : decode cX7_takesOff 0 = .ok (.aload_n 0, 1) := by decide +kernel
theorem dX7_takesOff_1 : decode cX7_takesOff 1 = .ok (.getfield 32, 3) := by decide +kernel
theorem dX7_takesOff_4 : decode cX7_takesOff 4 = .ok (.iload_n 1, 1) := by decide +kernel
theorem dX7_takesOff_5 : decode cX7_takesOff 5 = .ok (.dup2, 1) := by decide +kernel
theorem dX7_takesOff_6 : decode cX7_takesOff 6 = .ok (.iaload, 1) := by decide +kernel
theorem dX7_takesOff_7 : decode cX7_takesOff 7 = .ok (.iconst 1, 1) := by decide +kernel
theorem dX7_takesOff_8 : decode cX7_takesOff 8 = .ok (.isub, 1) := by decide +kernel
theorem dX7_takesOff_9 : decode cX7_takesOff 9 = .ok (.iastore, 1) := by decide +kernel
theorem dX7_takesOff_10 : decode cX7_takesOff 10 = .ok (.iload_n 2, 1) := by decide +kernel
theorem dX7_takesOff_11 : decode cX7_takesOff 11 = .ok (.istore_n 3, 1) := by decide +kernel
theorem dX7_takesOff_12 : decode cX7_takesOff 12 = .ok (.iload_n 3, 1) := by decide +kernel
theorem dX7_takesOff_13 : decode cX7_takesOff 13 = .ok (.aload_n 0, 1) := by decide +kernel
theorem dX7_takesOff_14 : decode cX7_takesOff 14 = .ok (.getfield 32, 3) := by decide +kernel
theorem dX7_takesOff_17 : decode cX7_takesOff 17 = .ok (.iload_n 1, 1) := by decide +kernel
theorem dX7_takesOff_18 : decode cX7_takesOff 18 = .ok (.iaload, 1) := by decide +kernel
theorem dX7_takesOff_19 : decode cX7_takesOff 19 = .ok (.if_icmp .ge 114, 3) := by decide +kernel
theorem dX7_takesOff_22 : decode cX7_takesOff 22 = .ok (.sipush 512, 3) := by decide +kernel
theorem dX7_takesOff_25 : decode cX7_takesOff 25 = .ok (.iload_n 1, 1) := by decide +kernel
theorem dX7_takesOff_26 : decode cX7_takesOff 26 = .ok (.imul, 1) := by decide +kernel
theorem dX7_takesOff_27 : decode cX7_takesOff 27 = .ok (.iload_n 3, 1) := by decide +kernel
theorem dX7_takesOff_28 : decode cX7_takesOff 28 = .ok (.iadd, 1) := by decide +kernel
theorem dX7_takesOff_29 : decode cX7_takesOff 29 = .ok (.istore 4, 2) := by decide +kernel
theorem dX7_takesOff_31 : decode cX7_takesOff 31 = .ok (.aload_n 0, 1) := by decide +kernel
theorem dX7_takesOff_32 : decode cX7_takesOff 32 = .ok (.getfield 35, 3) := by decide +kernel
theorem dX7_takesOff_35 : decode cX7_takesOff 35 = .ok (.iload 4, 2) := by decide +kernel
theorem dX7_takesOff_37 : decode cX7_takesOff 37 = .ok (.aload_n 0, 1) := by decide +kernel
theorem dX7_takesOff_38 : decode cX7_takesOff 38 = .ok (.getfield 35, 3) := by decide +kernel
theorem dX7_takesOff_41 : decode cX7_takesOff 41 = .ok (.iload 4, 2) := by decide +kernel
theorem dX7_takesOff_43 : decode cX7_takesOff 43 = .ok (.iconst 1, 1) := by decide +kernel
theorem dX7_takesOff_44 : decode cX7_takesOff 44 = .ok (.iadd, 1) := by decide +kernel
theorem dX7_takesOff_45 : decode cX7_takesOff 45 = .ok (.iaload, 1) := by decide +kernel
theorem dX7_takesOff_46 : decode cX7_takesOff 46 = .ok (.iastore, 1) := by decide +kernel
theorem dX7_takesOff_47 : decode cX7_takesOff 47 = .ok (.aload_n 0, 1) := by decide +kernel
theorem dX7_takesOff_48 : decode cX7_takesOff 48 = .ok (.getfield 38, 3) := by decide +kernel
theorem dX7_takesOff_51 : decode cX7_takesOff 51 = .ok (.iload 4, 2) := by decide +kernel
theorem dX7_takesOff_53 : decode cX7_takesOff 53 = .ok (.aload_n 0, 1) := by decide +kernel
theorem dX7_takesOff_54 : decode cX7_takesOff 54 = .ok (.getfield 38, 3) := by decide +kernel
theorem dX7_takesOff_57 : decode cX7_takesOff 57 = .ok (.iload 4, 2) := by decide +kernel
theorem dX7_takesOff_59 : decode cX7_takesOff 59 = .ok (.iconst 1, 1) := by decide +kernel
theorem dX7_takesOff_60 : decode cX7_takesOff 60 = .ok (.iadd, 1) := by decide +kernel
theorem dX7_takesOff_61 : decode cX7_takesOff 61 = .ok (.iaload, 1) := by decide +kernel
theorem dX7_takesOff_62 : decode cX7_takesOff 62 = .ok (.iastore, 1) := by decide +kernel
theorem dX7_takesOff_63 : decode cX7_takesOff 63 = .ok (.aload_n 0, 1) := by decide +kernel
theorem dX7_takesOff_64 : decode cX7_takesOff 64 = .ok (.getfield 41, 3) := by decide +kernel
theorem dX7_takesOff_67 : decode cX7_takesOff 67 = .ok (.iload 4, 2) := by decide +kernel
theorem dX7_takesOff_69 : decode cX7_takesOff 69 = .ok (.aload_n 0, 1) := by decide +kernel
theorem dX7_takesOff_70 : decode cX7_takesOff 70 = .ok (.getfield 41, 3) := by decide +kernel
theorem dX7_takesOff_73 : decode cX7_takesOff 73 = .ok (.iload 4, 2) := by decide +kernel
theorem dX7_takesOff_75 : decode cX7_takesOff 75 = .ok (.iconst 1, 1) := by decide +kernel
theorem dX7_takesOff_76 : decode cX7_takesOff 76 = .ok (.iadd, 1) := by decide +kernel
theorem dX7_takesOff_77 : decode cX7_takesOff 77 = .ok (.iaload, 1) := by decide +kernel
theorem dX7_takesOff_78 : decode cX7_takesOff 78 = .ok (.iastore, 1) := by decide +kernel
theorem dX7_takesOff_79 : decode cX7_takesOff 79 = .ok (.aload_n 0, 1) := by decide +kernel
theorem dX7_takesOff_80 : decode cX7_takesOff 80 = .ok (.getfield 44, 3) := by decide +kernel
theorem dX7_takesOff_83 : decode cX7_takesOff 83 = .ok (.iload 4, 2) := by decide +kernel
theorem dX7_takesOff_85 : decode cX7_takesOff 85 = .ok (.aload_n 0, 1) := by decide +kernel
theorem dX7_takesOff_86 : decode cX7_takesOff 86 = .ok (.getfield 44, 3) := by decide +kernel
theorem dX7_takesOff_89 : decode cX7_takesOff 89 = .ok (.iload 4, 2) := by decide +kernel
theorem dX7_takesOff_91 : decode cX7_takesOff 91 = .ok (.iconst 1, 1) := by decide +kernel
theorem dX7_takesOff_92 : decode cX7_takesOff 92 = .ok (.iadd, 1) := by decide +kernel
theorem dX7_takesOff_93 : decode cX7_takesOff 93 = .ok (.iaload, 1) := by decide +kernel
theorem dX7_takesOff_94 : decode cX7_takesOff 94 = .ok (.iastore, 1) := by decide +kernel
theorem dX7_takesOff_95 : decode cX7_takesOff 95 = .ok (.aload_n 0, 1) := by decide +kernel
theorem dX7_takesOff_96 : decode cX7_takesOff 96 = .ok (.getfield 47, 3) := by decide +kernel
theorem dX7_takesOff_99 : decode cX7_takesOff 99 = .ok (.iload 4, 2) := by decide +kernel
theorem dX7_takesOff_101 : decode cX7_takesOff 101 = .ok (.aload_n 0, 1) := by decide +kernel
theorem dX7_takesOff_102 : decode cX7_takesOff 102 = .ok (.getfield 47, 3) := by decide +kernel
theorem dX7_takesOff_105 : decode cX7_takesOff 105 = .ok (.iload 4, 2) := by decide +kernel
theorem dX7_takesOff_107 : decode cX7_takesOff 107 = .ok (.iconst 1, 1) := by decide +kernel
theorem dX7_takesOff_108 : decode cX7_takesOff 108 = .ok (.iadd, 1) := by decide +kernel
theorem dX7_takesOff_109 : decode cX7_takesOff 109 = .ok (.baload, 1) := by decide +kernel
theorem dX7_takesOff_110 : decode cX7_takesOff 110 = .ok (.bastore, 1) := by decide +kernel
theorem dX7_takesOff_111 : decode cX7_takesOff 111 = .ok (.aload_n 0, 1) := by decide +kernel
theorem dX7_takesOff_112 : decode cX7_takesOff 112 = .ok (.getfield 51, 3) := by decide +kernel
theorem dX7_takesOff_115 : decode cX7_takesOff 115 = .ok (.iload 4, 2) := by decide +kernel
theorem dX7_takesOff_117 : decode cX7_takesOff 117 = .ok (.aload_n 0, 1) := by decide +kernel
theorem dX7_takesOff_118 : decode cX7_takesOff 118 = .ok (.getfield 51, 3) := by decide +kernel
theorem dX7_takesOff_121 : decode cX7_takesOff 121 = .ok (.iload 4, 2) := by decide +kernel
theorem dX7_takesOff_123 : decode cX7_takesOff 123 = .ok (.iconst 1, 1) := by decide +kernel
theorem dX7_takesOff_124 : decode cX7_takesOff 124 = .ok (.iadd, 1) := by decide +kernel
theorem dX7_takesOff_125 : decode cX7_takesOff 125 = .ok (.iaload, 1) := by decide +kernel
theorem dX7_takesOff_126 : decode cX7_takesOff 126 = .ok (.iastore, 1) := by decide +kernel
theorem dX7_takesOff_127 : decode cX7_takesOff 127 = .ok (.iinc 3 1, 3) := by decide +kernel
theorem dX7_takesOff_130 : decode cX7_takesOff 130 = .ok (.goto (-118), 3) := by decide +kernel
theorem dX7_takesOff_133 : decode cX7_takesOff 133 = .ok (.return_, 1) := by decide +kernel
set_option maxRecDepth 20000 in
theorem ggX7_stock_X7_isSender : GoodIn wsX7_stock wsX7_isSender := goodIn_r _ [6, 7, 8, 5, 9] (by decide +kernel) (by decide +kernel)
set_option maxRecDepth 20000 in
theorem gX7_stock_X7_isSender : GoodIn wsX7_stock (va_wsS RX7 166 yX7_isSender wsX7_isSender) := goodIn_app (goodIn_of _ (by decide +kernel)) ggX7_stock_X7_isSender
set_option maxRecDepth 20000 in
theorem ggX7_stock_X7_within : GoodIn wsX7_stock wsX7_within := goodIn_r _ [9] (by decide +kernel) (by decide +kernel)
set_option maxRecDepth 20000 in
theorem gX7_stock_X7_within : GoodIn wsX7_stock (va_wsS RX7 136 yX7_within wsX7_within) := goodIn_app (goodIn_of _ (by decide +kernel)) ggX7_stock_X7_within
theorem dX7_stock_0 : decode cX7_stock 0 = .ok (.iload_n 1, 1) := by decide +kernel
theorem dX7_stock_1 : decode cX7_stock 1 = .ok (.invokestatic 166, 3) := by decide +kernel
theorem dX7_stock_4 : decode cX7_stock 4 = .ok (.ifCond .ne 5, 3) := by decide +kernel
theorem dX7_stock_7 : decode cX7_stock 7 = .ok (.iconst (-1), 1) := by decide +kernel
theorem dX7_stock_8 : decode cX7_stock 8 = .ok (.ireturn, 1) := by decide +kernel
theorem dX7_stock_9 : decode cX7_stock 9 = .ok (.iload_n 2, 1) := by decide +kernel
theorem dX7_stock_10 : decode cX7_stock 10 = .ok (.iconst 1, 1) := by decide +kernel
theorem dX7_stock_11 : decode cX7_stock 11 = .ok (.sipush 5000, 3) := by decide +kernel
theorem dX7_stock_14 : decode cX7_stock 14 = .ok (.invokestatic 136, 3) := by decide +kernel
theorem dX7_stock_17 : decode cX7_stock 17 = .ok (.ifCond .ne 6, 3) := by decide +kernel
theorem dX7_stock_20 : decode cX7_stock 20 = .ok (.bipush (-2), 2) := by decide +kernel
theorem dX7_stock_22 : decode cX7_stock 22 = .ok (.ireturn, 1) := by decide +kernel
theorem dX7_stock_23 : decode cX7_stock 23 = .ok (.aload_n 0, 1) := by decide +kernel
theorem dX7_stock_24 : decode cX7_stock 24 = .ok (.getfield 54, 3) := by decide +kernel
theorem dX7_stock_27 : decode cX7_stock 27 = .ok (.iload_n 1, 1) := by decide +kernel
theorem dX7_stock_28 : decode cX7_stock 28 = .ok (.iaload, 1) := by decide +kernel
theorem dX7_stock_29 : decode cX7_stock 29 = .ok (.iload_n 2, 1) := by decide +kernel
theorem dX7_stock_30 : decode cX7_stock 30 = .ok (.iadd, 1) := by decide +kernel
theorem dX7_stock_31 : decode cX7_stock 31 = .ok (.ldc 170, 2) := by decide +kernel
theorem dX7_stock_33 : decode cX7_stock 33 = .ok (.if_icmp .le 6, 3) := by decide +kernel
theorem dX7_stock_36 : decode cX7_stock 36 = .ok (.bipush (-4), 2) := by decide +kernel
theorem dX7_stock_38 : decode cX7_stock 38 = .ok (.ireturn, 1) := by decide +kernel
theorem dX7_stock_39 : decode cX7_stock 39 = .ok (.aload_n 0, 1) := by decide +kernel
theorem dX7_stock_40 : decode cX7_stock 40 = .ok (.getfield 54, 3) := by decide +kernel
theorem dX7_stock_43 : decode cX7_stock 43 = .ok (.iload_n 1, 1) := by decide +kernel
theorem dX7_stock_44 : decode cX7_stock 44 = .ok (.dup2, 1) := by decide +kernel
theorem dX7_stock_45 : decode cX7_stock 45 = .ok (.iaload, 1) := by decide +kernel
theorem dX7_stock_46 : decode cX7_stock 46 = .ok (.iload_n 2, 1) := by decide +kernel
theorem dX7_stock_47 : decode cX7_stock 47 = .ok (.iadd, 1) := by decide +kernel
theorem dX7_stock_48 : decode cX7_stock 48 = .ok (.iastore, 1) := by decide +kernel
theorem dX7_stock_49 : decode cX7_stock 49 = .ok (.aload_n 0, 1) := by decide +kernel
theorem dX7_stock_50 : decode cX7_stock 50 = .ok (.getfield 54, 3) := by decide +kernel
theorem dX7_stock_53 : decode cX7_stock 53 = .ok (.iload_n 1, 1) := by decide +kernel
theorem dX7_stock_54 : decode cX7_stock 54 = .ok (.iaload, 1) := by decide +kernel
theorem dX7_stock_55 : decode cX7_stock 55 = .ok (.ireturn, 1) := by decide +kernel
theorem dX7_product_0 : decode cX7_product 0 = .ok (.aload_n 0, 1) := by decide +kernel
theorem dX7_product_1 : decode cX7_product 1 = .ok (.getfield 78, 3) := by decide +kernel
theorem dX7_product_4 : decode cX7_product 4 = .ok (.iload_n 1, 1) := by decide +kernel
theorem dX7_product_5 : decode cX7_product 5 = .ok (.iaload, 1) := by decide +kernel
theorem dX7_product_6 : decode cX7_product 6 = .ok (.bipush (-9), 2) := by decide +kernel
theorem dX7_product_8 : decode cX7_product 8 = .ok (.if_icmp .ne 7, 3) := by decide +kernel
theorem dX7_product_11 : decode cX7_product 11 = .ok (.lconst 0, 1) := by decide +kernel
theorem dX7_product_12 : decode cX7_product 12 = .ok (.goto 22, 3) := by decide +kernel
theorem dX7_product_15 : decode cX7_product 15 = .ok (.aload_n 0, 1) := by decide +kernel
theorem dX7_product_16 : decode cX7_product 16 = .ok (.getfield 75, 3) := by decide +kernel
theorem dX7_product_19 : decode cX7_product 19 = .ok (.iload_n 1, 1) := by decide +kernel
theorem dX7_product_20 : decode cX7_product 20 = .ok (.iaload, 1) := by decide +kernel
theorem dX7_product_21 : decode cX7_product 21 = .ok (.i2l, 1) := by decide +kernel
theorem dX7_product_22 : decode cX7_product 22 = .ok (.aload_n 0, 1) := by decide +kernel
theorem dX7_product_23 : decode cX7_product 23 = .ok (.getfield 78, 3) := by decide +kernel
theorem dX7_product_26 : decode cX7_product 26 = .ok (.iload_n 1, 1) := by decide +kernel
theorem dX7_product_27 : decode cX7_product 27 = .ok (.iaload, 1) := by decide +kernel
theorem dX7_product_28 : decode cX7_product 28 = .ok (.i2l, 1) := by decide +kernel
theorem dX7_product_29 : decode cX7_product 29 = .ok (.lmul, 1) := by decide +kernel
theorem dX7_product_30 : decode cX7_product 30 = .ok (.ldc2_w 171, 3) := by decide +kernel
theorem dX7_product_33 : decode cX7_product 33 = .ok (.ldiv, 1) := by decide +kernel
theorem dX7_product_34 : decode cX7_product 34 = .ok (.lreturn, 1) := by decide +kernel
set_option maxRecDepth 20000 in
theorem ggX7_window_X7_product : GoodIn wsX7_window wsX7_product := goodIn_r _ [13, 4, 3, 14, 15, 16, 17, 18, 19, 20, 21, 22, 23, 24, 25, 26, 27, 28, 29, 30, 31, 32, 33, 34, 35, 36, 37, 38, 39, 40, 41, 42, 43, 44, 45, 46, 47, 48, 49, 50, 51, 52, 53, 54, 55, 56, 57, 58, 59, 60, 61, 62, 63, 64] (by decide +kernel) (by decide +kernel)
set_option maxRecDepth 20000 in
theorem gX7_window_X7_product : GoodIn wsX7_window (wsV RX7 179 RX7 yX7_product wsX7_product) := goodIn_app (goodIn_of _ (by decide +kernel)) ggX7_window_X7_product
theorem dX7_window_0 : decode cX7_window 0 = .ok (.aload_n 0, 1) := by decide +kernel
theorem dX7_window_1 : decode cX7_window 1 = .ok (.getfield 103, 3) := by decide +kernel
theorem dX7_window_4 : decode cX7_window 4 = .ok (.iload_n 1, 1) := by decide +kernel
theorem dX7_window_5 : decode cX7_window 5 = .ok (.iaload, 1) := by decide +kernel
theorem dX7_window_6 : decode cX7_window 6 = .ok (.iconst 3, 1) := by decide +kernel
theorem dX7_window_7 : decode cX7_window 7 = .ok (.if_icmp .ne 7, 3) := by decide +kernel
theorem dX7_window_10 : decode cX7_window 10 = .ok (.ldc2_w 173, 3) := by decide +kernel
theorem dX7_window_13 : decode cX7_window 13 = .ok (.lreturn, 1) := by decide +kernel
theorem dX7_window_14 : decode cX7_window 14 = .ok (.aload_n 0, 1) := by decide +kernel
theorem dX7_window_15 : decode cX7_window 15 = .ok (.getfield 75, 3) := by decide +kernel
theorem dX7_window_18 : decode cX7_window 18 = .ok (.iload_n 1, 1) := by decide +kernel
theorem dX7_window_19 : decode cX7_window 19 = .ok (.iaload, 1) := by decide +kernel
theorem dX7_window_20 : decode cX7_window 20 = .ok (.ifCond .eq 14, 3) := by decide +kernel
theorem dX7_window_23 : decode cX7_window 23 = .ok (.aload_n 0, 1) := by decide +kernel
theorem dX7_window_24 : decode cX7_window 24 = .ok (.getfield 78, 3) := by decide +kernel
theorem dX7_window_27 : decode cX7_window 27 = .ok (.iload_n 1, 1) := by decide +kernel
theorem dX7_window_28 : decode cX7_window 28 = .ok (.iaload, 1) := by decide +kernel
theorem dX7_window_29 : decode cX7_window 29 = .ok (.bipush (-9), 2) := by decide +kernel
theorem dX7_window_31 : decode cX7_window 31 = .ok (.if_icmp .ne 7, 3) := by decide +kernel
theorem dX7_window_34 : decode cX7_window 34 = .ok (.ldc2_w 175, 3) := by decide +kernel
theorem dX7_window_37 : decode cX7_window 37 = .ok (.lreturn, 1) := by decide +kernel
theorem dX7_window_38 : decode cX7_window 38 = .ok (.aload_n 0, 1) := by decide +kernel
theorem dX7_window_39 : decode cX7_window 39 = .ok (.getfield 103, 3) := by decide +kernel
theorem dX7_window_42 : decode cX7_window 42 = .ok (.iload_n 1, 1) := by decide +kernel
theorem dX7_window_43 : decode cX7_window 43 = .ok (.iaload, 1) := by decide +kernel
theorem dX7_window_44 : decode cX7_window 44 = .ok (.iconst 2, 1) := by decide +kernel
theorem dX7_window_45 : decode cX7_window 45 = .ok (.if_icmp .ne 15, 3) := by decide +kernel
theorem dX7_window_48 : decode cX7_window 48 = .ok (.ldc2_w 177, 3) := by decide +kernel
theorem dX7_window_51 : decode cX7_window 51 = .ok (.aload_n 0, 1) := by decide +kernel
theorem dX7_window_52 : decode cX7_window 52 = .ok (.iload_n 1, 1) := by decide +kernel
theorem dX7_window_53 : decode cX7_window 53 = .ok (.invokevirtual 179, 3) := by decide +kernel
theorem dX7_window_56 : decode cX7_window 56 = .ok (.lmul, 1) := by decide +kernel
theorem dX7_window_57 : decode cX7_window 57 = .ok (.goto 16, 3) := by decide +kernel
theorem dX7_window_60 : decode cX7_window 60 = .ok (.ldc2_w 183, 3) := by decide +kernel
theorem dX7_window_63 : decode cX7_window 63 = .ok (.aload_n 0, 1) := by decide +kernel
theorem dX7_window_64 : decode cX7_window 64 = .ok (.iload_n 1, 1) := by decide +kernel
theorem dX7_window_65 : decode cX7_window 65 = .ok (.invokevirtual 179, 3) := by decide +kernel
theorem dX7_window_68 : decode cX7_window 68 = .ok (.lmul, 1) := by decide +kernel
theorem dX7_window_69 : decode cX7_window 69 = .ok (.ldc2_w 185, 3) := by decide +kernel
theorem dX7_window_72 : decode cX7_window 72 = .ok (.ldiv, 1) := by decide +kernel
theorem dX7_window_73 : decode cX7_window 73 = .ok (.lstore_n 2, 1) := by decide +kernel
theorem dX7_window_74 : decode cX7_window 74 = .ok (.lload_n 2, 1) := by decide +kernel
theorem dX7_window_75 : decode cX7_window 75 = .ok (.ldc2_w 173, 3) := by decide +kernel
theorem dX7_window_78 : decode cX7_window 78 = .ok (.lcmp, 1) := by decide +kernel
theorem dX7_window_79 : decode cX7_window 79 = .ok (.ifCond .ge 9, 3) := by decide +kernel
theorem dX7_window_82 : decode cX7_window 82 = .ok (.ldc2_w 173, 3) := by decide +kernel
theorem dX7_window_85 : decode cX7_window 85 = .ok (.goto 4, 3) := by decide +kernel
theorem dX7_window_88 : decode cX7_window 88 = .ok (.lload_n 2, 1) := by decide +kernel
theorem dX7_window_89 : decode cX7_window 89 = .ok (.lreturn, 1) := by decide +kernel
theorem dX7_gain_0 : decode cX7_gain 0 = .ok (.aload_n 0, 1) := by decide +kernel
theorem dX7_gain_1 : decode cX7_gain 1 = .ok (.getfield 103, 3) := by decide +kernel
theorem dX7_gain_4 : decode cX7_gain 4 = .ok (.iload_n 1, 1) := by decide +kernel
theorem dX7_gain_5 : decode cX7_gain 5 = .ok (.iaload, 1) := by decide +kernel
theorem dX7_gain_6 : decode cX7_gain 6 = .ok (.tableswitch 40 0 3 #[30, 34, 40, 37], 30) := by decide +kernel
theorem dX7_gain_36 : decode cX7_gain 36 = .ok (.sipush 289, 3) := by decide +kernel
theorem dX7_gain_39 : decode cX7_gain 39 = .ok (.ireturn, 1) := by decide +kernel
theorem dX7_gain_40 : decode cX7_gain 40 = .ok (.bipush 35, 2) := by decide +kernel
theorem dX7_gain_42 : decode cX7_gain 42 = .ok (.ireturn, 1) := by decide +kernel
theorem dX7_gain_43 : decode cX7_gain 43 = .ok (.bipush 100, 2) := by decide +kernel
theorem dX7_gain_45 : decode cX7_gain 45 = .ok (.ireturn, 1) := by decide +kernel
theorem dX7_gain_46 : decode cX7_gain 46 = .ok (.aload_n 0, 1) := by decide +kernel
theorem dX7_gain_47 : decode cX7_gain 47 = .ok (.getfield 106, 3) := by decide +kernel
theorem dX7_gain_50 : decode cX7_gain 50 = .ok (.iload_n 1, 1) := by decide +kernel
theorem dX7_gain_51 : decode cX7_gain 51 = .ok (.iaload, 1) := by decide +kernel
theorem dX7_gain_52 : decode cX7_gain 52 = .ok (.ifCond .ne 8, 3) := by decide +kernel
theorem dX7_gain_55 : decode cX7_gain 55 = .ok (.bipush 125, 2) := by decide +kernel
theorem dX7_gain_57 : decode cX7_gain 57 = .ok (.goto 20, 3) := by decide +kernel
theorem dX7_gain_60 : decode cX7_gain 60 = .ok (.aload_n 0, 1) := by decide +kernel
theorem dX7_gain_61 : decode cX7_gain 61 = .ok (.getfield 106, 3) := by decide +kernel
theorem dX7_gain_64 : decode cX7_gain 64 = .ok (.iload_n 1, 1) := by decide +kernel
theorem dX7_gain_65 : decode cX7_gain 65 = .ok (.iaload, 1) := by decide +kernel
theorem dX7_gain_66 : decode cX7_gain 66 = .ok (.iconst 1, 1) := by decide +kernel
theorem dX7_gain_67 : decode cX7_gain 67 = .ok (.if_icmp .ne 8, 3) := by decide +kernel
theorem dX7_gain_70 : decode cX7_gain 70 = .ok (.bipush 75, 2) := by decide +kernel
theorem dX7_gain_72 : decode cX7_gain 72 = .ok (.goto 5, 3) := by decide +kernel
theorem dX7_gain_75 : decode cX7_gain 75 = .ok (.bipush 100, 2) := by decide +kernel
theorem dX7_gain_77 : decode cX7_gain 77 = .ok (.ireturn, 1) := by decide +kernel
set_option maxRecDepth 20000 in
theorem ggX7_isOpen_X7_window : GoodIn wsX7_isOpen wsX7_window := goodIn_r _ [9, 10, 11, 12, 13, 14, 15, 16, 17, 18, 19, 20, 8, 21, 3, 22, 23, 24, 25, 26, 27, 28, 29, 30, 31, 32, 33, 34, 35, 36, 37, 38, 39, 40, 41, 42, 43, 44, 45, 46, 47, 48, 49, 50, 51, 52, 53, 54, 55, 56, 57, 58, 59, 60, 61, 62, 63, 64, 65, 66, 67, 68, 69, 70, 71] (by decide +kernel) (by decide +kernel)
set_option maxRecDepth 20000 in
theorem gX7_isOpen_X7_window : GoodIn wsX7_isOpen (wsV RX7 187 RX7 yX7_window wsX7_window) := goodIn_app (goodIn_of _ (by decide +kernel)) ggX7_isOpen_X7_window
theorem dX7_isOpen_0 : decode cX7_isOpen 0 = .ok (.aload_n 0, 1) := by decide +kernel
theorem dX7_isOpen_1 : decode cX7_isOpen 1 = .ok (.getfield 32, 3) := by decide +kernel
theorem dX7_isOpen_4 : decode cX7_isOpen 4 = .ok (.iload_n 1, 1) := by decide +kernel
theorem dX7_isOpen_5 : decode cX7_isOpen 5 = .ok (.iaload, 1) := by decide +kernel
theorem dX7_isOpen_6 : decode cX7_isOpen 6 = .ok (.i2l, 1) := by decide +kernel
theorem dX7_isOpen_7 : decode cX7_isOpen 7 = .ok (.aload_n 0, 1) := by decide +kernel
theorem dX7_isOpen_8 : decode cX7_isOpen 8 = .ok (.iload_n 1, 1) := by decide +kernel
theorem dX7_isOpen_9 : decode cX7_isOpen 9 = .ok (.invokevirtual 187, 3) := by decide +kernel
theorem dX7_isOpen_12 : decode cX7_isOpen 12 = .ok (.lcmp, 1) := by decide +kernel
theorem dX7_isOpen_13 : decode cX7_isOpen 13 = .ok (.ifCond .ge 26, 3) := by decide +kernel
theorem dX7_isOpen_16 : decode cX7_isOpen 16 = .ok (.aload_n 0, 1) := by decide +kernel
theorem dX7_isOpen_17 : decode cX7_isOpen 17 = .ok (.getfield 84, 3) := by decide +kernel
theorem dX7_isOpen_20 : decode cX7_isOpen 20 = .ok (.iload_n 1, 1) := by decide +kernel
theorem dX7_isOpen_21 : decode cX7_isOpen 21 = .ok (.laload, 1) := by decide +kernel
theorem dX7_isOpen_22 : decode cX7_isOpen 22 = .ok (.ldc2_w 171, 3) := by decide +kernel
theorem dX7_isOpen_25 : decode cX7_isOpen 25 = .ok (.aload_n 0, 1) := by decide +kernel
theorem dX7_isOpen_26 : decode cX7_isOpen 26 = .ok (.getfield 146, 3) := by decide +kernel
theorem dX7_isOpen_29 : decode cX7_isOpen 29 = .ok (.i2l, 1) := by decide +kernel
theorem dX7_isOpen_30 : decode cX7_isOpen 30 = .ok (.lmul, 1) := by decide +kernel
theorem dX7_isOpen_31 : decode cX7_isOpen 31 = .ok (.lcmp, 1) := by decide +kernel
theorem dX7_isOpen_32 : decode cX7_isOpen 32 = .ok (.ifCond .gt 7, 3) := by decide +kernel
theorem dX7_isOpen_35 : decode cX7_isOpen 35 = .ok (.iconst 1, 1) := by decide +kernel
theorem dX7_isOpen_36 : decode cX7_isOpen 36 = .ok (.goto 4, 3) := by decide +kernel
theorem dX7_isOpen_39 : decode cX7_isOpen 39 = .ok (.iconst 0, 1) := by decide +kernel
theorem dX7_isOpen_40 : decode cX7_isOpen 40 = .ok (.ireturn, 1) := by decide +kernel
set_option maxRecDepth 20000 in
theorem ggX7_sends_X7_comes : GoodIn wsX7_sends wsX7_comes := goodIn_r _ [23, 24, 25, 26, 27, 28, 29, 30, 31, 32, 22, 33, 34, 5, 35, 36, 43, 44, 45, 46, 47, 48, 49, 50, 51, 52, 53, 54, 55, 56, 57, 58, 59, 60, 61, 62, 63, 64, 65, 66, 67, 68, 69, 70, 71, 72, 73, 74, 75, 76, 77, 78, 79, 80, 81, 82, 83, 84, 85, 86, 87, 88, 89, 90, 91, 92] (by decide +kernel) (by decide +kernel)
set_option maxRecDepth 20000 in
theorem gX7_sends_X7_comes : GoodIn wsX7_sends (wsV RX7 190 RX7 yX7_comes wsX7_comes) := goodIn_app (goodIn_of _ (by decide +kernel)) ggX7_sends_X7_comes
set_option maxRecDepth 20000 in
theorem ggX7_sends_X7_gain : GoodIn wsX7_sends wsX7_gain := goodIn_r _ [40, 41, 42, 43, 44, 45, 46, 47, 48, 49, 50, 51, 52, 53, 54, 55, 56, 57, 58, 59, 60, 61, 62, 63, 64, 65, 66, 67, 68, 69, 70, 71, 72, 73, 74, 75, 76, 77, 78, 79, 80, 81, 82, 83, 84, 85, 86, 87, 88, 89, 90, 91, 92] (by decide +kernel) (by decide +kernel)
set_option maxRecDepth 20000 in
theorem gX7_sends_X7_gain : GoodIn wsX7_sends (wsV RX7 196 RX7 yX7_gain wsX7_gain) := goodIn_app (goodIn_of _ (by decide +kernel)) ggX7_sends_X7_gain
theorem dX7_sends_0 : decode cX7_sends 0 = .ok (.aload_n 0, 1) := by decide +kernel
theorem dX7_sends_1 : decode cX7_sends 1 = .ok (.getfield 54, 3) := by decide +kernel
theorem dX7_sends_4 : decode cX7_sends 4 = .ok (.iload_n 1, 1) := by decide +kernel
theorem dX7_sends_5 : decode cX7_sends 5 = .ok (.dup2, 1) := by decide +kernel
theorem dX7_sends_6 : decode cX7_sends 6 = .ok (.iaload, 1) := by decide +kernel
theorem dX7_sends_7 : decode cX7_sends 7 = .ok (.iconst 1, 1) := by decide +kernel
theorem dX7_sends_8 : decode cX7_sends 8 = .ok (.isub, 1) := by decide +kernel
theorem dX7_sends_9 : decode cX7_sends 9 = .ok (.iastore, 1) := by decide +kernel
theorem dX7_sends_10 : decode cX7_sends 10 = .ok (.aload_n 0, 1) := by decide +kernel
theorem dX7_sends_11 : decode cX7_sends 11 = .ok (.getfield 57, 3) := by decide +kernel
theorem dX7_sends_14 : decode cX7_sends 14 = .ok (.iload_n 1, 1) := by decide +kernel
theorem dX7_sends_15 : decode cX7_sends 15 = .ok (.iaload, 1) := by decide +kernel
theorem dX7_sends_16 : decode cX7_sends 16 = .ok (.istore_n 2, 1) := by decide +kernel
theorem dX7_sends_17 : decode cX7_sends 17 = .ok (.aload_n 0, 1) := by decide +kernel
theorem dX7_sends_18 : decode cX7_sends 18 = .ok (.getfield 57, 3) := by decide +kernel
theorem dX7_sends_21 : decode cX7_sends 21 = .ok (.iload_n 1, 1) := by decide +kernel
theorem dX7_sends_22 : decode cX7_sends 22 = .ok (.dup2, 1) := by decide +kernel
theorem dX7_sends_23 : decode cX7_sends 23 = .ok (.iaload, 1) := by decide +kernel
theorem dX7_sends_24 : decode cX7_sends 24 = .ok (.iconst 1, 1) := by decide +kernel
theorem dX7_sends_25 : decode cX7_sends 25 = .ok (.iadd, 1) := by decide +kernel
theorem dX7_sends_26 : decode cX7_sends 26 = .ok (.iastore, 1) := by decide +kernel
theorem dX7_sends_27 : decode cX7_sends 27 = .ok (.aload_n 0, 1) := by decide +kernel
theorem dX7_sends_28 : decode cX7_sends 28 = .ok (.getfield 63, 3) := by decide +kernel
theorem dX7_sends_31 : decode cX7_sends 31 = .ok (.iload_n 1, 1) := by decide +kernel
theorem dX7_sends_32 : decode cX7_sends 32 = .ok (.aload_n 0, 1) := by decide +kernel
theorem dX7_sends_33 : decode cX7_sends 33 = .ok (.getfield 32, 3) := by decide +kernel
theorem dX7_sends_36 : decode cX7_sends 36 = .ok (.iload_n 1, 1) := by decide +kernel
theorem dX7_sends_37 : decode cX7_sends 37 = .ok (.iaload, 1) := by decide +kernel
theorem dX7_sends_38 : decode cX7_sends 38 = .ok (.ifCond .ne 10, 3) := by decide +kernel
theorem dX7_sends_41 : decode cX7_sends 41 = .ok (.aload_n 0, 1) := by decide +kernel
theorem dX7_sends_42 : decode cX7_sends 42 = .ok (.getfield 146, 3) := by decide +kernel
theorem dX7_sends_45 : decode cX7_sends 45 = .ok (.goto 9, 3) := by decide +kernel
theorem dX7_sends_48 : decode cX7_sends 48 = .ok (.aload_n 0, 1) := by decide +kernel
theorem dX7_sends_49 : decode cX7_sends 49 = .ok (.getfield 63, 3) := by decide +kernel
theorem dX7_sends_52 : decode cX7_sends 52 = .ok (.iload_n 1, 1) := by decide +kernel
theorem dX7_sends_53 : decode cX7_sends 53 = .ok (.iaload, 1) := by decide +kernel
theorem dX7_sends_54 : decode cX7_sends 54 = .ok (.iastore, 1) := by decide +kernel
theorem dX7_sends_55 : decode cX7_sends 55 = .ok (.aload_n 0, 1) := by decide +kernel
theorem dX7_sends_56 : decode cX7_sends 56 = .ok (.iload_n 1, 1) := by decide +kernel
theorem dX7_sends_57 : decode cX7_sends 57 = .ok (.iload_n 2, 1) := by decide +kernel
theorem dX7_sends_58 : decode cX7_sends 58 = .ok (.invokevirtual 190, 3) := by decide +kernel
theorem dX7_sends_61 : decode cX7_sends 61 = .ok (.istore_n 3, 1) := by decide +kernel
theorem dX7_sends_62 : decode cX7_sends 62 = .ok (.iload_n 3, 1) := by decide +kernel
theorem dX7_sends_63 : decode cX7_sends 63 = .ok (.ifCond .eq 105, 3) := by decide +kernel
theorem dX7_sends_66 : decode cX7_sends 66 = .ok (.sipush 512, 3) := by decide +kernel
theorem dX7_sends_69 : decode cX7_sends 69 = .ok (.iload_n 1, 1) := by decide +kernel
theorem dX7_sends_70 : decode cX7_sends 70 = .ok (.imul, 1) := by decide +kernel
theorem dX7_sends_71 : decode cX7_sends 71 = .ok (.aload_n 0, 1) := by decide +kernel
theorem dX7_sends_72 : decode cX7_sends 72 = .ok (.getfield 32, 3) := by decide +kernel
theorem dX7_sends_75 : decode cX7_sends 75 = .ok (.iload_n 1, 1) := by decide +kernel
theorem dX7_sends_76 : decode cX7_sends 76 = .ok (.iaload, 1) := by decide +kernel
theorem dX7_sends_77 : decode cX7_sends 77 = .ok (.iadd, 1) := by decide +kernel
theorem dX7_sends_78 : decode cX7_sends 78 = .ok (.istore 4, 2) := by decide +kernel
theorem dX7_sends_80 : decode cX7_sends 80 = .ok (.aload_n 0, 1) := by decide +kernel
theorem dX7_sends_81 : decode cX7_sends 81 = .ok (.getfield 35, 3) := by decide +kernel
theorem dX7_sends_84 : decode cX7_sends 84 = .ok (.iload 4, 2) := by decide +kernel
theorem dX7_sends_86 : decode cX7_sends 86 = .ok (.iload_n 2, 1) := by decide +kernel
theorem dX7_sends_87 : decode cX7_sends 87 = .ok (.iastore, 1) := by decide +kernel
theorem dX7_sends_88 : decode cX7_sends 88 = .ok (.aload_n 0, 1) := by decide +kernel
theorem dX7_sends_89 : decode cX7_sends 89 = .ok (.getfield 38, 3) := by decide +kernel
theorem dX7_sends_92 : decode cX7_sends 92 = .ok (.iload 4, 2) := by decide +kernel
theorem dX7_sends_94 : decode cX7_sends 94 = .ok (.aload_n 0, 1) := by decide +kernel
theorem dX7_sends_95 : decode cX7_sends 95 = .ok (.getfield 146, 3) := by decide +kernel
theorem dX7_sends_98 : decode cX7_sends 98 = .ok (.iastore, 1) := by decide +kernel
theorem dX7_sends_99 : decode cX7_sends 99 = .ok (.aload_n 0, 1) := by decide +kernel
theorem dX7_sends_100 : decode cX7_sends 100 = .ok (.getfield 41, 3) := by decide +kernel
theorem dX7_sends_103 : decode cX7_sends 103 = .ok (.iload 4, 2) := by decide +kernel
theorem dX7_sends_105 : decode cX7_sends 105 = .ok (.aload_n 0, 1) := by decide +kernel
theorem dX7_sends_106 : decode cX7_sends 106 = .ok (.getfield 60, 3) := by decide +kernel
theorem dX7_sends_109 : decode cX7_sends 109 = .ok (.iload_n 1, 1) := by decide +kernel
theorem dX7_sends_110 : decode cX7_sends 110 = .ok (.iaload, 1) := by decide +kernel
theorem dX7_sends_111 : decode cX7_sends 111 = .ok (.iastore, 1) := by decide +kernel
theorem dX7_sends_112 : decode cX7_sends 112 = .ok (.aload_n 0, 1) := by decide +kernel
theorem dX7_sends_113 : decode cX7_sends 113 = .ok (.getfield 44, 3) := by decide +kernel
theorem dX7_sends_116 : decode cX7_sends 116 = .ok (.iload 4, 2) := by decide +kernel
theorem dX7_sends_118 : decode cX7_sends 118 = .ok (.aload_n 0, 1) := by decide +kernel
theorem dX7_sends_119 : decode cX7_sends 119 = .ok (.getfield 63, 3) := by decide +kernel
theorem dX7_sends_122 : decode cX7_sends 122 = .ok (.iload_n 1, 1) := by decide +kernel
theorem dX7_sends_123 : decode cX7_sends 123 = .ok (.iaload, 1) := by decide +kernel
theorem dX7_sends_124 : decode cX7_sends 124 = .ok (.iastore, 1) := by decide +kernel
theorem dX7_sends_125 : decode cX7_sends 125 = .ok (.aload_n 0, 1) := by decide +kernel
theorem dX7_sends_126 : decode cX7_sends 126 = .ok (.getfield 47, 3) := by decide +kernel
theorem dX7_sends_129 : decode cX7_sends 129 = .ok (.iload 4, 2) := by decide +kernel
theorem dX7_sends_131 : decode cX7_sends 131 = .ok (.aload_n 0, 1) := by decide +kernel
theorem dX7_sends_132 : decode cX7_sends 132 = .ok (.getfield 66, 3) := by decide +kernel
theorem dX7_sends_135 : decode cX7_sends 135 = .ok (.iload_n 1, 1) := by decide +kernel
theorem dX7_sends_136 : decode cX7_sends 136 = .ok (.iaload, 1) := by decide +kernel
theorem dX7_sends_137 : decode cX7_sends 137 = .ok (.ifCond .le 7, 3) := by decide +kernel
theorem dX7_sends_140 : decode cX7_sends 140 = .ok (.iconst 1, 1) := by decide +kernel
theorem dX7_sends_141 : decode cX7_sends 141 = .ok (.goto 4, 3) := by decide +kernel
theorem dX7_sends_144 : decode cX7_sends 144 = .ok (.iconst 0, 1) := by decide +kernel
theorem dX7_sends_145 : decode cX7_sends 145 = .ok (.bastore, 1) := by decide +kernel
theorem dX7_sends_146 : decode cX7_sends 146 = .ok (.aload_n 0, 1) := by decide +kernel
theorem dX7_sends_147 : decode cX7_sends 147 = .ok (.getfield 51, 3) := by decide +kernel
theorem dX7_sends_150 : decode cX7_sends 150 = .ok (.iload 4, 2) := by decide +kernel
theorem dX7_sends_152 : decode cX7_sends 152 = .ok (.bipush (-9), 2) := by decide +kernel
theorem dX7_sends_154 : decode cX7_sends 154 = .ok (.iastore, 1) := by decide +kernel
theorem dX7_sends_155 : decode cX7_sends 155 = .ok (.aload_n 0, 1) := by decide +kernel
theorem dX7_sends_156 : decode cX7_sends 156 = .ok (.getfield 32, 3) := by decide +kernel
theorem dX7_sends_159 : decode cX7_sends 159 = .ok (.iload_n 1, 1) := by decide +kernel
theorem dX7_sends_160 : decode cX7_sends 160 = .ok (.dup2, 1) := by decide +kernel
theorem dX7_sends_161 : decode cX7_sends 161 = .ok (.iaload, 1) := by decide +kernel
theorem dX7_sends_162 : decode cX7_sends 162 = .ok (.iconst 1, 1) := by decide +kernel
theorem dX7_sends_163 : decode cX7_sends 163 = .ok (.iadd, 1) := by decide +kernel
theorem dX7_sends_164 : decode cX7_sends 164 = .ok (.iastore, 1) := by decide +kernel
theorem dX7_sends_165 : decode cX7_sends 165 = .ok (.goto 13, 3) := by decide +kernel
theorem dX7_sends_168 : decode cX7_sends 168 = .ok (.aload_n 0, 1) := by decide +kernel
theorem dX7_sends_169 : decode cX7_sends 169 = .ok (.getfield 88, 3) := by decide +kernel
theorem dX7_sends_172 : decode cX7_sends 172 = .ok (.iload_n 1, 1) := by decide +kernel
theorem dX7_sends_173 : decode cX7_sends 173 = .ok (.dup2, 1) := by decide +kernel
theorem dX7_sends_174 : decode cX7_sends 174 = .ok (.iaload, 1) := by decide +kernel
theorem dX7_sends_175 : decode cX7_sends 175 = .ok (.iconst 1, 1) := by decide +kernel
theorem dX7_sends_176 : decode cX7_sends 176 = .ok (.iadd, 1) := by decide +kernel
theorem dX7_sends_177 : decode cX7_sends 177 = .ok (.iastore, 1) := by decide +kernel
theorem dX7_sends_178 : decode cX7_sends 178 = .ok (.aload_n 0, 1) := by decide +kernel
theorem dX7_sends_179 : decode cX7_sends 179 = .ok (.getfield 75, 3) := by decide +kernel
theorem dX7_sends_182 : decode cX7_sends 182 = .ok (.iload_n 1, 1) := by decide +kernel
theorem dX7_sends_183 : decode cX7_sends 183 = .ok (.iaload, 1) := by decide +kernel
theorem dX7_sends_184 : decode cX7_sends 184 = .ok (.ifCond .le 69, 3) := by decide +kernel
theorem dX7_sends_187 : decode cX7_sends 187 = .ok (.aload_n 0, 1) := by decide +kernel
theorem dX7_sends_188 : decode cX7_sends 188 = .ok (.getfield 84, 3) := by decide +kernel
theorem dX7_sends_191 : decode cX7_sends 191 = .ok (.iload_n 1, 1) := by decide +kernel
theorem dX7_sends_192 : decode cX7_sends 192 = .ok (.laload, 1) := by decide +kernel
theorem dX7_sends_193 : decode cX7_sends 193 = .ok (.ldc2_w 171, 3) := by decide +kernel
theorem dX7_sends_196 : decode cX7_sends 196 = .ok (.aload_n 0, 1) := by decide +kernel
theorem dX7_sends_197 : decode cX7_sends 197 = .ok (.getfield 146, 3) := by decide +kernel
theorem dX7_sends_200 : decode cX7_sends 200 = .ok (.i2l, 1) := by decide +kernel
theorem dX7_sends_201 : decode cX7_sends 201 = .ok (.lmul, 1) := by decide +kernel
theorem dX7_sends_202 : decode cX7_sends 202 = .ok (.lcmp, 1) := by decide +kernel
theorem dX7_sends_203 : decode cX7_sends 203 = .ok (.ifCond .le 12, 3) := by decide +kernel
theorem dX7_sends_206 : decode cX7_sends 206 = .ok (.aload_n 0, 1) := by decide +kernel
theorem dX7_sends_207 : decode cX7_sends 207 = .ok (.getfield 84, 3) := by decide +kernel
theorem dX7_sends_210 : decode cX7_sends 210 = .ok (.iload_n 1, 1) := by decide +kernel
theorem dX7_sends_211 : decode cX7_sends 211 = .ok (.laload, 1) := by decide +kernel
theorem dX7_sends_212 : decode cX7_sends 212 = .ok (.goto 12, 3) := by decide +kernel
theorem dX7_sends_215 : decode cX7_sends 215 = .ok (.ldc2_w 171, 3) := by decide +kernel
theorem dX7_sends_218 : decode cX7_sends 218 = .ok (.aload_n 0, 1) := by decide +kernel
theorem dX7_sends_219 : decode cX7_sends 219 = .ok (.getfield 146, 3) := by decide +kernel
theorem dX7_sends_222 : decode cX7_sends 222 = .ok (.i2l, 1) := by decide +kernel
theorem dX7_sends_223 : decode cX7_sends 223 = .ok (.lmul, 1) := by decide +kernel
theorem dX7_sends_224 : decode cX7_sends 224 = .ok (.lstore 4, 2) := by decide +kernel
theorem dX7_sends_226 : decode cX7_sends 226 = .ok (.aload_n 0, 1) := by decide +kernel
theorem dX7_sends_227 : decode cX7_sends 227 = .ok (.getfield 84, 3) := by decide +kernel
theorem dX7_sends_230 : decode cX7_sends 230 = .ok (.iload_n 1, 1) := by decide +kernel
theorem dX7_sends_231 : decode cX7_sends 231 = .ok (.lload 4, 2) := by decide +kernel
theorem dX7_sends_233 : decode cX7_sends 233 = .ok (.ldc2_w 194, 3) := by decide +kernel
theorem dX7_sends_236 : decode cX7_sends 236 = .ok (.aload_n 0, 1) := by decide +kernel
theorem dX7_sends_237 : decode cX7_sends 237 = .ok (.getfield 75, 3) := by decide +kernel
theorem dX7_sends_240 : decode cX7_sends 240 = .ok (.iload_n 1, 1) := by decide +kernel
theorem dX7_sends_241 : decode cX7_sends 241 = .ok (.iaload, 1) := by decide +kernel
theorem dX7_sends_242 : decode cX7_sends 242 = .ok (.i2l, 1) := by decide +kernel
theorem dX7_sends_243 : decode cX7_sends 243 = .ok (.aload_n 0, 1) := by decide +kernel
theorem dX7_sends_244 : decode cX7_sends 244 = .ok (.iload_n 1, 1) := by decide +kernel
theorem dX7_sends_245 : decode cX7_sends 245 = .ok (.invokevirtual 196, 3) := by decide +kernel
theorem dX7_sends_248 : decode cX7_sends 248 = .ok (.i2l, 1) := by decide +kernel
theorem dX7_sends_249 : decode cX7_sends 249 = .ok (.lmul, 1) := by decide +kernel
theorem dX7_sends_250 : decode cX7_sends 250 = .ok (.ldiv, 1) := by decide +kernel
theorem dX7_sends_251 : decode cX7_sends 251 = .ok (.ladd, 1) := by decide +kernel
theorem dX7_sends_252 : decode cX7_sends 252 = .ok (.lastore, 1) := by decide +kernel
theorem dX7_sends_253 : decode cX7_sends 253 = .ok (.iload_n 3, 1) := by decide +kernel
theorem dX7_sends_254 : decode cX7_sends 254 = .ok (.ireturn, 1) := by decide +kernel
set_option maxRecDepth 20000 in
theorem ggX7_sendsAll_X7_isOpen : GoodIn wsX7_sendsAll wsX7_isOpen := goodIn_r _ [9, 3, 10, 11, 12, 13, 14, 15, 8, 16, 17, 18, 19, 20, 21, 22, 23, 24, 25, 26, 27, 28, 65, 66, 67, 68, 69, 70, 71, 72, 73, 74, 75, 76, 77, 78, 79, 80, 81, 82, 83, 84, 85, 86, 87, 88, 89, 90, 91, 92, 93, 94, 95, 96, 97, 98, 99, 100, 101, 102, 103, 104, 105, 106, 107, 108, 109, 110, 111, 112, 113, 114] (by decide +kernel) (by decide +kernel)
set_option maxRecDepth 20000 in
theorem gX7_sendsAll_X7_isOpen : GoodIn wsX7_sendsAll (wsV RX7 200 RX7 yX7_isOpen wsX7_isOpen) := goodIn_app (goodIn_of _ (by decide +kernel)) ggX7_sendsAll_X7_isOpen
set_option maxRecDepth 20000 in
theorem ggX7_sendsAll_X7_sends : GoodIn wsX7_sendsAll wsX7_sends := goodIn_r _ [32, 1, 33, 34, 3, 12, 35, 36, 37, 2, 38, 39, 4, 40, 41, 19, 10, 11, 42, 43, 44, 45, 8, 46, 47, 48, 49, 50, 51, 52, 53, 54, 55, 56, 57, 58, 59, 60, 61, 62, 63, 17, 64, 65, 66, 67, 68, 69, 70, 71, 72, 73, 74, 75, 76, 77, 78, 79, 80, 81, 82, 83, 84, 85, 86, 87, 88, 89, 90, 91, 92, 93, 94, 95, 96, 97, 98, 99, 100, 101, 102, 103, 104, 105, 106, 107, 108, 109, 110, 111, 112, 113, 114] (by decide +kernel) (by decide +kernel)
set_option maxRecDepth 20000 in
theorem gX7_sendsAll_X7_sends : GoodIn wsX7_sendsAll (wsV RX7 203 RX7 yX7_sends wsX7_sends) := goodIn_app (goodIn_of _ (by decide +kernel)) ggX7_sendsAll_X7_sends
theorem dX7_sendsAll_0 : decode cX7_sendsAll 0 = .ok (.iconst 0, 1) := by decide +kernel
theorem dX7_sendsAll_1 : decode cX7_sendsAll 1 = .ok (.istore_n 2, 1) := by decide +kernel
theorem dX7_sendsAll_2 : decode cX7_sendsAll 2 = .ok (.iconst 1, 1) := by decide +kernel
theorem dX7_sendsAll_3 : decode cX7_sendsAll 3 = .ok (.istore_n 3, 1) := by decide +kernel
theorem dX7_sendsAll_4 : decode cX7_sendsAll 4 = .ok (.iload_n 3, 1) := by decide +kernel
theorem dX7_sendsAll_5 : decode cX7_sendsAll 5 = .ok (.ifCond .eq 38, 3) := by decide +kernel
theorem dX7_sendsAll_8 : decode cX7_sendsAll 8 = .ok (.iload_n 2, 1) := by decide +kernel
theorem dX7_sendsAll_9 : decode cX7_sendsAll 9 = .ok (.bipush 8, 2) := by decide +kernel
theorem dX7_sendsAll_11 : decode cX7_sendsAll 11 = .ok (.if_icmp .ge 32, 3) := by decide +kernel
theorem dX7_sendsAll_14 : decode cX7_sendsAll 14 = .ok (.aload_n 0, 1) := by decide +kernel
theorem dX7_sendsAll_15 : decode cX7_sendsAll 15 = .ok (.getfield 54, 3) := by decide +kernel
theorem dX7_sendsAll_18 : decode cX7_sendsAll 18 = .ok (.iload_n 1, 1) := by decide +kernel
theorem dX7_sendsAll_19 : decode cX7_sendsAll 19 = .ok (.iaload, 1) := by decide +kernel
theorem dX7_sendsAll_20 : decode cX7_sendsAll 20 = .ok (.ifCond .le 23, 3) := by decide +kernel
theorem dX7_sendsAll_23 : decode cX7_sendsAll 23 = .ok (.aload_n 0, 1) := by decide +kernel
theorem dX7_sendsAll_24 : decode cX7_sendsAll 24 = .ok (.iload_n 1, 1) := by decide +kernel
theorem dX7_sendsAll_25 : decode cX7_sendsAll 25 = .ok (.invokevirtual 200, 3) := by decide +kernel
theorem dX7_sendsAll_28 : decode cX7_sendsAll 28 = .ok (.ifCond .eq 15, 3) := by decide +kernel
theorem dX7_sendsAll_31 : decode cX7_sendsAll 31 = .ok (.aload_n 0, 1) := by decide +kernel
theorem dX7_sendsAll_32 : decode cX7_sendsAll 32 = .ok (.iload_n 1, 1) := by decide +kernel
theorem dX7_sendsAll_33 : decode cX7_sendsAll 33 = .ok (.invokevirtual 203, 3) := by decide +kernel
theorem dX7_sendsAll_36 : decode cX7_sendsAll 36 = .ok (.istore_n 3, 1) := by decide +kernel
theorem dX7_sendsAll_37 : decode cX7_sendsAll 37 = .ok (.iinc 2 1, 3) := by decide +kernel
theorem dX7_sendsAll_40 : decode cX7_sendsAll 40 = .ok (.goto (-36), 3) := by decide +kernel
theorem dX7_sendsAll_43 : decode cX7_sendsAll 43 = .ok (.aload_n 0, 1) := by decide +kernel
theorem dX7_sendsAll_44 : decode cX7_sendsAll 44 = .ok (.getfield 54, 3) := by decide +kernel
theorem dX7_sendsAll_47 : decode cX7_sendsAll 47 = .ok (.iload_n 1, 1) := by decide +kernel
theorem dX7_sendsAll_48 : decode cX7_sendsAll 48 = .ok (.iaload, 1) := by decide +kernel
theorem dX7_sendsAll_49 : decode cX7_sendsAll 49 = .ok (.ifCond .ne 44, 3) := by decide +kernel
theorem dX7_sendsAll_52 : decode cX7_sendsAll 52 = .ok (.aload_n 0, 1) := by decide +kernel
theorem dX7_sendsAll_53 : decode cX7_sendsAll 53 = .ok (.iload_n 1, 1) := by decide +kernel
theorem dX7_sendsAll_54 : decode cX7_sendsAll 54 = .ok (.invokevirtual 200, 3) := by decide +kernel
theorem dX7_sendsAll_57 : decode cX7_sendsAll 57 = .ok (.ifCond .eq 36, 3) := by decide +kernel
theorem dX7_sendsAll_60 : decode cX7_sendsAll 60 = .ok (.aload_n 0, 1) := by decide +kernel
theorem dX7_sendsAll_61 : decode cX7_sendsAll 61 = .ok (.getfield 60, 3) := by decide +kernel
theorem dX7_sendsAll_64 : decode cX7_sendsAll 64 = .ok (.iload_n 1, 1) := by decide +kernel
theorem dX7_sendsAll_65 : decode cX7_sendsAll 65 = .ok (.iaload, 1) := by decide +kernel
theorem dX7_sendsAll_66 : decode cX7_sendsAll 66 = .ok (.aload_n 0, 1) := by decide +kernel
theorem dX7_sendsAll_67 : decode cX7_sendsAll 67 = .ok (.getfield 32, 3) := by decide +kernel
theorem dX7_sendsAll_70 : decode cX7_sendsAll 70 = .ok (.iload_n 1, 1) := by decide +kernel
theorem dX7_sendsAll_71 : decode cX7_sendsAll 71 = .ok (.iaload, 1) := by decide +kernel
theorem dX7_sendsAll_72 : decode cX7_sendsAll 72 = .ok (.iadd, 1) := by decide +kernel
theorem dX7_sendsAll_73 : decode cX7_sendsAll 73 = .ok (.istore 4, 2) := by decide +kernel
theorem dX7_sendsAll_75 : decode cX7_sendsAll 75 = .ok (.aload_n 0, 1) := by decide +kernel
theorem dX7_sendsAll_76 : decode cX7_sendsAll 76 = .ok (.getfield 66, 3) := by decide +kernel
theorem dX7_sendsAll_79 : decode cX7_sendsAll 79 = .ok (.iload_n 1, 1) := by decide +kernel
theorem dX7_sendsAll_80 : decode cX7_sendsAll 80 = .ok (.iload 4, 2) := by decide +kernel
theorem dX7_sendsAll_82 : decode cX7_sendsAll 82 = .ok (.iconst 1, 1) := by decide +kernel
theorem dX7_sendsAll_83 : decode cX7_sendsAll 83 = .ok (.if_icmp .ge 7, 3) := by decide +kernel
theorem dX7_sendsAll_86 : decode cX7_sendsAll 86 = .ok (.iconst 1, 1) := by decide +kernel
theorem dX7_sendsAll_87 : decode cX7_sendsAll 87 = .ok (.goto 5, 3) := by decide +kernel
theorem dX7_sendsAll_90 : decode cX7_sendsAll 90 = .ok (.iload 4, 2) := by decide +kernel
theorem dX7_sendsAll_92 : decode cX7_sendsAll 92 = .ok (.iastore, 1) := by decide +kernel
theorem dX7_sendsAll_93 : decode cX7_sendsAll 93 = .ok (.return_, 1) := by decide +kernel
theorem dX7_greatestFrom_0 : decode cX7_greatestFrom 0 = .ok (.bipush (-9), 2) := by decide +kernel
theorem dX7_greatestFrom_2 : decode cX7_greatestFrom 2 = .ok (.istore_n 3, 1) := by decide +kernel
theorem dX7_greatestFrom_3 : decode cX7_greatestFrom 3 = .ok (.iconst 0, 1) := by decide +kernel
theorem dX7_greatestFrom_4 : decode cX7_greatestFrom 4 = .ok (.istore 4, 2) := by decide +kernel
theorem dX7_greatestFrom_6 : decode cX7_greatestFrom 6 = .ok (.iload 4, 2) := by decide +kernel
theorem dX7_greatestFrom_8 : decode cX7_greatestFrom 8 = .ok (.aload_n 0, 1) := by decide +kernel
theorem dX7_greatestFrom_9 : decode cX7_greatestFrom 9 = .ok (.getfield 94, 3) := by decide +kernel
theorem dX7_greatestFrom_12 : decode cX7_greatestFrom 12 = .ok (.iload_n 1, 1) := by decide +kernel
theorem dX7_greatestFrom_13 : decode cX7_greatestFrom 13 = .ok (.iaload, 1) := by decide +kernel
theorem dX7_greatestFrom_14 : decode cX7_greatestFrom 14 = .ok (.if_icmp .ge 64, 3) := by decide +kernel
theorem dX7_greatestFrom_17 : decode cX7_greatestFrom 17 = .ok (.sipush 8192, 3) := by decide +kernel
theorem dX7_greatestFrom_20 : decode cX7_greatestFrom 20 = .ok (.iload_n 1, 1) := by decide +kernel
theorem dX7_greatestFrom_21 : decode cX7_greatestFrom 21 = .ok (.imul, 1) := by decide +kernel
theorem dX7_greatestFrom_22 : decode cX7_greatestFrom 22 = .ok (.aload_n 0, 1) := by decide +kernel
theorem dX7_greatestFrom_23 : decode cX7_greatestFrom 23 = .ok (.getfield 91, 3) := by decide +kernel
theorem dX7_greatestFrom_26 : decode cX7_greatestFrom 26 = .ok (.iload_n 1, 1) := by decide +kernel
theorem dX7_greatestFrom_27 : decode cX7_greatestFrom 27 = .ok (.iaload, 1) := by decide +kernel
theorem dX7_greatestFrom_28 : decode cX7_greatestFrom 28 = .ok (.iload 4, 2) := by decide +kernel
theorem dX7_greatestFrom_30 : decode cX7_greatestFrom 30 = .ok (.iadd, 1) := by decide +kernel
theorem dX7_greatestFrom_31 : decode cX7_greatestFrom 31 = .ok (.sipush 8192, 3) := by decide +kernel
theorem dX7_greatestFrom_34 : decode cX7_greatestFrom 34 = .ok (.irem, 1) := by decide +kernel
theorem dX7_greatestFrom_35 : decode cX7_greatestFrom 35 = .ok (.iadd, 1) := by decide +kernel
theorem dX7_greatestFrom_36 : decode cX7_greatestFrom 36 = .ok (.istore 5, 2) := by decide +kernel
theorem dX7_greatestFrom_38 : decode cX7_greatestFrom 38 = .ok (.aload_n 0, 1) := by decide +kernel
theorem dX7_greatestFrom_39 : decode cX7_greatestFrom 39 = .ok (.getfield 97, 3) := by decide +kernel
theorem dX7_greatestFrom_42 : decode cX7_greatestFrom 42 = .ok (.iload 5, 2) := by decide +kernel
theorem dX7_greatestFrom_44 : decode cX7_greatestFrom 44 = .ok (.iaload, 1) := by decide +kernel
theorem dX7_greatestFrom_45 : decode cX7_greatestFrom 45 = .ok (.iload_n 2, 1) := by decide +kernel
theorem dX7_greatestFrom_46 : decode cX7_greatestFrom 46 = .ok (.if_icmp .lt 24, 3) := by decide +kernel
theorem dX7_greatestFrom_49 : decode cX7_greatestFrom 49 = .ok (.aload_n 0, 1) := by decide +kernel
theorem dX7_greatestFrom_50 : decode cX7_greatestFrom 50 = .ok (.getfield 100, 3) := by decide +kernel
theorem dX7_greatestFrom_53 : decode cX7_greatestFrom 53 = .ok (.iload 5, 2) := by decide +kernel
theorem dX7_greatestFrom_55 : decode cX7_greatestFrom 55 = .ok (.iaload, 1) := by decide +kernel
theorem dX7_greatestFrom_56 : decode cX7_greatestFrom 56 = .ok (.iload_n 3, 1) := by decide +kernel
theorem dX7_greatestFrom_57 : decode cX7_greatestFrom 57 = .ok (.if_icmp .le 13, 3) := by decide +kernel
theorem dX7_greatestFrom_60 : decode cX7_greatestFrom 60 = .ok (.aload_n 0, 1) := by decide +kernel
theorem dX7_greatestFrom_61 : decode cX7_greatestFrom 61 = .ok (.getfield 100, 3) := by decide +kernel
theorem dX7_greatestFrom_64 : decode cX7_greatestFrom 64 = .ok (.iload 5, 2) := by decide +kernel
theorem dX7_greatestFrom_66 : decode cX7_greatestFrom 66 = .ok (.iaload, 1) := by decide +kernel
theorem dX7_greatestFrom_67 : decode cX7_greatestFrom 67 = .ok (.goto 4, 3) := by decide +kernel
theorem dX7_greatestFrom_70 : decode cX7_greatestFrom 70 = .ok (.iload_n 3, 1) := by decide +kernel
theorem dX7_greatestFrom_71 : decode cX7_greatestFrom 71 = .ok (.istore_n 3, 1) := by decide +kernel
theorem dX7_greatestFrom_72 : decode cX7_greatestFrom 72 = .ok (.iinc 4 1, 3) := by decide +kernel
theorem dX7_greatestFrom_75 : decode cX7_greatestFrom 75 = .ok (.goto (-69), 3) := by decide +kernel
theorem dX7_greatestFrom_78 : decode cX7_greatestFrom 78 = .ok (.iload_n 3, 1) := by decide +kernel
theorem dX7_greatestFrom_79 : decode cX7_greatestFrom 79 = .ok (.ireturn, 1) := by decide +kernel
theorem dX7_keepsSample_0 : decode cX7_keepsSample 0 = .ok (.sipush 8192, 3) := by decide +kernel
theorem dX7_keepsSample_3 : decode cX7_keepsSample 3 = .ok (.iload_n 1, 1) := by decide +kernel
theorem dX7_keepsSample_4 : decode cX7_keepsSample 4 = .ok (.imul, 1) := by decide +kernel
theorem dX7_keepsSample_5 : decode cX7_keepsSample 5 = .ok (.aload_n 0, 1) := by decide +kernel
theorem dX7_keepsSample_6 : decode cX7_keepsSample 6 = .ok (.getfield 91, 3) := by decide +kernel
theorem dX7_keepsSample_9 : decode cX7_keepsSample 9 = .ok (.iload_n 1, 1) := by decide +kernel
theorem dX7_keepsSample_10 : decode cX7_keepsSample 10 = .ok (.iaload, 1) := by decide +kernel
theorem dX7_keepsSample_11 : decode cX7_keepsSample 11 = .ok (.aload_n 0, 1) := by decide +kernel
theorem dX7_keepsSample_12 : decode cX7_keepsSample 12 = .ok (.getfield 94, 3) := by decide +kernel
theorem dX7_keepsSample_15 : decode cX7_keepsSample 15 = .ok (.iload_n 1, 1) := by decide +kernel
theorem dX7_keepsSample_16 : decode cX7_keepsSample 16 = .ok (.iaload, 1) := by decide +kernel
theorem dX7_keepsSample_17 : decode cX7_keepsSample 17 = .ok (.iadd, 1) := by decide +kernel
theorem dX7_keepsSample_18 : decode cX7_keepsSample 18 = .ok (.sipush 8192, 3) := by decide +kernel
theorem dX7_keepsSample_21 : decode cX7_keepsSample 21 = .ok (.irem, 1) := by decide +kernel
theorem dX7_keepsSample_22 : decode cX7_keepsSample 22 = .ok (.iadd, 1) := by decide +kernel
theorem dX7_keepsSample_23 : decode cX7_keepsSample 23 = .ok (.istore_n 3, 1) := by decide +kernel
theorem dX7_keepsSample_24 : decode cX7_keepsSample 24 = .ok (.aload_n 0, 1) := by decide +kernel
theorem dX7_keepsSample_25 : decode cX7_keepsSample 25 = .ok (.getfield 97, 3) := by decide +kernel
theorem dX7_keepsSample_28 : decode cX7_keepsSample 28 = .ok (.iload_n 3, 1) := by decide +kernel
theorem dX7_keepsSample_29 : decode cX7_keepsSample 29 = .ok (.aload_n 0, 1) := by decide +kernel
theorem dX7_keepsSample_30 : decode cX7_keepsSample 30 = .ok (.getfield 69, 3) := by decide +kernel
theorem dX7_keepsSample_33 : decode cX7_keepsSample 33 = .ok (.iload_n 1, 1) := by decide +kernel
theorem dX7_keepsSample_34 : decode cX7_keepsSample 34 = .ok (.iaload, 1) := by decide +kernel
theorem dX7_keepsSample_35 : decode cX7_keepsSample 35 = .ok (.iastore, 1) := by decide +kernel
theorem dX7_keepsSample_36 : decode cX7_keepsSample 36 = .ok (.aload_n 0, 1) := by decide +kernel
theorem dX7_keepsSample_37 : decode cX7_keepsSample 37 = .ok (.getfield 100, 3) := by decide +kernel
theorem dX7_keepsSample_40 : decode cX7_keepsSample 40 = .ok (.iload_n 3, 1) := by decide +kernel
theorem dX7_keepsSample_41 : decode cX7_keepsSample 41 = .ok (.iload_n 2, 1) := by decide +kernel
theorem dX7_keepsSample_42 : decode cX7_keepsSample 42 = .ok (.iastore, 1) := by decide +kernel
theorem dX7_keepsSample_43 : decode cX7_keepsSample 43 = .ok (.aload_n 0, 1) := by decide +kernel
theorem dX7_keepsSample_44 : decode cX7_keepsSample 44 = .ok (.getfield 94, 3) := by decide +kernel
theorem dX7_keepsSample_47 : decode cX7_keepsSample 47 = .ok (.iload_n 1, 1) := by decide +kernel
theorem dX7_keepsSample_48 : decode cX7_keepsSample 48 = .ok (.dup2, 1) := by decide +kernel
theorem dX7_keepsSample_49 : decode cX7_keepsSample 49 = .ok (.iaload, 1) := by decide +kernel
theorem dX7_keepsSample_50 : decode cX7_keepsSample 50 = .ok (.iconst 1, 1) := by decide +kernel
theorem dX7_keepsSample_51 : decode cX7_keepsSample 51 = .ok (.iadd, 1) := by decide +kernel
theorem dX7_keepsSample_52 : decode cX7_keepsSample 52 = .ok (.iastore, 1) := by decide +kernel
theorem dX7_keepsSample_53 : decode cX7_keepsSample 53 = .ok (.aload_n 0, 1) := by decide +kernel
theorem dX7_keepsSample_54 : decode cX7_keepsSample 54 = .ok (.getfield 75, 3) := by decide +kernel
theorem dX7_keepsSample_57 : decode cX7_keepsSample 57 = .ok (.iload_n 1, 1) := by decide +kernel
theorem dX7_keepsSample_58 : decode cX7_keepsSample 58 = .ok (.iload_n 2, 1) := by decide +kernel
theorem dX7_keepsSample_59 : decode cX7_keepsSample 59 = .ok (.aload_n 0, 1) := by decide +kernel
theorem dX7_keepsSample_60 : decode cX7_keepsSample 60 = .ok (.getfield 75, 3) := by decide +kernel
theorem dX7_keepsSample_63 : decode cX7_keepsSample 63 = .ok (.iload_n 1, 1) := by decide +kernel
theorem dX7_keepsSample_64 : decode cX7_keepsSample 64 = .ok (.iaload, 1) := by decide +kernel
theorem dX7_keepsSample_65 : decode cX7_keepsSample 65 = .ok (.if_icmp .le 7, 3) := by decide +kernel
theorem dX7_keepsSample_68 : decode cX7_keepsSample 68 = .ok (.iload_n 2, 1) := by decide +kernel
theorem dX7_keepsSample_69 : decode cX7_keepsSample 69 = .ok (.goto 9, 3) := by decide +kernel
theorem dX7_keepsSample_72 : decode cX7_keepsSample 72 = .ok (.aload_n 0, 1) := by decide +kernel
theorem dX7_keepsSample_73 : decode cX7_keepsSample 73 = .ok (.getfield 75, 3) := by decide +kernel
theorem dX7_keepsSample_76 : decode cX7_keepsSample 76 = .ok (.iload_n 1, 1) := by decide +kernel
theorem dX7_keepsSample_77 : decode cX7_keepsSample 77 = .ok (.iaload, 1) := by decide +kernel
theorem dX7_keepsSample_78 : decode cX7_keepsSample 78 = .ok (.iastore, 1) := by decide +kernel
theorem dX7_keepsSample_79 : decode cX7_keepsSample 79 = .ok (.return_, 1) := by decide +kernel
set_option maxRecDepth 20000 in
theorem ggX7_letsGo_X7_greatestFrom : GoodIn wsX7_letsGo wsX7_greatestFrom := goodIn_r _ [11, 1, 3, 2, 5, 12, 13, 14, 15, 16, 17, 18, 19, 20, 21, 22, 23, 24, 25, 26, 27, 28, 29, 30, 31, 32, 33, 34, 35, 36, 37, 38, 39, 40, 41, 42, 43, 44, 45, 46, 47, 48, 49, 50, 51, 52, 53, 54, 55, 56, 57, 58, 59, 60, 61] (by decide +kernel) (by decide +kernel)
set_option maxRecDepth 20000 in
theorem gX7_letsGo_X7_greatestFrom : GoodIn wsX7_letsGo (wsV RX7 206 RX7 yX7_greatestFrom wsX7_greatestFrom) := goodIn_app (goodIn_of _ (by decide +kernel)) ggX7_letsGo_X7_greatestFrom
theorem dX7_letsGo_0 : decode cX7_letsGo 0 = .ok (.iconst 0, 1) := by decide +kernel
theorem dX7_letsGo_1 : decode cX7_letsGo 1 = .ok (.istore_n 2, 1) := by decide +kernel
theorem dX7_letsGo_2 : decode cX7_letsGo 2 = .ok (.aload_n 0, 1) := by decide +kernel
theorem dX7_letsGo_3 : decode cX7_letsGo 3 = .ok (.getfield 94, 3) := by decide +kernel
theorem dX7_letsGo_6 : decode cX7_letsGo 6 = .ok (.iload_n 1, 1) := by decide +kernel
theorem dX7_letsGo_7 : decode cX7_letsGo 7 = .ok (.iaload, 1) := by decide +kernel
theorem dX7_letsGo_8 : decode cX7_letsGo 8 = .ok (.ifCond .le 99, 3) := by decide +kernel
theorem dX7_letsGo_11 : decode cX7_letsGo 11 = .ok (.aload_n 0, 1) := by decide +kernel
theorem dX7_letsGo_12 : decode cX7_letsGo 12 = .ok (.getfield 97, 3) := by decide +kernel
theorem dX7_letsGo_15 : decode cX7_letsGo 15 = .ok (.sipush 8192, 3) := by decide +kernel
theorem dX7_letsGo_18 : decode cX7_letsGo 18 = .ok (.iload_n 1, 1) := by decide +kernel
theorem dX7_letsGo_19 : decode cX7_letsGo 19 = .ok (.imul, 1) := by decide +kernel
theorem dX7_letsGo_20 : decode cX7_letsGo 20 = .ok (.aload_n 0, 1) := by decide +kernel
theorem dX7_letsGo_21 : decode cX7_letsGo 21 = .ok (.getfield 91, 3) := by decide +kernel
theorem dX7_letsGo_24 : decode cX7_letsGo 24 = .ok (.iload_n 1, 1) := by decide +kernel
theorem dX7_letsGo_25 : decode cX7_letsGo 25 = .ok (.iaload, 1) := by decide +kernel
theorem dX7_letsGo_26 : decode cX7_letsGo 26 = .ok (.iadd, 1) := by decide +kernel
theorem dX7_letsGo_27 : decode cX7_letsGo 27 = .ok (.iaload, 1) := by decide +kernel
theorem dX7_letsGo_28 : decode cX7_letsGo 28 = .ok (.aload_n 0, 1) := by decide +kernel
theorem dX7_letsGo_29 : decode cX7_letsGo 29 = .ok (.getfield 69, 3) := by decide +kernel
theorem dX7_letsGo_32 : decode cX7_letsGo 32 = .ok (.iload_n 1, 1) := by decide +kernel
theorem dX7_letsGo_33 : decode cX7_letsGo 33 = .ok (.iaload, 1) := by decide +kernel
theorem dX7_letsGo_34 : decode cX7_letsGo 34 = .ok (.bipush 10, 2) := by decide +kernel
theorem dX7_letsGo_36 : decode cX7_letsGo 36 = .ok (.isub, 1) := by decide +kernel
theorem dX7_letsGo_37 : decode cX7_letsGo 37 = .ok (.if_icmp .gt 70, 3) := by decide +kernel
theorem dX7_letsGo_40 : decode cX7_letsGo 40 = .ok (.iload_n 2, 1) := by decide +kernel
theorem dX7_letsGo_41 : decode cX7_letsGo 41 = .ok (.ifCond .ne 29, 3) := by decide +kernel
theorem dX7_letsGo_44 : decode cX7_letsGo 44 = .ok (.aload_n 0, 1) := by decide +kernel
theorem dX7_letsGo_45 : decode cX7_letsGo 45 = .ok (.getfield 100, 3) := by decide +kernel
theorem dX7_letsGo_48 : decode cX7_letsGo 48 = .ok (.sipush 8192, 3) := by decide +kernel
theorem dX7_letsGo_51 : decode cX7_letsGo 51 = .ok (.iload_n 1, 1) := by decide +kernel
theorem dX7_letsGo_52 : decode cX7_letsGo 52 = .ok (.imul, 1) := by decide +kernel
theorem dX7_letsGo_53 : decode cX7_letsGo 53 = .ok (.aload_n 0, 1) := by decide +kernel
theorem dX7_letsGo_54 : decode cX7_letsGo 54 = .ok (.getfield 91, 3) := by decide +kernel
theorem dX7_letsGo_57 : decode cX7_letsGo 57 = .ok (.iload_n 1, 1) := by decide +kernel
theorem dX7_letsGo_58 : decode cX7_letsGo 58 = .ok (.iaload, 1) := by decide +kernel
theorem dX7_letsGo_59 : decode cX7_letsGo 59 = .ok (.iadd, 1) := by decide +kernel
theorem dX7_letsGo_60 : decode cX7_letsGo 60 = .ok (.iaload, 1) := by decide +kernel
theorem dX7_letsGo_61 : decode cX7_letsGo 61 = .ok (.aload_n 0, 1) := by decide +kernel
theorem dX7_letsGo_62 : decode cX7_letsGo 62 = .ok (.getfield 75, 3) := by decide +kernel
theorem dX7_letsGo_65 : decode cX7_letsGo 65 = .ok (.iload_n 1, 1) := by decide +kernel
theorem dX7_letsGo_66 : decode cX7_letsGo 66 = .ok (.iaload, 1) := by decide +kernel
theorem dX7_letsGo_67 : decode cX7_letsGo 67 = .ok (.if_icmp .lt 7, 3) := by decide +kernel
theorem dX7_letsGo_70 : decode cX7_letsGo 70 = .ok (.iconst 1, 1) := by decide +kernel
theorem dX7_letsGo_71 : decode cX7_letsGo 71 = .ok (.goto 4, 3) := by decide +kernel
theorem dX7_letsGo_74 : decode cX7_letsGo 74 = .ok (.iconst 0, 1) := by decide +kernel
theorem dX7_letsGo_75 : decode cX7_letsGo 75 = .ok (.istore_n 2, 1) := by decide +kernel
theorem dX7_letsGo_76 : decode cX7_letsGo 76 = .ok (.aload_n 0, 1) := by decide +kernel
theorem dX7_letsGo_77 : decode cX7_letsGo 77 = .ok (.getfield 91, 3) := by decide +kernel
theorem dX7_letsGo_80 : decode cX7_letsGo 80 = .ok (.iload_n 1, 1) := by decide +kernel
theorem dX7_letsGo_81 : decode cX7_letsGo 81 = .ok (.aload_n 0, 1) := by decide +kernel
theorem dX7_letsGo_82 : decode cX7_letsGo 82 = .ok (.getfield 91, 3) := by decide +kernel
theorem dX7_letsGo_85 : decode cX7_letsGo 85 = .ok (.iload_n 1, 1) := by decide +kernel
theorem dX7_letsGo_86 : decode cX7_letsGo 86 = .ok (.iaload, 1) := by decide +kernel
theorem dX7_letsGo_87 : decode cX7_letsGo 87 = .ok (.iconst 1, 1) := by decide +kernel
theorem dX7_letsGo_88 : decode cX7_letsGo 88 = .ok (.iadd, 1) := by decide +kernel
theorem dX7_letsGo_89 : decode cX7_letsGo 89 = .ok (.sipush 8192, 3) := by decide +kernel
theorem dX7_letsGo_92 : decode cX7_letsGo 92 = .ok (.irem, 1) := by decide +kernel
theorem dX7_letsGo_93 : decode cX7_letsGo 93 = .ok (.iastore, 1) := by decide +kernel
theorem dX7_letsGo_94 : decode cX7_letsGo 94 = .ok (.aload_n 0, 1) := by decide +kernel
theorem dX7_letsGo_95 : decode cX7_letsGo 95 = .ok (.getfield 94, 3) := by decide +kernel
theorem dX7_letsGo_98 : decode cX7_letsGo 98 = .ok (.iload_n 1, 1) := by decide +kernel
theorem dX7_letsGo_99 : decode cX7_letsGo 99 = .ok (.dup2, 1) := by decide +kernel
theorem dX7_letsGo_100 : decode cX7_letsGo 100 = .ok (.iaload, 1) := by decide +kernel
theorem dX7_letsGo_101 : decode cX7_letsGo 101 = .ok (.iconst 1, 1) := by decide +kernel
theorem dX7_letsGo_102 : decode cX7_letsGo 102 = .ok (.isub, 1) := by decide +kernel
theorem dX7_letsGo_103 : decode cX7_letsGo 103 = .ok (.iastore, 1) := by decide +kernel
theorem dX7_letsGo_104 : decode cX7_letsGo 104 = .ok (.goto (-102), 3) := by decide +kernel
theorem dX7_letsGo_107 : decode cX7_letsGo 107 = .ok (.iload_n 2, 1) := by decide +kernel
theorem dX7_letsGo_108 : decode cX7_letsGo 108 = .ok (.ifCond .eq 27, 3) := by decide +kernel
theorem dX7_letsGo_111 : decode cX7_letsGo 111 = .ok (.aload_n 0, 1) := by decide +kernel
theorem dX7_letsGo_112 : decode cX7_letsGo 112 = .ok (.iload_n 1, 1) := by decide +kernel
theorem dX7_letsGo_113 : decode cX7_letsGo 113 = .ok (.iconst 0, 1) := by decide +kernel
theorem dX7_letsGo_114 : decode cX7_letsGo 114 = .ok (.invokevirtual 206, 3) := by decide +kernel
theorem dX7_letsGo_117 : decode cX7_letsGo 117 = .ok (.istore_n 3, 1) := by decide +kernel
theorem dX7_letsGo_118 : decode cX7_letsGo 118 = .ok (.aload_n 0, 1) := by decide +kernel
theorem dX7_letsGo_119 : decode cX7_letsGo 119 = .ok (.getfield 75, 3) := by decide +kernel
theorem dX7_letsGo_122 : decode cX7_letsGo 122 = .ok (.iload_n 1, 1) := by decide +kernel
theorem dX7_letsGo_123 : decode cX7_letsGo 123 = .ok (.iload_n 3, 1) := by decide +kernel
theorem dX7_letsGo_124 : decode cX7_letsGo 124 = .ok (.bipush (-9), 2) := by decide +kernel
theorem dX7_letsGo_126 : decode cX7_letsGo 126 = .ok (.if_icmp .ne 7, 3) := by decide +kernel
theorem dX7_letsGo_129 : decode cX7_letsGo 129 = .ok (.iconst 0, 1) := by decide +kernel
theorem dX7_letsGo_130 : decode cX7_letsGo 130 = .ok (.goto 4, 3) := by decide +kernel
theorem dX7_letsGo_133 : decode cX7_letsGo 133 = .ok (.iload_n 3, 1) := by decide +kernel
theorem dX7_letsGo_134 : decode cX7_letsGo 134 = .ok (.iastore, 1) := by decide +kernel
theorem dX7_letsGo_135 : decode cX7_letsGo 135 = .ok (.return_, 1) := by decide +kernel
theorem dX7_comesTo_0 : decode cX7_comesTo 0 = .ok (.aload_n 0, 1) := by decide +kernel
theorem dX7_comesTo_1 : decode cX7_comesTo 1 = .ok (.getfield 127, 3) := by decide +kernel
theorem dX7_comesTo_4 : decode cX7_comesTo 4 = .ok (.iload_n 1, 1) := by decide +kernel
theorem dX7_comesTo_5 : decode cX7_comesTo 5 = .ok (.iaload, 1) := by decide +kernel
theorem dX7_comesTo_6 : decode cX7_comesTo 6 = .ok (.bipush 12, 2) := by decide +kernel
theorem dX7_comesTo_8 : decode cX7_comesTo 8 = .ok (.if_icmp .lt 65, 3) := by decide +kernel
theorem dX7_comesTo_11 : decode cX7_comesTo 11 = .ok (.iconst 0, 1) := by decide +kernel
theorem dX7_comesTo_12 : decode cX7_comesTo 12 = .ok (.istore_n 3, 1) := by decide +kernel
theorem dX7_comesTo_13 : decode cX7_comesTo 13 = .ok (.iload_n 3, 1) := by decide +kernel
theorem dX7_comesTo_14 : decode cX7_comesTo 14 = .ok (.bipush 11, 2) := by decide +kernel
theorem dX7_comesTo_16 : decode cX7_comesTo 16 = .ok (.if_icmp .ge 57, 3) := by decide +kernel
theorem dX7_comesTo_19 : decode cX7_comesTo 19 = .ok (.aload_n 0, 1) := by decide +kernel
theorem dX7_comesTo_20 : decode cX7_comesTo 20 = .ok (.getfield 130, 3) := by decide +kernel
theorem dX7_comesTo_23 : decode cX7_comesTo 23 = .ok (.bipush 12, 2) := by decide +kernel
theorem dX7_comesTo_25 : decode cX7_comesTo 25 = .ok (.iload_n 1, 1) := by decide +kernel
theorem dX7_comesTo_26 : decode cX7_comesTo 26 = .ok (.imul, 1) := by decide +kernel
theorem dX7_comesTo_27 : decode cX7_comesTo 27 = .ok (.iload_n 3, 1) := by decide +kernel
theorem dX7_comesTo_28 : decode cX7_comesTo 28 = .ok (.iadd, 1) := by decide +kernel
theorem dX7_comesTo_29 : decode cX7_comesTo 29 = .ok (.aload_n 0, 1) := by decide +kernel
theorem dX7_comesTo_30 : decode cX7_comesTo 30 = .ok (.getfield 130, 3) := by decide +kernel
theorem dX7_comesTo_33 : decode cX7_comesTo 33 = .ok (.bipush 12, 2) := by decide +kernel
theorem dX7_comesTo_35 : decode cX7_comesTo 35 = .ok (.iload_n 1, 1) := by decide +kernel
theorem dX7_comesTo_36 : decode cX7_comesTo 36 = .ok (.imul, 1) := by decide +kernel
theorem dX7_comesTo_37 : decode cX7_comesTo 37 = .ok (.iload_n 3, 1) := by decide +kernel
theorem dX7_comesTo_38 : decode cX7_comesTo 38 = .ok (.iadd, 1) := by decide +kernel
theorem dX7_comesTo_39 : decode cX7_comesTo 39 = .ok (.iconst 1, 1) := by decide +kernel
theorem dX7_comesTo_40 : decode cX7_comesTo 40 = .ok (.iadd, 1) := by decide +kernel
theorem dX7_comesTo_41 : decode cX7_comesTo 41 = .ok (.iaload, 1) := by decide +kernel
theorem dX7_comesTo_42 : decode cX7_comesTo 42 = .ok (.iastore, 1) := by decide +kernel
theorem dX7_comesTo_43 : decode cX7_comesTo 43 = .ok (.aload_n 0, 1) := by decide +kernel
theorem dX7_comesTo_44 : decode cX7_comesTo 44 = .ok (.getfield 133, 3) := by decide +kernel
theorem dX7_comesTo_47 : decode cX7_comesTo 47 = .ok (.bipush 12, 2) := by decide +kernel
theorem dX7_comesTo_49 : decode cX7_comesTo 49 = .ok (.iload_n 1, 1) := by decide +kernel
theorem dX7_comesTo_50 : decode cX7_comesTo 50 = .ok (.imul, 1) := by decide +kernel
theorem dX7_comesTo_51 : decode cX7_comesTo 51 = .ok (.iload_n 3, 1) := by decide +kernel
theorem dX7_comesTo_52 : decode cX7_comesTo 52 = .ok (.iadd, 1) := by decide +kernel
theorem dX7_comesTo_53 : decode cX7_comesTo 53 = .ok (.aload_n 0, 1) := by decide +kernel
theorem dX7_comesTo_54 : decode cX7_comesTo 54 = .ok (.getfield 133, 3) := by decide +kernel
theorem dX7_comesTo_57 : decode cX7_comesTo 57 = .ok (.bipush 12, 2) := by decide +kernel
theorem dX7_comesTo_59 : decode cX7_comesTo 59 = .ok (.iload_n 1, 1) := by decide +kernel
theorem dX7_comesTo_60 : decode cX7_comesTo 60 = .ok (.imul, 1) := by decide +kernel
theorem dX7_comesTo_61 : decode cX7_comesTo 61 = .ok (.iload_n 3, 1) := by decide +kernel
theorem dX7_comesTo_62 : decode cX7_comesTo 62 = .ok (.iadd, 1) := by decide +kernel
theorem dX7_comesTo_63 : decode cX7_comesTo 63 = .ok (.iconst 1, 1) := by decide +kernel
theorem dX7_comesTo_64 : decode cX7_comesTo 64 = .ok (.iadd, 1) := by decide +kernel
theorem dX7_comesTo_65 : decode cX7_comesTo 65 = .ok (.iaload, 1) := by decide +kernel
theorem dX7_comesTo_66 : decode cX7_comesTo 66 = .ok (.iastore, 1) := by decide +kernel
theorem dX7_comesTo_67 : decode cX7_comesTo 67 = .ok (.iinc 3 1, 3) := by decide +kernel
theorem dX7_comesTo_70 : decode cX7_comesTo 70 = .ok (.goto (-57), 3) := by decide +kernel
theorem dX7_comesTo_73 : decode cX7_comesTo 73 = .ok (.bipush 12, 2) := by decide +kernel
theorem dX7_comesTo_75 : decode cX7_comesTo 75 = .ok (.iload_n 1, 1) := by decide +kernel
theorem dX7_comesTo_76 : decode cX7_comesTo 76 = .ok (.imul, 1) := by decide +kernel
theorem dX7_comesTo_77 : decode cX7_comesTo 77 = .ok (.aload_n 0, 1) := by decide +kernel
theorem dX7_comesTo_78 : decode cX7_comesTo 78 = .ok (.getfield 127, 3) := by decide +kernel
theorem dX7_comesTo_81 : decode cX7_comesTo 81 = .ok (.iload_n 1, 1) := by decide +kernel
theorem dX7_comesTo_82 : decode cX7_comesTo 82 = .ok (.iaload, 1) := by decide +kernel
theorem dX7_comesTo_83 : decode cX7_comesTo 83 = .ok (.bipush 12, 2) := by decide +kernel
theorem dX7_comesTo_85 : decode cX7_comesTo 85 = .ok (.if_icmp .ge 12, 3) := by decide +kernel
theorem dX7_comesTo_88 : decode cX7_comesTo 88 = .ok (.aload_n 0, 1) := by decide +kernel
theorem dX7_comesTo_89 : decode cX7_comesTo 89 = .ok (.getfield 127, 3) := by decide +kernel
theorem dX7_comesTo_92 : decode cX7_comesTo 92 = .ok (.iload_n 1, 1) := by decide +kernel
theorem dX7_comesTo_93 : decode cX7_comesTo 93 = .ok (.iaload, 1) := by decide +kernel
theorem dX7_comesTo_94 : decode cX7_comesTo 94 = .ok (.goto 5, 3) := by decide +kernel
theorem dX7_comesTo_97 : decode cX7_comesTo 97 = .ok (.bipush 11, 2) := by decide +kernel
theorem dX7_comesTo_99 : decode cX7_comesTo 99 = .ok (.iadd, 1) := by decide +kernel
theorem dX7_comesTo_100 : decode cX7_comesTo 100 = .ok (.istore_n 3, 1) := by decide +kernel
theorem dX7_comesTo_101 : decode cX7_comesTo 101 = .ok (.aload_n 0, 1) := by decide +kernel
theorem dX7_comesTo_102 : decode cX7_comesTo 102 = .ok (.getfield 130, 3) := by decide +kernel
theorem dX7_comesTo_105 : decode cX7_comesTo 105 = .ok (.iload_n 3, 1) := by decide +kernel
theorem dX7_comesTo_106 : decode cX7_comesTo 106 = .ok (.aload_n 0, 1) := by decide +kernel
theorem dX7_comesTo_107 : decode cX7_comesTo 107 = .ok (.getfield 146, 3) := by decide +kernel
theorem dX7_comesTo_110 : decode cX7_comesTo 110 = .ok (.iastore, 1) := by decide +kernel
theorem dX7_comesTo_111 : decode cX7_comesTo 111 = .ok (.aload_n 0, 1) := by decide +kernel
theorem dX7_comesTo_112 : decode cX7_comesTo 112 = .ok (.getfield 133, 3) := by decide +kernel
theorem dX7_comesTo_115 : decode cX7_comesTo 115 = .ok (.iload_n 3, 1) := by decide +kernel
theorem dX7_comesTo_116 : decode cX7_comesTo 116 = .ok (.iload_n 2, 1) := by decide +kernel
theorem dX7_comesTo_117 : decode cX7_comesTo 117 = .ok (.iastore, 1) := by decide +kernel
theorem dX7_comesTo_118 : decode cX7_comesTo 118 = .ok (.aload_n 0, 1) := by decide +kernel
theorem dX7_comesTo_119 : decode cX7_comesTo 119 = .ok (.getfield 127, 3) := by decide +kernel
theorem dX7_comesTo_122 : decode cX7_comesTo 122 = .ok (.iload_n 1, 1) := by decide +kernel
theorem dX7_comesTo_123 : decode cX7_comesTo 123 = .ok (.dup2, 1) := by decide +kernel
theorem dX7_comesTo_124 : decode cX7_comesTo 124 = .ok (.iaload, 1) := by decide +kernel
theorem dX7_comesTo_125 : decode cX7_comesTo 125 = .ok (.iconst 1, 1) := by decide +kernel
theorem dX7_comesTo_126 : decode cX7_comesTo 126 = .ok (.iadd, 1) := by decide +kernel
theorem dX7_comesTo_127 : decode cX7_comesTo 127 = .ok (.iastore, 1) := by decide +kernel
theorem dX7_comesTo_128 : decode cX7_comesTo 128 = .ok (.aload_n 0, 1) := by decide +kernel
theorem dX7_comesTo_129 : decode cX7_comesTo 129 = .ok (.getfield 103, 3) := by decide +kernel
theorem dX7_comesTo_132 : decode cX7_comesTo 132 = .ok (.iload_n 1, 1) := by decide +kernel
theorem dX7_comesTo_133 : decode cX7_comesTo 133 = .ok (.iload_n 2, 1) := by decide +kernel
theorem dX7_comesTo_134 : decode cX7_comesTo 134 = .ok (.iastore, 1) := by decide +kernel
theorem dX7_comesTo_135 : decode cX7_comesTo 135 = .ok (.return_, 1) := by decide +kernel
theorem dX7_comesToPhase_0 : decode cX7_comesToPhase 0 = .ok (.aload_n 0, 1) := by decide +kernel
theorem dX7_comesToPhase_1 : decode cX7_comesToPhase 1 = .ok (.getfield 106, 3) := by decide +kernel
theorem dX7_comesToPhase_4 : decode cX7_comesToPhase 4 = .ok (.iload_n 1, 1) := by decide +kernel
theorem dX7_comesToPhase_5 : decode cX7_comesToPhase 5 = .ok (.iload_n 2, 1) := by decide +kernel
theorem dX7_comesToPhase_6 : decode cX7_comesToPhase 6 = .ok (.iastore, 1) := by decide +kernel
theorem dX7_comesToPhase_7 : decode cX7_comesToPhase 7 = .ok (.aload_n 0, 1) := by decide +kernel
theorem dX7_comesToPhase_8 : decode cX7_comesToPhase 8 = .ok (.getfield 109, 3) := by decide +kernel
theorem dX7_comesToPhase_11 : decode cX7_comesToPhase 11 = .ok (.iload_n 1, 1) := by decide +kernel
theorem dX7_comesToPhase_12 : decode cX7_comesToPhase 12 = .ok (.aload_n 0, 1) := by decide +kernel
theorem dX7_comesToPhase_13 : decode cX7_comesToPhase 13 = .ok (.getfield 146, 3) := by decide +kernel
theorem dX7_comesToPhase_16 : decode cX7_comesToPhase 16 = .ok (.iastore, 1) := by decide +kernel
theorem dX7_comesToPhase_17 : decode cX7_comesToPhase 17 = .ok (.aload_n 0, 1) := by decide +kernel
theorem dX7_comesToPhase_18 : decode cX7_comesToPhase 18 = .ok (.getfield 112, 3) := by decide +kernel
theorem dX7_comesToPhase_21 : decode cX7_comesToPhase 21 = .ok (.iload_n 1, 1) := by decide +kernel
theorem dX7_comesToPhase_22 : decode cX7_comesToPhase 22 = .ok (.aload_n 0, 1) := by decide +kernel
theorem dX7_comesToPhase_23 : decode cX7_comesToPhase 23 = .ok (.getfield 88, 3) := by decide +kernel
theorem dX7_comesToPhase_26 : decode cX7_comesToPhase 26 = .ok (.iload_n 1, 1) := by decide +kernel
theorem dX7_comesToPhase_27 : decode cX7_comesToPhase 27 = .ok (.iaload, 1) := by decide +kernel
theorem dX7_comesToPhase_28 : decode cX7_comesToPhase 28 = .ok (.iastore, 1) := by decide +kernel
theorem dX7_comesToPhase_29 : decode cX7_comesToPhase 29 = .ok (.return_, 1) := by decide +kernel
theorem dX7_starts_0 : decode cX7_starts 0 = .ok (.iload_n 2, 1) := by decide +kernel
theorem dX7_starts_1 : decode cX7_starts 1 = .ok (.ifCond .eq 7, 3) := by decide +kernel
theorem dX7_starts_4 : decode cX7_starts 4 = .ok (.iload_n 3, 1) := by decide +kernel
theorem dX7_starts_5 : decode cX7_starts 5 = .ok (.ifCond .eq 4, 3) := by decide +kernel
theorem dX7_starts_8 : decode cX7_starts 8 = .ok (.return_, 1) := by decide +kernel
theorem dX7_starts_9 : decode cX7_starts 9 = .ok (.ldc2_w 185, 3) := by decide +kernel
theorem dX7_starts_12 : decode cX7_starts 12 = .ok (.aload_n 0, 1) := by decide +kernel
theorem dX7_starts_13 : decode cX7_starts 13 = .ok (.getfield 75, 3) := by decide +kernel
theorem dX7_starts_16 : decode cX7_starts 16 = .ok (.iload_n 1, 1) := by decide +kernel
theorem dX7_starts_17 : decode cX7_starts 17 = .ok (.iaload, 1) := by decide +kernel
theorem dX7_starts_18 : decode cX7_starts 18 = .ok (.i2l, 1) := by decide +kernel
theorem dX7_starts_19 : decode cX7_starts 19 = .ok (.lmul, 1) := by decide +kernel
theorem dX7_starts_20 : decode cX7_starts 20 = .ok (.ldc2_w 209, 3) := by decide +kernel
theorem dX7_starts_23 : decode cX7_starts 23 = .ok (.aload_n 0, 1) := by decide +kernel
theorem dX7_starts_24 : decode cX7_starts 24 = .ok (.getfield 121, 3) := by decide +kernel
theorem dX7_starts_27 : decode cX7_starts 27 = .ok (.iload_n 1, 1) := by decide +kernel
theorem dX7_starts_28 : decode cX7_starts 28 = .ok (.iaload, 1) := by decide +kernel
theorem dX7_starts_29 : decode cX7_starts 29 = .ok (.i2l, 1) := by decide +kernel
theorem dX7_starts_30 : decode cX7_starts 30 = .ok (.lmul, 1) := by decide +kernel
theorem dX7_starts_31 : decode cX7_starts 31 = .ok (.lcmp, 1) := by decide +kernel
theorem dX7_starts_32 : decode cX7_starts 32 = .ok (.ifCond .lt 25, 3) := by decide +kernel
theorem dX7_starts_35 : decode cX7_starts 35 = .ok (.aload_n 0, 1) := by decide +kernel
theorem dX7_starts_36 : decode cX7_starts 36 = .ok (.getfield 121, 3) := by decide +kernel
theorem dX7_starts_39 : decode cX7_starts 39 = .ok (.iload_n 1, 1) := by decide +kernel
theorem dX7_starts_40 : decode cX7_starts 40 = .ok (.aload_n 0, 1) := by decide +kernel
theorem dX7_starts_41 : decode cX7_starts 41 = .ok (.getfield 75, 3) := by decide +kernel
theorem dX7_starts_44 : decode cX7_starts 44 = .ok (.iload_n 1, 1) := by decide +kernel
theorem dX7_starts_45 : decode cX7_starts 45 = .ok (.iaload, 1) := by decide +kernel
theorem dX7_starts_46 : decode cX7_starts 46 = .ok (.iastore, 1) := by decide +kernel
theorem dX7_starts_47 : decode cX7_starts 47 = .ok (.aload_n 0, 1) := by decide +kernel
theorem dX7_starts_48 : decode cX7_starts 48 = .ok (.getfield 124, 3) := by decide +kernel
theorem dX7_starts_51 : decode cX7_starts 51 = .ok (.iload_n 1, 1) := by decide +kernel
theorem dX7_starts_52 : decode cX7_starts 52 = .ok (.iconst 0, 1) := by decide +kernel
theorem dX7_starts_53 : decode cX7_starts 53 = .ok (.iastore, 1) := by decide +kernel
theorem dX7_starts_54 : decode cX7_starts 54 = .ok (.goto 43, 3) := by decide +kernel
theorem dX7_starts_57 : decode cX7_starts 57 = .ok (.aload_n 0, 1) := by decide +kernel
theorem dX7_starts_58 : decode cX7_starts 58 = .ok (.getfield 124, 3) := by decide +kernel
theorem dX7_starts_61 : decode cX7_starts 61 = .ok (.iload_n 1, 1) := by decide +kernel
theorem dX7_starts_62 : decode cX7_starts 62 = .ok (.dup2, 1) := by decide +kernel
theorem dX7_starts_63 : decode cX7_starts 63 = .ok (.iaload, 1) := by decide +kernel
theorem dX7_starts_64 : decode cX7_starts 64 = .ok (.iconst 1, 1) := by decide +kernel
theorem dX7_starts_65 : decode cX7_starts 65 = .ok (.iadd, 1) := by decide +kernel
theorem dX7_starts_66 : decode cX7_starts 66 = .ok (.iastore, 1) := by decide +kernel
theorem dX7_starts_67 : decode cX7_starts 67 = .ok (.aload_n 0, 1) := by decide +kernel
theorem dX7_starts_68 : decode cX7_starts 68 = .ok (.getfield 118, 3) := by decide +kernel
theorem dX7_starts_71 : decode cX7_starts 71 = .ok (.iload_n 1, 1) := by decide +kernel
theorem dX7_starts_72 : decode cX7_starts 72 = .ok (.aload_n 0, 1) := by decide +kernel
theorem dX7_starts_73 : decode cX7_starts 73 = .ok (.getfield 118, 3) := by decide +kernel
theorem dX7_starts_76 : decode cX7_starts 76 = .ok (.iload_n 1, 1) := by decide +kernel
theorem dX7_starts_77 : decode cX7_starts 77 = .ok (.baload, 1) := by decide +kernel
theorem dX7_starts_78 : decode cX7_starts 78 = .ok (.ifCond .ne 13, 3) := by decide +kernel
theorem dX7_starts_81 : decode cX7_starts 81 = .ok (.aload_n 0, 1) := by decide +kernel
theorem dX7_starts_82 : decode cX7_starts 82 = .ok (.getfield 124, 3) := by decide +kernel
theorem dX7_starts_85 : decode cX7_starts 85 = .ok (.iload_n 1, 1) := by decide +kernel
theorem dX7_starts_86 : decode cX7_starts 86 = .ok (.iaload, 1) := by decide +kernel
theorem dX7_starts_87 : decode cX7_starts 87 = .ok (.iconst 3, 1) := by decide +kernel
theorem dX7_starts_88 : decode cX7_starts 88 = .ok (.if_icmp .ne 7, 3) := by decide +kernel
theorem dX7_starts_91 : decode cX7_starts 91 = .ok (.iconst 1, 1) := by decide +kernel
theorem dX7_starts_92 : decode cX7_starts 92 = .ok (.goto 4, 3) := by decide +kernel
theorem dX7_starts_95 : decode cX7_starts 95 = .ok (.iconst 0, 1) := by decide +kernel
theorem dX7_starts_96 : decode cX7_starts 96 = .ok (.bastore, 1) := by decide +kernel
theorem dX7_starts_97 : decode cX7_starts 97 = .ok (.return_, 1) := by decide +kernel
set_option maxRecDepth 20000 in
theorem ggX7_isPhaseOver_X7_product : GoodIn wsX7_isPhaseOver wsX7_product := goodIn_r _ [14, 3, 15, 16, 17, 18, 19, 20, 21, 22, 23, 24, 25, 26, 27, 28, 29, 30, 31, 32, 33, 34, 35, 36, 37, 38, 39, 40, 41, 42, 43, 44, 45, 46, 47, 48, 49, 50, 51, 52, 53, 54, 55, 56, 57, 58, 59, 60, 61, 62, 63, 64, 65, 66] (by decide +kernel) (by decide +kernel)
set_option maxRecDepth 20000 in
theorem gX7_isPhaseOver_X7_product : GoodIn wsX7_isPhaseOver (wsV RX7 179 RX7 yX7_product wsX7_product) := goodIn_app (goodIn_of _ (by decide +kernel)) ggX7_isPhaseOver_X7_product
theorem dX7_isPhaseOver_0 : decode cX7_isPhaseOver 0 = .ok (.aload_n 0, 1) := by decide +kernel
theorem dX7_isPhaseOver_1 : decode cX7_isPhaseOver 1 = .ok (.getfield 146, 3) := by decide +kernel
theorem dX7_isPhaseOver_4 : decode cX7_isPhaseOver 4 = .ok (.aload_n 0, 1) := by decide +kernel
theorem dX7_isPhaseOver_5 : decode cX7_isPhaseOver 5 = .ok (.getfield 109, 3) := by decide +kernel
theorem dX7_isPhaseOver_8 : decode cX7_isPhaseOver 8 = .ok (.iload_n 1, 1) := by decide +kernel
theorem dX7_isPhaseOver_9 : decode cX7_isPhaseOver 9 = .ok (.iaload, 1) := by decide +kernel
theorem dX7_isPhaseOver_10 : decode cX7_isPhaseOver 10 = .ok (.isub, 1) := by decide +kernel
theorem dX7_isPhaseOver_11 : decode cX7_isPhaseOver 11 = .ok (.aload_n 0, 1) := by decide +kernel
theorem dX7_isPhaseOver_12 : decode cX7_isPhaseOver 12 = .ok (.getfield 78, 3) := by decide +kernel
theorem dX7_isPhaseOver_15 : decode cX7_isPhaseOver 15 = .ok (.iload_n 1, 1) := by decide +kernel
theorem dX7_isPhaseOver_16 : decode cX7_isPhaseOver 16 = .ok (.iaload, 1) := by decide +kernel
theorem dX7_isPhaseOver_17 : decode cX7_isPhaseOver 17 = .ok (.if_icmp .lt 7, 3) := by decide +kernel
theorem dX7_isPhaseOver_20 : decode cX7_isPhaseOver 20 = .ok (.iconst 1, 1) := by decide +kernel
theorem dX7_isPhaseOver_21 : decode cX7_isPhaseOver 21 = .ok (.goto 4, 3) := by decide +kernel
theorem dX7_isPhaseOver_24 : decode cX7_isPhaseOver 24 = .ok (.iconst 0, 1) := by decide +kernel
theorem dX7_isPhaseOver_25 : decode cX7_isPhaseOver 25 = .ok (.istore_n 2, 1) := by decide +kernel
theorem dX7_isPhaseOver_26 : decode cX7_isPhaseOver 26 = .ok (.aload_n 0, 1) := by decide +kernel
theorem dX7_isPhaseOver_27 : decode cX7_isPhaseOver 27 = .ok (.getfield 106, 3) := by decide +kernel
theorem dX7_isPhaseOver_30 : decode cX7_isPhaseOver 30 = .ok (.iload_n 1, 1) := by decide +kernel
theorem dX7_isPhaseOver_31 : decode cX7_isPhaseOver 31 = .ok (.iaload, 1) := by decide +kernel
theorem dX7_isPhaseOver_32 : decode cX7_isPhaseOver 32 = .ok (.ifCond .ne 52, 3) := by decide +kernel
theorem dX7_isPhaseOver_35 : decode cX7_isPhaseOver 35 = .ok (.iload_n 2, 1) := by decide +kernel
theorem dX7_isPhaseOver_36 : decode cX7_isPhaseOver 36 = .ok (.ifCond .eq 46, 3) := by decide +kernel
theorem dX7_isPhaseOver_39 : decode cX7_isPhaseOver 39 = .ok (.ldc2_w 173, 3) := by decide +kernel
theorem dX7_isPhaseOver_42 : decode cX7_isPhaseOver 42 = .ok (.aload_n 0, 1) := by decide +kernel
theorem dX7_isPhaseOver_43 : decode cX7_isPhaseOver 43 = .ok (.getfield 32, 3) := by decide +kernel
theorem dX7_isPhaseOver_46 : decode cX7_isPhaseOver 46 = .ok (.iload_n 1, 1) := by decide +kernel
theorem dX7_isPhaseOver_47 : decode cX7_isPhaseOver 47 = .ok (.iaload, 1) := by decide +kernel
theorem dX7_isPhaseOver_48 : decode cX7_isPhaseOver 48 = .ok (.i2l, 1) := by decide +kernel
theorem dX7_isPhaseOver_49 : decode cX7_isPhaseOver 49 = .ok (.lmul, 1) := by decide +kernel
theorem dX7_isPhaseOver_50 : decode cX7_isPhaseOver 50 = .ok (.ldc2_w 211, 3) := by decide +kernel
theorem dX7_isPhaseOver_53 : decode cX7_isPhaseOver 53 = .ok (.aload_n 0, 1) := by decide +kernel
theorem dX7_isPhaseOver_54 : decode cX7_isPhaseOver 54 = .ok (.iload_n 1, 1) := by decide +kernel
theorem dX7_isPhaseOver_55 : decode cX7_isPhaseOver 55 = .ok (.invokevirtual 179, 3) := by decide +kernel
theorem dX7_isPhaseOver_58 : decode cX7_isPhaseOver 58 = .ok (.lmul, 1) := by decide +kernel
theorem dX7_isPhaseOver_59 : decode cX7_isPhaseOver 59 = .ok (.lcmp, 1) := by decide +kernel
theorem dX7_isPhaseOver_60 : decode cX7_isPhaseOver 60 = .ok (.ifCond .ge 18, 3) := by decide +kernel
theorem dX7_isPhaseOver_63 : decode cX7_isPhaseOver 63 = .ok (.aload_n 0, 1) := by decide +kernel
theorem dX7_isPhaseOver_64 : decode cX7_isPhaseOver 64 = .ok (.getfield 88, 3) := by decide +kernel
theorem dX7_isPhaseOver_67 : decode cX7_isPhaseOver 67 = .ok (.iload_n 1, 1) := by decide +kernel
theorem dX7_isPhaseOver_68 : decode cX7_isPhaseOver 68 = .ok (.iaload, 1) := by decide +kernel
theorem dX7_isPhaseOver_69 : decode cX7_isPhaseOver 69 = .ok (.aload_n 0, 1) := by decide +kernel
theorem dX7_isPhaseOver_70 : decode cX7_isPhaseOver 70 = .ok (.getfield 112, 3) := by decide +kernel
theorem dX7_isPhaseOver_73 : decode cX7_isPhaseOver 73 = .ok (.iload_n 1, 1) := by decide +kernel
theorem dX7_isPhaseOver_74 : decode cX7_isPhaseOver 74 = .ok (.iaload, 1) := by decide +kernel
theorem dX7_isPhaseOver_75 : decode cX7_isPhaseOver 75 = .ok (.if_icmp .le 7, 3) := by decide +kernel
theorem dX7_isPhaseOver_78 : decode cX7_isPhaseOver 78 = .ok (.iconst 1, 1) := by decide +kernel
theorem dX7_isPhaseOver_79 : decode cX7_isPhaseOver 79 = .ok (.goto 4, 3) := by decide +kernel
theorem dX7_isPhaseOver_82 : decode cX7_isPhaseOver 82 = .ok (.iconst 0, 1) := by decide +kernel
theorem dX7_isPhaseOver_83 : decode cX7_isPhaseOver 83 = .ok (.ireturn, 1) := by decide +kernel
theorem dX7_isPhaseOver_84 : decode cX7_isPhaseOver 84 = .ok (.iload_n 2, 1) := by decide +kernel
theorem dX7_isPhaseOver_85 : decode cX7_isPhaseOver 85 = .ok (.ifCond .ne 29, 3) := by decide +kernel
theorem dX7_isPhaseOver_88 : decode cX7_isPhaseOver 88 = .ok (.aload_n 0, 1) := by decide +kernel
theorem dX7_isPhaseOver_89 : decode cX7_isPhaseOver 89 = .ok (.getfield 106, 3) := by decide +kernel
theorem dX7_isPhaseOver_92 : decode cX7_isPhaseOver 92 = .ok (.iload_n 1, 1) := by decide +kernel
theorem dX7_isPhaseOver_93 : decode cX7_isPhaseOver 93 = .ok (.iaload, 1) := by decide +kernel
theorem dX7_isPhaseOver_94 : decode cX7_isPhaseOver 94 = .ok (.iconst 1, 1) := by decide +kernel
theorem dX7_isPhaseOver_95 : decode cX7_isPhaseOver 95 = .ok (.if_icmp .ne 23, 3) := by decide +kernel
theorem dX7_isPhaseOver_98 : decode cX7_isPhaseOver 98 = .ok (.aload_n 0, 1) := by decide +kernel
theorem dX7_isPhaseOver_99 : decode cX7_isPhaseOver 99 = .ok (.getfield 32, 3) := by decide +kernel
theorem dX7_isPhaseOver_102 : decode cX7_isPhaseOver 102 = .ok (.iload_n 1, 1) := by decide +kernel
theorem dX7_isPhaseOver_103 : decode cX7_isPhaseOver 103 = .ok (.iaload, 1) := by decide +kernel
theorem dX7_isPhaseOver_104 : decode cX7_isPhaseOver 104 = .ok (.i2l, 1) := by decide +kernel
theorem dX7_isPhaseOver_105 : decode cX7_isPhaseOver 105 = .ok (.aload_n 0, 1) := by decide +kernel
theorem dX7_isPhaseOver_106 : decode cX7_isPhaseOver 106 = .ok (.iload_n 1, 1) := by decide +kernel
theorem dX7_isPhaseOver_107 : decode cX7_isPhaseOver 107 = .ok (.invokevirtual 179, 3) := by decide +kernel
theorem dX7_isPhaseOver_110 : decode cX7_isPhaseOver 110 = .ok (.lcmp, 1) := by decide +kernel
theorem dX7_isPhaseOver_111 : decode cX7_isPhaseOver 111 = .ok (.ifCond .gt 7, 3) := by decide +kernel
theorem dX7_isPhaseOver_114 : decode cX7_isPhaseOver 114 = .ok (.iconst 1, 1) := by decide +kernel
theorem dX7_isPhaseOver_115 : decode cX7_isPhaseOver 115 = .ok (.goto 4, 3) := by decide +kernel
theorem dX7_isPhaseOver_118 : decode cX7_isPhaseOver 118 = .ok (.iconst 0, 1) := by decide +kernel
theorem dX7_isPhaseOver_119 : decode cX7_isPhaseOver 119 = .ok (.ireturn, 1) := by decide +kernel
set_option maxRecDepth 20000 in
theorem ggX7_probes_X7_comesTo : GoodIn wsX7_probes wsX7_comesTo := goodIn_r _ [10, 11, 12, 13, 3, 14, 23, 24, 25, 26, 27, 28, 29, 30, 31, 32, 33, 34, 35, 36, 37, 38, 39, 40, 41, 42, 43, 44, 45, 46, 47, 48, 49, 50, 51, 52, 53, 54, 55, 56, 57, 58, 59, 60, 61, 62, 63, 64, 65, 66, 67, 68, 69, 70, 71, 72] (by decide +kernel) (by decide +kernel)
set_option maxRecDepth 20000 in
theorem gX7_probes_X7_comesTo : GoodIn wsX7_probes (wsV RX7 213 RX7 yX7_comesTo wsX7_comesTo) := goodIn_app (goodIn_of _ (by decide +kernel)) ggX7_probes_X7_comesTo
set_option maxRecDepth 20000 in
theorem ggX7_probes_X7_comesToPhase : GoodIn wsX7_probes wsX7_comesToPhase := goodIn_r _ [18, 19, 20, 3, 21, 22, 23, 24, 25, 26, 27, 28, 29, 30, 31, 32, 33, 34, 35, 36, 37, 38, 39, 40, 41, 42, 43, 44, 45, 46, 47, 48, 49, 50, 51, 52, 53, 54, 55, 56, 57, 58, 59, 60, 61, 62, 63, 64, 65, 66, 67, 68, 69, 70, 71, 72] (by decide +kernel) (by decide +kernel)
set_option maxRecDepth 20000 in
theorem gX7_probes_X7_comesToPhase : GoodIn wsX7_probes (wsV RX7 216 RX7 yX7_comesToPhase wsX7_comesToPhase) := goodIn_app (goodIn_of _ (by decide +kernel)) ggX7_probes_X7_comesToPhase
theorem dX7_probes_0 : decode cX7_probes 0 = .ok (.aload_n 0, 1) := by decide +kernel
theorem dX7_probes_1 : decode cX7_probes 1 = .ok (.getfield 115, 3) := by decide +kernel
theorem dX7_probes_4 : decode cX7_probes 4 = .ok (.iload_n 1, 1) := by decide +kernel
theorem dX7_probes_5 : decode cX7_probes 5 = .ok (.iaload, 1) := by decide +kernel
theorem dX7_probes_6 : decode cX7_probes 6 = .ok (.bipush (-9), 2) := by decide +kernel
theorem dX7_probes_8 : decode cX7_probes 8 = .ok (.if_icmp .ne 35, 3) := by decide +kernel
theorem dX7_probes_11 : decode cX7_probes 11 = .ok (.aload_n 0, 1) := by decide +kernel
theorem dX7_probes_12 : decode cX7_probes 12 = .ok (.getfield 115, 3) := by decide +kernel
theorem dX7_probes_15 : decode cX7_probes 15 = .ok (.iload_n 1, 1) := by decide +kernel
theorem dX7_probes_16 : decode cX7_probes 16 = .ok (.aload_n 0, 1) := by decide +kernel
theorem dX7_probes_17 : decode cX7_probes 17 = .ok (.getfield 32, 3) := by decide +kernel
theorem dX7_probes_20 : decode cX7_probes 20 = .ok (.iload_n 1, 1) := by decide +kernel
theorem dX7_probes_21 : decode cX7_probes 21 = .ok (.iaload, 1) := by decide +kernel
theorem dX7_probes_22 : decode cX7_probes 22 = .ok (.iconst 4, 1) := by decide +kernel
theorem dX7_probes_23 : decode cX7_probes 23 = .ok (.if_icmp .gt 14, 3) := by decide +kernel
theorem dX7_probes_26 : decode cX7_probes 26 = .ok (.aload_n 0, 1) := by decide +kernel
theorem dX7_probes_27 : decode cX7_probes 27 = .ok (.getfield 146, 3) := by decide +kernel
theorem dX7_probes_30 : decode cX7_probes 30 = .ok (.sipush 200, 3) := by decide +kernel
theorem dX7_probes_33 : decode cX7_probes 33 = .ok (.iadd, 1) := by decide +kernel
theorem dX7_probes_34 : decode cX7_probes 34 = .ok (.goto 5, 3) := by decide +kernel
theorem dX7_probes_37 : decode cX7_probes 37 = .ok (.bipush (-9), 2) := by decide +kernel
theorem dX7_probes_39 : decode cX7_probes 39 = .ok (.iastore, 1) := by decide +kernel
theorem dX7_probes_40 : decode cX7_probes 40 = .ok (.goto 64, 3) := by decide +kernel
theorem dX7_probes_43 : decode cX7_probes 43 = .ok (.aload_n 0, 1) := by decide +kernel
theorem dX7_probes_44 : decode cX7_probes 44 = .ok (.getfield 146, 3) := by decide +kernel
theorem dX7_probes_47 : decode cX7_probes 47 = .ok (.aload_n 0, 1) := by decide +kernel
theorem dX7_probes_48 : decode cX7_probes 48 = .ok (.getfield 115, 3) := by decide +kernel
theorem dX7_probes_51 : decode cX7_probes 51 = .ok (.iload_n 1, 1) := by decide +kernel
theorem dX7_probes_52 : decode cX7_probes 52 = .ok (.iaload, 1) := by decide +kernel
theorem dX7_probes_53 : decode cX7_probes 53 = .ok (.if_icmp .lt 51, 3) := by decide +kernel
theorem dX7_probes_56 : decode cX7_probes 56 = .ok (.aload_n 0, 1) := by decide +kernel
theorem dX7_probes_57 : decode cX7_probes 57 = .ok (.getfield 81, 3) := by decide +kernel
theorem dX7_probes_60 : decode cX7_probes 60 = .ok (.iload_n 1, 1) := by decide +kernel
theorem dX7_probes_61 : decode cX7_probes 61 = .ok (.aload_n 0, 1) := by decide +kernel
theorem dX7_probes_62 : decode cX7_probes 62 = .ok (.getfield 146, 3) := by decide +kernel
theorem dX7_probes_65 : decode cX7_probes 65 = .ok (.iastore, 1) := by decide +kernel
theorem dX7_probes_66 : decode cX7_probes 66 = .ok (.aload_n 0, 1) := by decide +kernel
theorem dX7_probes_67 : decode cX7_probes 67 = .ok (.getfield 115, 3) := by decide +kernel
theorem dX7_probes_70 : decode cX7_probes 70 = .ok (.iload_n 1, 1) := by decide +kernel
theorem dX7_probes_71 : decode cX7_probes 71 = .ok (.bipush (-9), 2) := by decide +kernel
theorem dX7_probes_73 : decode cX7_probes 73 = .ok (.iastore, 1) := by decide +kernel
theorem dX7_probes_74 : decode cX7_probes 74 = .ok (.aload_n 0, 1) := by decide +kernel
theorem dX7_probes_75 : decode cX7_probes 75 = .ok (.getfield 118, 3) := by decide +kernel
theorem dX7_probes_78 : decode cX7_probes 78 = .ok (.iload_n 1, 1) := by decide +kernel
theorem dX7_probes_79 : decode cX7_probes 79 = .ok (.baload, 1) := by decide +kernel
theorem dX7_probes_80 : decode cX7_probes 80 = .ok (.ifCond .eq 18, 3) := by decide +kernel
theorem dX7_probes_83 : decode cX7_probes 83 = .ok (.aload_n 0, 1) := by decide +kernel
theorem dX7_probes_84 : decode cX7_probes 84 = .ok (.iload_n 1, 1) := by decide +kernel
theorem dX7_probes_85 : decode cX7_probes 85 = .ok (.iconst 2, 1) := by decide +kernel
theorem dX7_probes_86 : decode cX7_probes 86 = .ok (.invokevirtual 213, 3) := by decide +kernel
theorem dX7_probes_89 : decode cX7_probes 89 = .ok (.aload_n 0, 1) := by decide +kernel
theorem dX7_probes_90 : decode cX7_probes 90 = .ok (.iload_n 1, 1) := by decide +kernel
theorem dX7_probes_91 : decode cX7_probes 91 = .ok (.iconst 2, 1) := by decide +kernel
theorem dX7_probes_92 : decode cX7_probes 92 = .ok (.invokevirtual 216, 3) := by decide +kernel
theorem dX7_probes_95 : decode cX7_probes 95 = .ok (.goto 9, 3) := by decide +kernel
theorem dX7_probes_98 : decode cX7_probes 98 = .ok (.aload_n 0, 1) := by decide +kernel
theorem dX7_probes_99 : decode cX7_probes 99 = .ok (.iload_n 1, 1) := by decide +kernel
theorem dX7_probes_100 : decode cX7_probes 100 = .ok (.iconst 0, 1) := by decide +kernel
theorem dX7_probes_101 : decode cX7_probes 101 = .ok (.invokevirtual 213, 3) := by decide +kernel
theorem dX7_probes_104 : decode cX7_probes 104 = .ok (.return_, 1) := by decide +kernel
set_option maxRecDepth 20000 in
theorem ggX7_changesState_X7_starts : GoodIn wsX7_changesState wsX7_starts := goodIn_r _ [10, 11, 12, 13, 14, 15, 2, 48, 49, 50, 51, 52, 53, 54, 55, 56, 57, 58, 59, 60, 61, 62, 63, 64, 65, 66, 67, 68, 69, 70, 71, 72, 73, 74, 75, 76, 77, 78, 79, 80, 81, 82, 83, 84, 85, 86, 87, 88, 89, 90, 91, 92, 93, 94, 95, 96, 97] (by decide +kernel) (by decide +kernel)
set_option maxRecDepth 20000 in
theorem gX7_changesState_X7_starts : GoodIn wsX7_changesState (wsV RX7 219 RX7 yX7_starts wsX7_starts) := goodIn_app (goodIn_of _ (by decide +kernel)) ggX7_changesState_X7_starts
set_option maxRecDepth 20000 in
theorem ggX7_changesState_X7_comesTo : GoodIn wsX7_changesState wsX7_comesTo := goodIn_r _ [19, 20, 21, 22, 23, 1, 48, 49, 50, 51, 52, 53, 54, 55, 56, 57, 58, 59, 60, 61, 62, 63, 64, 65, 66, 67, 68, 69, 70, 71, 72, 73, 74, 75, 76, 77, 78, 79, 80, 81, 82, 83, 84, 85, 86, 87, 88, 89, 90, 91, 92, 93, 94, 95, 96, 97] (by decide +kernel) (by decide +kernel)
set_option maxRecDepth 20000 in
theorem gX7_changesState_X7_comesTo : GoodIn wsX7_changesState (wsV RX7 213 RX7 yX7_comesTo wsX7_comesTo) := goodIn_app (goodIn_of _ (by decide +kernel)) ggX7_changesState_X7_comesTo
set_option maxRecDepth 20000 in
theorem ggX7_changesState_X7_product : GoodIn wsX7_changesState wsX7_product := goodIn_r _ [27, 28, 12, 29, 48, 49, 50, 51, 52, 53, 54, 55, 56, 57, 58, 59, 60, 61, 62, 63, 64, 65, 66, 67, 68, 69, 70, 71, 72, 73, 74, 75, 76, 77, 78, 79, 80, 81, 82, 83, 84, 85, 86, 87, 88, 89, 90, 91, 92, 93, 94, 95, 96, 97] (by decide +kernel) (by decide +kernel)
set_option maxRecDepth 20000 in
theorem gX7_changesState_X7_product : GoodIn wsX7_changesState (wsV RX7 179 RX7 yX7_product wsX7_product) := goodIn_app (goodIn_of _ (by decide +kernel)) ggX7_changesState_X7_product
set_option maxRecDepth 20000 in
theorem ggX7_changesState_X7_comesToPhase : GoodIn wsX7_changesState wsX7_comesToPhase := goodIn_r _ [33, 4, 34, 23, 35, 36, 48, 49, 50, 51, 52, 53, 54, 55, 56, 57, 58, 59, 60, 61, 62, 63, 64, 65, 66, 67, 68, 69, 70, 71, 72, 73, 74, 75, 76, 77, 78, 79, 80, 81, 82, 83, 84, 85, 86, 87, 88, 89, 90, 91, 92, 93, 94, 95, 96, 97] (by decide +kernel) (by decide +kernel)
set_option maxRecDepth 20000 in
theorem gX7_changesState_X7_comesToPhase : GoodIn wsX7_changesState (wsV RX7 216 RX7 yX7_comesToPhase wsX7_comesToPhase) := goodIn_app (goodIn_of _ (by decide +kernel)) ggX7_changesState_X7_comesToPhase
set_option maxRecDepth 20000 in
theorem ggX7_changesState_X7_isPhaseOver : GoodIn wsX7_changesState wsX7_isPhaseOver := goodIn_r _ [40, 23, 34, 28, 4, 41, 3, 42, 36, 35, 24, 25, 26, 9, 27, 12, 29, 48, 49, 50, 51, 52, 53, 54, 55, 56, 57, 58, 59, 60, 61, 62, 63, 64, 65, 66, 67, 68, 69, 70, 71, 72, 73, 74, 75, 76, 77, 78, 79, 80, 81, 82, 83, 84, 85, 86, 87, 88, 89, 90, 91, 92, 93, 94, 95, 96, 97] (by decide +kernel) (by decide +kernel)
set_option maxRecDepth 20000 in
theorem gX7_changesState_X7_isPhaseOver : GoodIn wsX7_changesState (wsV RX7 223 RX7 yX7_isPhaseOver wsX7_isPhaseOver) := goodIn_app (goodIn_of _ (by decide +kernel)) ggX7_changesState_X7_isPhaseOver
set_option maxRecDepth 20000 in
theorem ggX7_changesState_X7_probes : GoodIn wsX7_changesState wsX7_probes := goodIn_r _ [46, 5, 3, 23, 47, 2, 16, 17, 18, 9, 19, 20, 21, 22, 1, 30, 31, 32, 33, 4, 34, 35, 36, 48, 49, 50, 51, 52, 53, 54, 55, 56, 57, 58, 59, 60, 61, 62, 63, 64, 65, 66, 67, 68, 69, 70, 71, 72, 73, 74, 75, 76, 77, 78, 79, 80, 81, 82, 83, 84, 85, 86, 87, 88, 89, 90, 91, 92, 93, 94, 95, 96, 97] (by decide +kernel) (by decide +kernel)
set_option maxRecDepth 20000 in
theorem gX7_changesState_X7_probes : GoodIn wsX7_changesState (wsV RX7 226 RX7 yX7_probes wsX7_probes) := goodIn_app (goodIn_of _ (by decide +kernel)) ggX7_changesState_X7_probes
theorem dX7_changesState_0 : decode cX7_changesState 0 = .ok (.aload_n 0, 1) := by decide +kernel
theorem dX7_changesState_1 : decode cX7_changesState 1 = .ok (.getfield 103, 3) := by decide +kernel
theorem dX7_changesState_4 : decode cX7_changesState 4 = .ok (.iload_n 1, 1) := by decide +kernel
theorem dX7_changesState_5 : decode cX7_changesState 5 = .ok (.iaload, 1) := by decide +kernel
theorem dX7_changesState_6 : decode cX7_changesState 6 = .ok (.ifCond .ne 10, 3) := by decide +kernel
theorem dX7_changesState_9 : decode cX7_changesState 9 = .ok (.aload_n 0, 1) := by decide +kernel
theorem dX7_changesState_10 : decode cX7_changesState 10 = .ok (.iload_n 1, 1) := by decide +kernel
theorem dX7_changesState_11 : decode cX7_changesState 11 = .ok (.iload_n 2, 1) := by decide +kernel
theorem dX7_changesState_12 : decode cX7_changesState 12 = .ok (.iload_n 3, 1) := by decide +kernel
theorem dX7_changesState_13 : decode cX7_changesState 13 = .ok (.invokevirtual 219, 3) := by decide +kernel
theorem dX7_changesState_16 : decode cX7_changesState 16 = .ok (.aload_n 0, 1) := by decide +kernel
theorem dX7_changesState_17 : decode cX7_changesState 17 = .ok (.getfield 103, 3) := by decide +kernel
theorem dX7_changesState_20 : decode cX7_changesState 20 = .ok (.iload_n 1, 1) := by decide +kernel
theorem dX7_changesState_21 : decode cX7_changesState 21 = .ok (.iaload, 1) := by decide +kernel
theorem dX7_changesState_22 : decode cX7_changesState 22 = .ok (.ifCond .ne 18, 3) := by decide +kernel
theorem dX7_changesState_25 : decode cX7_changesState 25 = .ok (.aload_n 0, 1) := by decide +kernel
theorem dX7_changesState_26 : decode cX7_changesState 26 = .ok (.getfield 118, 3) := by decide +kernel
theorem dX7_changesState_29 : decode cX7_changesState 29 = .ok (.iload_n 1, 1) := by decide +kernel
theorem dX7_changesState_30 : decode cX7_changesState 30 = .ok (.baload, 1) := by decide +kernel
theorem dX7_changesState_31 : decode cX7_changesState 31 = .ok (.ifCond .eq 9, 3) := by decide +kernel
theorem dX7_changesState_34 : decode cX7_changesState 34 = .ok (.aload_n 0, 1) := by decide +kernel
theorem dX7_changesState_35 : decode cX7_changesState 35 = .ok (.iload_n 1, 1) := by decide +kernel
theorem dX7_changesState_36 : decode cX7_changesState 36 = .ok (.iconst 1, 1) := by decide +kernel
theorem dX7_changesState_37 : decode cX7_changesState 37 = .ok (.invokevirtual 213, 3) := by decide +kernel
theorem dX7_changesState_40 : decode cX7_changesState 40 = .ok (.aload_n 0, 1) := by decide +kernel
theorem dX7_changesState_41 : decode cX7_changesState 41 = .ok (.getfield 103, 3) := by decide +kernel
theorem dX7_changesState_44 : decode cX7_changesState 44 = .ok (.iload_n 1, 1) := by decide +kernel
theorem dX7_changesState_45 : decode cX7_changesState 45 = .ok (.iaload, 1) := by decide +kernel
theorem dX7_changesState_46 : decode cX7_changesState 46 = .ok (.iconst 1, 1) := by decide +kernel
theorem dX7_changesState_47 : decode cX7_changesState 47 = .ok (.if_icmp .ne 31, 3) := by decide +kernel
theorem dX7_changesState_50 : decode cX7_changesState 50 = .ok (.aload_n 0, 1) := by decide +kernel
theorem dX7_changesState_51 : decode cX7_changesState 51 = .ok (.getfield 32, 3) := by decide +kernel
theorem dX7_changesState_54 : decode cX7_changesState 54 = .ok (.iload_n 1, 1) := by decide +kernel
theorem dX7_changesState_55 : decode cX7_changesState 55 = .ok (.iaload, 1) := by decide +kernel
theorem dX7_changesState_56 : decode cX7_changesState 56 = .ok (.i2l, 1) := by decide +kernel
theorem dX7_changesState_57 : decode cX7_changesState 57 = .ok (.aload_n 0, 1) := by decide +kernel
theorem dX7_changesState_58 : decode cX7_changesState 58 = .ok (.iload_n 1, 1) := by decide +kernel
theorem dX7_changesState_59 : decode cX7_changesState 59 = .ok (.invokevirtual 179, 3) := by decide +kernel
theorem dX7_changesState_62 : decode cX7_changesState 62 = .ok (.lcmp, 1) := by decide +kernel
theorem dX7_changesState_63 : decode cX7_changesState 63 = .ok (.ifCond .gt 15, 3) := by decide +kernel
theorem dX7_changesState_66 : decode cX7_changesState 66 = .ok (.aload_n 0, 1) := by decide +kernel
theorem dX7_changesState_67 : decode cX7_changesState 67 = .ok (.iload_n 1, 1) := by decide +kernel
theorem dX7_changesState_68 : decode cX7_changesState 68 = .ok (.iconst 2, 1) := by decide +kernel
theorem dX7_changesState_69 : decode cX7_changesState 69 = .ok (.invokevirtual 213, 3) := by decide +kernel
theorem dX7_changesState_72 : decode cX7_changesState 72 = .ok (.aload_n 0, 1) := by decide +kernel
theorem dX7_changesState_73 : decode cX7_changesState 73 = .ok (.iload_n 1, 1) := by decide +kernel
theorem dX7_changesState_74 : decode cX7_changesState 74 = .ok (.iconst 2, 1) := by decide +kernel
theorem dX7_changesState_75 : decode cX7_changesState 75 = .ok (.invokevirtual 216, 3) := by decide +kernel
theorem dX7_changesState_78 : decode cX7_changesState 78 = .ok (.aload_n 0, 1) := by decide +kernel
theorem dX7_changesState_79 : decode cX7_changesState 79 = .ok (.getfield 103, 3) := by decide +kernel
theorem dX7_changesState_82 : decode cX7_changesState 82 = .ok (.iload_n 1, 1) := by decide +kernel
theorem dX7_changesState_83 : decode cX7_changesState 83 = .ok (.iaload, 1) := by decide +kernel
theorem dX7_changesState_84 : decode cX7_changesState 84 = .ok (.iconst 2, 1) := by decide +kernel
theorem dX7_changesState_85 : decode cX7_changesState 85 = .ok (.if_icmp .ne 27, 3) := by decide +kernel
theorem dX7_changesState_88 : decode cX7_changesState 88 = .ok (.aload_n 0, 1) := by decide +kernel
theorem dX7_changesState_89 : decode cX7_changesState 89 = .ok (.iload_n 1, 1) := by decide +kernel
theorem dX7_changesState_90 : decode cX7_changesState 90 = .ok (.invokevirtual 223, 3) := by decide +kernel
theorem dX7_changesState_93 : decode cX7_changesState 93 = .ok (.ifCond .eq 19, 3) := by decide +kernel
theorem dX7_changesState_96 : decode cX7_changesState 96 = .ok (.aload_n 0, 1) := by decide +kernel
theorem dX7_changesState_97 : decode cX7_changesState 97 = .ok (.iload_n 1, 1) := by decide +kernel
theorem dX7_changesState_98 : decode cX7_changesState 98 = .ok (.aload_n 0, 1) := by decide +kernel
theorem dX7_changesState_99 : decode cX7_changesState 99 = .ok (.getfield 106, 3) := by decide +kernel
theorem dX7_changesState_102 : decode cX7_changesState 102 = .ok (.iload_n 1, 1) := by decide +kernel
theorem dX7_changesState_103 : decode cX7_changesState 103 = .ok (.iaload, 1) := by decide +kernel
theorem dX7_changesState_104 : decode cX7_changesState 104 = .ok (.iconst 1, 1) := by decide +kernel
theorem dX7_changesState_105 : decode cX7_changesState 105 = .ok (.iadd, 1) := by decide +kernel
theorem dX7_changesState_106 : decode cX7_changesState 106 = .ok (.bipush 8, 2) := by decide +kernel
theorem dX7_changesState_108 : decode cX7_changesState 108 = .ok (.irem, 1) := by decide +kernel
theorem dX7_changesState_109 : decode cX7_changesState 109 = .ok (.invokevirtual 216, 3) := by decide +kernel
theorem dX7_changesState_112 : decode cX7_changesState 112 = .ok (.aload_n 0, 1) := by decide +kernel
theorem dX7_changesState_113 : decode cX7_changesState 113 = .ok (.getfield 103, 3) := by decide +kernel
theorem dX7_changesState_116 : decode cX7_changesState 116 = .ok (.iload_n 1, 1) := by decide +kernel
theorem dX7_changesState_117 : decode cX7_changesState 117 = .ok (.iaload, 1) := by decide +kernel
theorem dX7_changesState_118 : decode cX7_changesState 118 = .ok (.iconst 3, 1) := by decide +kernel
theorem dX7_changesState_119 : decode cX7_changesState 119 = .ok (.if_icmp .ne 11, 3) := by decide +kernel
theorem dX7_changesState_122 : decode cX7_changesState 122 = .ok (.aload_n 0, 1) := by decide +kernel
theorem dX7_changesState_123 : decode cX7_changesState 123 = .ok (.iload_n 1, 1) := by decide +kernel
theorem dX7_changesState_124 : decode cX7_changesState 124 = .ok (.invokevirtual 226, 3) := by decide +kernel
theorem dX7_changesState_127 : decode cX7_changesState 127 = .ok (.goto 22, 3) := by decide +kernel
theorem dX7_changesState_130 : decode cX7_changesState 130 = .ok (.iload 4, 2) := by decide +kernel
theorem dX7_changesState_132 : decode cX7_changesState 132 = .ok (.ifCond .eq 17, 3) := by decide +kernel
theorem dX7_changesState_135 : decode cX7_changesState 135 = .ok (.aload_n 0, 1) := by decide +kernel
theorem dX7_changesState_136 : decode cX7_changesState 136 = .ok (.iload_n 1, 1) := by decide +kernel
theorem dX7_changesState_137 : decode cX7_changesState 137 = .ok (.iconst 3, 1) := by decide +kernel
theorem dX7_changesState_138 : decode cX7_changesState 138 = .ok (.invokevirtual 213, 3) := by decide +kernel
theorem dX7_changesState_141 : decode cX7_changesState 141 = .ok (.aload_n 0, 1) := by decide +kernel
theorem dX7_changesState_142 : decode cX7_changesState 142 = .ok (.getfield 115, 3) := by decide +kernel
theorem dX7_changesState_145 : decode cX7_changesState 145 = .ok (.iload_n 1, 1) := by decide +kernel
theorem dX7_changesState_146 : decode cX7_changesState 146 = .ok (.bipush (-9), 2) := by decide +kernel
theorem dX7_changesState_148 : decode cX7_changesState 148 = .ok (.iastore, 1) := by decide +kernel
theorem dX7_changesState_149 : decode cX7_changesState 149 = .ok (.return_, 1) := by decide +kernel
set_option maxRecDepth 20000 in
theorem ggX7_takes_X7_takesOff : GoodIn wsX7_takes wsX7_takesOff := goodIn_r _ [19, 20, 21, 1, 2, 3, 4, 22, 84, 85, 86, 87, 88, 89, 90, 91, 92, 93, 94, 95, 96, 97, 98, 99, 100, 101, 102, 103, 104, 105, 106, 107, 108, 109, 110, 111, 112, 113, 114, 115, 116, 117, 118, 119, 120, 121, 122, 123, 124, 125, 126, 127, 128, 129, 130, 131, 132, 133] (by decide +kernel) (by decide +kernel)
set_option maxRecDepth 20000 in
theorem gX7_takes_X7_takesOff : GoodIn wsX7_takes (wsV RX7 230 RX7 yX7_takesOff wsX7_takesOff) := goodIn_app (goodIn_of _ (by decide +kernel)) ggX7_takes_X7_takesOff
set_option maxRecDepth 20000 in
theorem ggX7_takes_X7_keepsSample : GoodIn wsX7_takes wsX7_keepsSample := goodIn_r _ [26, 27, 28, 29, 11, 30, 12, 84, 85, 86, 87, 88, 89, 90, 91, 92, 93, 94, 95, 96, 97, 98, 99, 100, 101, 102, 103, 104, 105, 106, 107, 108, 109, 110, 111, 112, 113, 114, 115, 116, 117, 118, 119, 120, 121, 122, 123, 124, 125, 126, 127, 128, 129, 130, 131, 132, 133] (by decide +kernel) (by decide +kernel)
set_option maxRecDepth 20000 in
theorem gX7_takes_X7_keepsSample : GoodIn wsX7_takes (wsV RX7 236 RX7 yX7_keepsSample wsX7_keepsSample) := goodIn_app (goodIn_of _ (by decide +kernel)) ggX7_takes_X7_keepsSample
set_option maxRecDepth 20000 in
theorem ggX7_takes_X7_letsGo : GoodIn wsX7_takes wsX7_letsGo := goodIn_r _ [34, 28, 29, 27, 11, 30, 12, 35, 36, 37, 18, 38, 84, 85, 86, 87, 88, 89, 90, 91, 92, 93, 94, 95, 96, 97, 98, 99, 100, 101, 102, 103, 104, 105, 106, 107, 108, 109, 110, 111, 112, 113, 114, 115, 116, 117, 118, 119, 120, 121, 122, 123, 124, 125, 126, 127, 128, 129, 130, 131, 132, 133] (by decide +kernel) (by decide +kernel)
set_option maxRecDepth 20000 in
theorem gX7_takes_X7_letsGo : GoodIn wsX7_takes (wsV RX7 239 RX7 yX7_letsGo wsX7_letsGo) := goodIn_app (goodIn_of _ (by decide +kernel)) ggX7_takes_X7_letsGo
set_option maxRecDepth 20000 in
theorem ggX7_takes_X7_changesState : GoodIn wsX7_takes wsX7_changesState := goodIn_r _ [42, 43, 44, 20, 45, 46, 47, 48, 49, 18, 50, 51, 12, 52, 53, 54, 55, 56, 57, 58, 59, 60, 61, 8, 62, 63, 64, 65, 13, 66, 67, 68, 69, 70, 71, 72, 73, 74, 75, 76, 77, 78, 79, 80, 81, 82, 83, 14, 84, 85, 86, 87, 88, 89, 90, 91, 92, 93, 94, 95, 96, 97, 98, 99, 100, 101, 102, 103, 104, 105, 106, 107, 108, 109, 110, 111, 112, 113, 114, 115, 116, 117, 118, 119, 120, 121, 122, 123, 124, 125, 126, 127, 128, 129, 130, 131, 132, 133] (by decide +kernel) (by decide +kernel)
set_option maxRecDepth 20000 in
theorem gX7_takes_X7_changesState : GoodIn wsX7_takes (wsV RX7 242 RX7 yX7_changesState wsX7_changesState) := goodIn_app (goodIn_of _ (by decide +kernel)) ggX7_takes_X7_changesState
theorem dX7_takes_0 : decode cX7_takes 0 = .ok (.sipush 512, 3) := by decide +kernel
theorem dX7_takes_3 : decode cX7_takes 3 = .ok (.iload_n 1, 1) := by decide +kernel
theorem dX7_takes_4 : decode cX7_takes 4 = .ok (.imul, 1) := by decide +kernel
theorem dX7_takes_5 : decode cX7_takes 5 = .ok (.iload_n 2, 1) := by decide +kernel
theorem dX7_takes_6 : decode cX7_takes 6 = .ok (.iadd, 1) := by decide +kernel
theorem dX7_takes_7 : decode cX7_takes 7 = .ok (.istore_n 3, 1) := by decide +kernel
theorem dX7_takes_8 : decode cX7_takes 8 = .ok (.aload_n 0, 1) := by decide +kernel
theorem dX7_takes_9 : decode cX7_takes 9 = .ok (.getfield 38, 3) := by decide +kernel
theorem dX7_takes_12 : decode cX7_takes 12 = .ok (.iload_n 3, 1) := by decide +kernel
theorem dX7_takes_13 : decode cX7_takes 13 = .ok (.iaload, 1) := by decide +kernel
theorem dX7_takes_14 : decode cX7_takes 14 = .ok (.istore 4, 2) := by decide +kernel
theorem dX7_takes_16 : decode cX7_takes 16 = .ok (.aload_n 0, 1) := by decide +kernel
theorem dX7_takes_17 : decode cX7_takes 17 = .ok (.getfield 41, 3) := by decide +kernel
theorem dX7_takes_20 : decode cX7_takes 20 = .ok (.iload_n 3, 1) := by decide +kernel
theorem dX7_takes_21 : decode cX7_takes 21 = .ok (.iaload, 1) := by decide +kernel
theorem dX7_takes_22 : decode cX7_takes 22 = .ok (.istore 5, 2) := by decide +kernel
theorem dX7_takes_24 : decode cX7_takes 24 = .ok (.aload_n 0, 1) := by decide +kernel
theorem dX7_takes_25 : decode cX7_takes 25 = .ok (.getfield 44, 3) := by decide +kernel
theorem dX7_takes_28 : decode cX7_takes 28 = .ok (.iload_n 3, 1) := by decide +kernel
theorem dX7_takes_29 : decode cX7_takes 29 = .ok (.iaload, 1) := by decide +kernel
theorem dX7_takes_30 : decode cX7_takes 30 = .ok (.istore 6, 2) := by decide +kernel
theorem dX7_takes_32 : decode cX7_takes 32 = .ok (.aload_n 0, 1) := by decide +kernel
theorem dX7_takes_33 : decode cX7_takes 33 = .ok (.getfield 47, 3) := by decide +kernel
theorem dX7_takes_36 : decode cX7_takes 36 = .ok (.iload_n 3, 1) := by decide +kernel
theorem dX7_takes_37 : decode cX7_takes 37 = .ok (.baload, 1) := by decide +kernel
theorem dX7_takes_38 : decode cX7_takes 38 = .ok (.istore 7, 2) := by decide +kernel
theorem dX7_takes_40 : decode cX7_takes 40 = .ok (.aload_n 0, 1) := by decide +kernel
theorem dX7_takes_41 : decode cX7_takes 41 = .ok (.iload_n 1, 1) := by decide +kernel
theorem dX7_takes_42 : decode cX7_takes 42 = .ok (.iload_n 2, 1) := by decide +kernel
theorem dX7_takes_43 : decode cX7_takes 43 = .ok (.invokevirtual 230, 3) := by decide +kernel
theorem dX7_takes_46 : decode cX7_takes 46 = .ok (.aload_n 0, 1) := by decide +kernel
theorem dX7_takes_47 : decode cX7_takes 47 = .ok (.dup, 1) := by decide +kernel
theorem dX7_takes_48 : decode cX7_takes 48 = .ok (.getfield 233, 3) := by decide +kernel
theorem dX7_takes_51 : decode cX7_takes 51 = .ok (.iconst 1, 1) := by decide +kernel
theorem dX7_takes_52 : decode cX7_takes 52 = .ok (.iadd, 1) := by decide +kernel
theorem dX7_takes_53 : decode cX7_takes 53 = .ok (.putfield 233, 3) := by decide +kernel
theorem dX7_takes_56 : decode cX7_takes 56 = .ok (.aload_n 0, 1) := by decide +kernel
theorem dX7_takes_57 : decode cX7_takes 57 = .ok (.getfield 60, 3) := by decide +kernel
theorem dX7_takes_60 : decode cX7_takes 60 = .ok (.iload_n 1, 1) := by decide +kernel
theorem dX7_takes_61 : decode cX7_takes 61 = .ok (.dup2, 1) := by decide +kernel
theorem dX7_takes_62 : decode cX7_takes 62 = .ok (.iaload, 1) := by decide +kernel
theorem dX7_takes_63 : decode cX7_takes 63 = .ok (.iconst 1, 1) := by decide +kernel
theorem dX7_takes_64 : decode cX7_takes 64 = .ok (.iadd, 1) := by decide +kernel
theorem dX7_takes_65 : decode cX7_takes 65 = .ok (.iastore, 1) := by decide +kernel
theorem dX7_takes_66 : decode cX7_takes 66 = .ok (.aload_n 0, 1) := by decide +kernel
theorem dX7_takes_67 : decode cX7_takes 67 = .ok (.getfield 63, 3) := by decide +kernel
theorem dX7_takes_70 : decode cX7_takes 70 = .ok (.iload_n 1, 1) := by decide +kernel
theorem dX7_takes_71 : decode cX7_takes 71 = .ok (.aload_n 0, 1) := by decide +kernel
theorem dX7_takes_72 : decode cX7_takes 72 = .ok (.getfield 146, 3) := by decide +kernel
theorem dX7_takes_75 : decode cX7_takes 75 = .ok (.iastore, 1) := by decide +kernel
theorem dX7_takes_76 : decode cX7_takes 76 = .ok (.aload_n 0, 1) := by decide +kernel
theorem dX7_takes_77 : decode cX7_takes 77 = .ok (.getfield 66, 3) := by decide +kernel
theorem dX7_takes_80 : decode cX7_takes 80 = .ok (.iload_n 1, 1) := by decide +kernel
theorem dX7_takes_81 : decode cX7_takes 81 = .ok (.aload_n 0, 1) := by decide +kernel
theorem dX7_takes_82 : decode cX7_takes 82 = .ok (.getfield 60, 3) := by decide +kernel
theorem dX7_takes_85 : decode cX7_takes 85 = .ok (.iload_n 1, 1) := by decide +kernel
theorem dX7_takes_86 : decode cX7_takes 86 = .ok (.iaload, 1) := by decide +kernel
theorem dX7_takes_87 : decode cX7_takes 87 = .ok (.aload_n 0, 1) := by decide +kernel
theorem dX7_takes_88 : decode cX7_takes 88 = .ok (.getfield 66, 3) := by decide +kernel
theorem dX7_takes_91 : decode cX7_takes 91 = .ok (.iload_n 1, 1) := by decide +kernel
theorem dX7_takes_92 : decode cX7_takes 92 = .ok (.iaload, 1) := by decide +kernel
theorem dX7_takes_93 : decode cX7_takes 93 = .ok (.if_icmp .le 7, 3) := by decide +kernel
theorem dX7_takes_96 : decode cX7_takes 96 = .ok (.iconst 0, 1) := by decide +kernel
theorem dX7_takes_97 : decode cX7_takes 97 = .ok (.goto 9, 3) := by decide +kernel
theorem dX7_takes_100 : decode cX7_takes 100 = .ok (.aload_n 0, 1) := by decide +kernel
theorem dX7_takes_101 : decode cX7_takes 101 = .ok (.getfield 66, 3) := by decide +kernel
theorem dX7_takes_104 : decode cX7_takes 104 = .ok (.iload_n 1, 1) := by decide +kernel
theorem dX7_takes_105 : decode cX7_takes 105 = .ok (.iaload, 1) := by decide +kernel
theorem dX7_takes_106 : decode cX7_takes 106 = .ok (.iastore, 1) := by decide +kernel
theorem dX7_takes_107 : decode cX7_takes 107 = .ok (.iload 5, 2) := by decide +kernel
theorem dX7_takes_109 : decode cX7_takes 109 = .ok (.aload_n 0, 1) := by decide +kernel
theorem dX7_takes_110 : decode cX7_takes 110 = .ok (.getfield 72, 3) := by decide +kernel
theorem dX7_takes_113 : decode cX7_takes 113 = .ok (.iload_n 1, 1) := by decide +kernel
theorem dX7_takes_114 : decode cX7_takes 114 = .ok (.iaload, 1) := by decide +kernel
theorem dX7_takes_115 : decode cX7_takes 115 = .ok (.if_icmp .lt 7, 3) := by decide +kernel
theorem dX7_takes_118 : decode cX7_takes 118 = .ok (.iconst 1, 1) := by decide +kernel
theorem dX7_takes_119 : decode cX7_takes 119 = .ok (.goto 4, 3) := by decide +kernel
theorem dX7_takes_122 : decode cX7_takes 122 = .ok (.iconst 0, 1) := by decide +kernel
theorem dX7_takes_123 : decode cX7_takes 123 = .ok (.istore 8, 2) := by decide +kernel
theorem dX7_takes_125 : decode cX7_takes 125 = .ok (.iload 8, 2) := by decide +kernel
theorem dX7_takes_127 : decode cX7_takes 127 = .ok (.ifCond .eq 25, 3) := by decide +kernel
theorem dX7_takes_130 : decode cX7_takes 130 = .ok (.aload_n 0, 1) := by decide +kernel
theorem dX7_takes_131 : decode cX7_takes 131 = .ok (.getfield 69, 3) := by decide +kernel
theorem dX7_takes_134 : decode cX7_takes 134 = .ok (.iload_n 1, 1) := by decide +kernel
theorem dX7_takes_135 : decode cX7_takes 135 = .ok (.dup2, 1) := by decide +kernel
theorem dX7_takes_136 : decode cX7_takes 136 = .ok (.iaload, 1) := by decide +kernel
theorem dX7_takes_137 : decode cX7_takes 137 = .ok (.iconst 1, 1) := by decide +kernel
theorem dX7_takes_138 : decode cX7_takes 138 = .ok (.iadd, 1) := by decide +kernel
theorem dX7_takes_139 : decode cX7_takes 139 = .ok (.iastore, 1) := by decide +kernel
theorem dX7_takes_140 : decode cX7_takes 140 = .ok (.aload_n 0, 1) := by decide +kernel
theorem dX7_takes_141 : decode cX7_takes 141 = .ok (.getfield 72, 3) := by decide +kernel
theorem dX7_takes_144 : decode cX7_takes 144 = .ok (.iload_n 1, 1) := by decide +kernel
theorem dX7_takes_145 : decode cX7_takes 145 = .ok (.aload_n 0, 1) := by decide +kernel
theorem dX7_takes_146 : decode cX7_takes 146 = .ok (.getfield 60, 3) := by decide +kernel
theorem dX7_takes_149 : decode cX7_takes 149 = .ok (.iload_n 1, 1) := by decide +kernel
theorem dX7_takes_150 : decode cX7_takes 150 = .ok (.iaload, 1) := by decide +kernel
theorem dX7_takes_151 : decode cX7_takes 151 = .ok (.iastore, 1) := by decide +kernel
theorem dX7_takes_152 : decode cX7_takes 152 = .ok (.aload_n 0, 1) := by decide +kernel
theorem dX7_takes_153 : decode cX7_takes 153 = .ok (.getfield 146, 3) := by decide +kernel
theorem dX7_takes_156 : decode cX7_takes 156 = .ok (.iload 6, 2) := by decide +kernel
theorem dX7_takes_158 : decode cX7_takes 158 = .ok (.isub, 1) := by decide +kernel
theorem dX7_takes_159 : decode cX7_takes 159 = .ok (.iconst 1, 1) := by decide +kernel
theorem dX7_takes_160 : decode cX7_takes 160 = .ok (.if_icmp .ge 7, 3) := by decide +kernel
theorem dX7_takes_163 : decode cX7_takes 163 = .ok (.iconst 1, 1) := by decide +kernel
theorem dX7_takes_164 : decode cX7_takes 164 = .ok (.goto 10, 3) := by decide +kernel
theorem dX7_takes_167 : decode cX7_takes 167 = .ok (.aload_n 0, 1) := by decide +kernel
theorem dX7_takes_168 : decode cX7_takes 168 = .ok (.getfield 146, 3) := by decide +kernel
theorem dX7_takes_171 : decode cX7_takes 171 = .ok (.iload 6, 2) := by decide +kernel
theorem dX7_takes_173 : decode cX7_takes 173 = .ok (.isub, 1) := by decide +kernel
theorem dX7_takes_174 : decode cX7_takes 174 = .ok (.istore 9, 2) := by decide +kernel
theorem dX7_takes_176 : decode cX7_takes 176 = .ok (.sipush 1000, 3) := by decide +kernel
theorem dX7_takes_179 : decode cX7_takes 179 = .ok (.aload_n 0, 1) := by decide +kernel
theorem dX7_takes_180 : decode cX7_takes 180 = .ok (.getfield 60, 3) := by decide +kernel
theorem dX7_takes_183 : decode cX7_takes 183 = .ok (.iload_n 1, 1) := by decide +kernel
theorem dX7_takes_184 : decode cX7_takes 184 = .ok (.iaload, 1) := by decide +kernel
theorem dX7_takes_185 : decode cX7_takes 185 = .ok (.iload 5, 2) := by decide +kernel
theorem dX7_takes_187 : decode cX7_takes 187 = .ok (.isub, 1) := by decide +kernel
theorem dX7_takes_188 : decode cX7_takes 188 = .ok (.imul, 1) := by decide +kernel
theorem dX7_takes_189 : decode cX7_takes 189 = .ok (.iload 9, 2) := by decide +kernel
theorem dX7_takes_191 : decode cX7_takes 191 = .ok (.idiv, 1) := by decide +kernel
theorem dX7_takes_192 : decode cX7_takes 192 = .ok (.istore 10, 2) := by decide +kernel
theorem dX7_takes_194 : decode cX7_takes 194 = .ok (.iload 7, 2) := by decide +kernel
theorem dX7_takes_196 : decode cX7_takes 196 = .ok (.ifCond .eq 14, 3) := by decide +kernel
theorem dX7_takes_199 : decode cX7_takes 199 = .ok (.iload 10, 2) := by decide +kernel
theorem dX7_takes_201 : decode cX7_takes 201 = .ok (.aload_n 0, 1) := by decide +kernel
theorem dX7_takes_202 : decode cX7_takes 202 = .ok (.getfield 75, 3) := by decide +kernel
theorem dX7_takes_205 : decode cX7_takes 205 = .ok (.iload_n 1, 1) := by decide +kernel
theorem dX7_takes_206 : decode cX7_takes 206 = .ok (.iaload, 1) := by decide +kernel
theorem dX7_takes_207 : decode cX7_takes 207 = .ok (.if_icmp .lt 10, 3) := by decide +kernel
theorem dX7_takes_210 : decode cX7_takes 210 = .ok (.aload_n 0, 1) := by decide +kernel
theorem dX7_takes_211 : decode cX7_takes 211 = .ok (.iload_n 1, 1) := by decide +kernel
theorem dX7_takes_212 : decode cX7_takes 212 = .ok (.iload 10, 2) := by decide +kernel
theorem dX7_takes_214 : decode cX7_takes 214 = .ok (.invokevirtual 236, 3) := by decide +kernel
theorem dX7_takes_217 : decode cX7_takes 217 = .ok (.aload_n 0, 1) := by decide +kernel
theorem dX7_takes_218 : decode cX7_takes 218 = .ok (.iload_n 1, 1) := by decide +kernel
theorem dX7_takes_219 : decode cX7_takes 219 = .ok (.invokevirtual 239, 3) := by decide +kernel
theorem dX7_takes_222 : decode cX7_takes 222 = .ok (.aload_n 0, 1) := by decide +kernel
theorem dX7_takes_223 : decode cX7_takes 223 = .ok (.getfield 78, 3) := by decide +kernel
theorem dX7_takes_226 : decode cX7_takes 226 = .ok (.iload_n 1, 1) := by decide +kernel
theorem dX7_takes_227 : decode cX7_takes 227 = .ok (.iaload, 1) := by decide +kernel
theorem dX7_takes_228 : decode cX7_takes 228 = .ok (.bipush (-9), 2) := by decide +kernel
theorem dX7_takes_230 : decode cX7_takes 230 = .ok (.if_icmp .eq 24, 3) := by decide +kernel
theorem dX7_takes_233 : decode cX7_takes 233 = .ok (.aload_n 0, 1) := by decide +kernel
theorem dX7_takes_234 : decode cX7_takes 234 = .ok (.getfield 146, 3) := by decide +kernel
theorem dX7_takes_237 : decode cX7_takes 237 = .ok (.aload_n 0, 1) := by decide +kernel
theorem dX7_takes_238 : decode cX7_takes 238 = .ok (.getfield 81, 3) := by decide +kernel
theorem dX7_takes_241 : decode cX7_takes 241 = .ok (.iload_n 1, 1) := by decide +kernel
theorem dX7_takes_242 : decode cX7_takes 242 = .ok (.iaload, 1) := by decide +kernel
theorem dX7_takes_243 : decode cX7_takes 243 = .ok (.isub, 1) := by decide +kernel
theorem dX7_takes_244 : decode cX7_takes 244 = .ok (.sipush 1000, 3) := by decide +kernel
theorem dX7_takes_247 : decode cX7_takes 247 = .ok (.if_icmp .le 7, 3) := by decide +kernel
theorem dX7_takes_250 : decode cX7_takes 250 = .ok (.iconst 1, 1) := by decide +kernel
theorem dX7_takes_251 : decode cX7_takes 251 = .ok (.goto 4, 3) := by decide +kernel
theorem dX7_takes_254 : decode cX7_takes 254 = .ok (.iconst 0, 1) := by decide +kernel
theorem dX7_takes_255 : decode cX7_takes 255 = .ok (.istore 11, 2) := by decide +kernel
theorem dX7_takes_257 : decode cX7_takes 257 = .ok (.aload_n 0, 1) := by decide +kernel
theorem dX7_takes_258 : decode cX7_takes 258 = .ok (.getfield 78, 3) := by decide +kernel
theorem dX7_takes_261 : decode cX7_takes 261 = .ok (.iload_n 1, 1) := by decide +kernel
theorem dX7_takes_262 : decode cX7_takes 262 = .ok (.iaload, 1) := by decide +kernel
theorem dX7_takes_263 : decode cX7_takes 263 = .ok (.bipush (-9), 2) := by decide +kernel
theorem dX7_takes_265 : decode cX7_takes 265 = .ok (.if_icmp .eq 24, 3) := by decide +kernel
theorem dX7_takes_268 : decode cX7_takes 268 = .ok (.iload 11, 2) := by decide +kernel
theorem dX7_takes_270 : decode cX7_takes 270 = .ok (.ifCond .ne 19, 3) := by decide +kernel
theorem dX7_takes_273 : decode cX7_takes 273 = .ok (.aload_n 0, 1) := by decide +kernel
theorem dX7_takes_274 : decode cX7_takes 274 = .ok (.getfield 146, 3) := by decide +kernel
theorem dX7_takes_277 : decode cX7_takes 277 = .ok (.iload 4, 2) := by decide +kernel
theorem dX7_takes_279 : decode cX7_takes 279 = .ok (.isub, 1) := by decide +kernel
theorem dX7_takes_280 : decode cX7_takes 280 = .ok (.aload_n 0, 1) := by decide +kernel
theorem dX7_takes_281 : decode cX7_takes 281 = .ok (.getfield 78, 3) := by decide +kernel
theorem dX7_takes_284 : decode cX7_takes 284 = .ok (.iload_n 1, 1) := by decide +kernel
theorem dX7_takes_285 : decode cX7_takes 285 = .ok (.iaload, 1) := by decide +kernel
theorem dX7_takes_286 : decode cX7_takes 286 = .ok (.if_icmp .gt 26, 3) := by decide +kernel
theorem dX7_takes_289 : decode cX7_takes 289 = .ok (.aload_n 0, 1) := by decide +kernel
theorem dX7_takes_290 : decode cX7_takes 290 = .ok (.getfield 78, 3) := by decide +kernel
theorem dX7_takes_293 : decode cX7_takes 293 = .ok (.iload_n 1, 1) := by decide +kernel
theorem dX7_takes_294 : decode cX7_takes 294 = .ok (.aload_n 0, 1) := by decide +kernel
theorem dX7_takes_295 : decode cX7_takes 295 = .ok (.getfield 146, 3) := by decide +kernel
theorem dX7_takes_298 : decode cX7_takes 298 = .ok (.iload 4, 2) := by decide +kernel
theorem dX7_takes_300 : decode cX7_takes 300 = .ok (.isub, 1) := by decide +kernel
theorem dX7_takes_301 : decode cX7_takes 301 = .ok (.iastore, 1) := by decide +kernel
theorem dX7_takes_302 : decode cX7_takes 302 = .ok (.aload_n 0, 1) := by decide +kernel
theorem dX7_takes_303 : decode cX7_takes 303 = .ok (.getfield 81, 3) := by decide +kernel
theorem dX7_takes_306 : decode cX7_takes 306 = .ok (.iload_n 1, 1) := by decide +kernel
theorem dX7_takes_307 : decode cX7_takes 307 = .ok (.aload_n 0, 1) := by decide +kernel
theorem dX7_takes_308 : decode cX7_takes 308 = .ok (.getfield 146, 3) := by decide +kernel
theorem dX7_takes_311 : decode cX7_takes 311 = .ok (.iastore, 1) := by decide +kernel
theorem dX7_takes_312 : decode cX7_takes 312 = .ok (.aload_n 0, 1) := by decide +kernel
theorem dX7_takes_313 : decode cX7_takes 313 = .ok (.iload_n 1, 1) := by decide +kernel
theorem dX7_takes_314 : decode cX7_takes 314 = .ok (.iload 8, 2) := by decide +kernel
theorem dX7_takes_316 : decode cX7_takes 316 = .ok (.iload 7, 2) := by decide +kernel
theorem dX7_takes_318 : decode cX7_takes 318 = .ok (.iload 11, 2) := by decide +kernel
theorem dX7_takes_320 : decode cX7_takes 320 = .ok (.invokevirtual 242, 3) := by decide +kernel
theorem dX7_takes_323 : decode cX7_takes 323 = .ok (.return_, 1) := by decide +kernel
set_option maxRecDepth 20000 in
theorem ggX7_takesAll_X7_takes : GoodIn wsX7_takesAll wsX7_takes := goodIn_r _ [8, 9, 10, 11, 12, 13, 14, 15, 3, 16, 17, 18, 19, 20, 21, 22, 23, 24, 7, 25, 1, 26, 2, 27, 28, 29, 30, 31, 32, 33, 34, 35, 36, 37, 38, 39, 40, 41, 42, 43, 44, 45, 46, 47, 48, 49, 50, 51, 52, 53, 54, 55, 56, 57, 58, 59, 60, 61, 62, 63, 64, 65, 66, 67, 68, 69, 70, 71, 72, 73, 74, 75, 76, 77, 78, 79, 80, 81, 82, 83, 84, 85, 86, 87, 88, 89, 90, 91, 92, 93, 94, 95, 96, 97, 98, 99, 100, 101, 102, 103, 104, 105, 106, 107, 108, 109, 110, 111, 112, 113, 114, 115, 116, 117, 118, 119, 120, 121, 122, 123, 124, 125, 126, 127, 128, 129, 130, 131, 132, 133, 134, 135, 136, 137] (by decide +kernel) (by decide +kernel)
set_option maxRecDepth 20000 in
theorem gX7_takesAll_X7_takes : GoodIn wsX7_takesAll (wsV RX7 246 RX7 yX7_takes wsX7_takes) := goodIn_app (goodIn_of _ (by decide +kernel)) ggX7_takesAll_X7_takes
theorem dX7_takesAll_0 : decode cX7_takesAll 0 = .ok (.iconst 0, 1) := by decide +kernel
theorem dX7_takesAll_1 : decode cX7_takesAll 1 = .ok (.istore_n 2, 1) := by decide +kernel
theorem dX7_takesAll_2 : decode cX7_takesAll 2 = .ok (.iload_n 2, 1) := by decide +kernel
theorem dX7_takesAll_3 : decode cX7_takesAll 3 = .ok (.aload_n 0, 1) := by decide +kernel
theorem dX7_takesAll_4 : decode cX7_takesAll 4 = .ok (.getfield 32, 3) := by decide +kernel
theorem dX7_takesAll_7 : decode cX7_takesAll 7 = .ok (.iload_n 1, 1) := by decide +kernel
theorem dX7_takesAll_8 : decode cX7_takesAll 8 = .ok (.iaload, 1) := by decide +kernel
theorem dX7_takesAll_9 : decode cX7_takesAll 9 = .ok (.if_icmp .ge 37, 3) := by decide +kernel
theorem dX7_takesAll_12 : decode cX7_takesAll 12 = .ok (.aload_n 0, 1) := by decide +kernel
theorem dX7_takesAll_13 : decode cX7_takesAll 13 = .ok (.getfield 51, 3) := by decide +kernel
theorem dX7_takesAll_16 : decode cX7_takesAll 16 = .ok (.sipush 512, 3) := by decide +kernel
theorem dX7_takesAll_19 : decode cX7_takesAll 19 = .ok (.iload_n 1, 1) := by decide +kernel
theorem dX7_takesAll_20 : decode cX7_takesAll 20 = .ok (.imul, 1) := by decide +kernel
theorem dX7_takesAll_21 : decode cX7_takesAll 21 = .ok (.iload_n 2, 1) := by decide +kernel
theorem dX7_takesAll_22 : decode cX7_takesAll 22 = .ok (.iadd, 1) := by decide +kernel
theorem dX7_takesAll_23 : decode cX7_takesAll 23 = .ok (.iaload, 1) := by decide +kernel
theorem dX7_takesAll_24 : decode cX7_takesAll 24 = .ok (.aload_n 0, 1) := by decide +kernel
theorem dX7_takesAll_25 : decode cX7_takesAll 25 = .ok (.getfield 146, 3) := by decide +kernel
theorem dX7_takesAll_28 : decode cX7_takesAll 28 = .ok (.if_icmp .ne 12, 3) := by decide +kernel
theorem dX7_takesAll_31 : decode cX7_takesAll 31 = .ok (.aload_n 0, 1) := by decide +kernel
theorem dX7_takesAll_32 : decode cX7_takesAll 32 = .ok (.iload_n 1, 1) := by decide +kernel
theorem dX7_takesAll_33 : decode cX7_takesAll 33 = .ok (.iload_n 2, 1) := by decide +kernel
theorem dX7_takesAll_34 : decode cX7_takesAll 34 = .ok (.invokevirtual 246, 3) := by decide +kernel
theorem dX7_takesAll_37 : decode cX7_takesAll 37 = .ok (.goto (-35), 3) := by decide +kernel
theorem dX7_takesAll_40 : decode cX7_takesAll 40 = .ok (.iinc 2 1, 3) := by decide +kernel
theorem dX7_takesAll_43 : decode cX7_takesAll 43 = .ok (.goto (-41), 3) := by decide +kernel
theorem dX7_takesAll_46 : decode cX7_takesAll 46 = .ok (.return_, 1) := by decide +kernel
set_option maxRecDepth 20000 in
theorem ggX7_ticks_X7_takesAll : GoodIn wsX7_ticks wsX7_takesAll := goodIn_r _ [11, 12, 13, 3, 14, 15, 16, 10, 17, 18, 19, 20, 21, 22, 23, 24, 25, 26, 27, 28, 29, 30, 31, 32, 33, 34, 35, 36, 37, 38, 39, 40, 41, 42, 43, 44, 45, 46, 47, 48, 49, 50, 51, 52, 53, 54, 55, 56, 57, 58, 59, 60, 61, 62, 63, 64, 65, 66, 67, 68, 69, 70, 71, 72, 73, 74, 75, 76, 77, 78, 79, 80, 81, 82, 83, 84, 85, 86, 87, 88, 89, 90, 91, 92, 93, 94, 95, 96, 149, 150, 151, 152, 153, 154, 155, 156, 157, 158, 159, 160, 161, 162, 163, 164, 165, 166, 167, 168, 169, 170, 171, 172, 173, 174, 175, 176, 177, 178, 179, 180, 181, 182, 183, 184, 185, 186, 187, 188, 189, 190, 191, 192, 193, 194, 195, 196, 197, 198] (by decide +kernel) (by decide +kernel)
set_option maxRecDepth 20000 in
theorem gX7_ticks_X7_takesAll : GoodIn wsX7_ticks (wsV RX7 249 RX7 yX7_takesAll wsX7_takesAll) := goodIn_app (goodIn_of _ (by decide +kernel)) ggX7_ticks_X7_takesAll
set_option maxRecDepth 20000 in
theorem ggX7_ticks_X7_leaves : GoodIn wsX7_ticks wsX7_leaves := goodIn_r _ [100, 101, 1, 13, 102, 3, 103, 104, 105, 106, 107, 108, 109, 10, 110, 35, 111, 112, 113, 114, 115, 2, 149, 150, 151, 152, 153, 154, 155, 156, 157, 158, 159, 160, 161, 162, 163, 164, 165, 166, 167, 168, 169, 170, 171, 172, 173, 174, 175, 176, 177, 178, 179, 180, 181, 182, 183, 184, 185, 186, 187, 188, 189, 190, 191, 192, 193, 194, 195, 196, 197, 198] (by decide +kernel) (by decide +kernel)
set_option maxRecDepth 20000 in
theorem gX7_ticks_X7_leaves : GoodIn wsX7_ticks (wsV RX7 252 RX7 yX7_leaves wsX7_leaves) := goodIn_app (goodIn_of _ (by decide +kernel)) ggX7_ticks_X7_leaves
set_option maxRecDepth 20000 in
theorem ggX7_ticks_X7_comes : GoodIn wsX7_ticks wsX7_comes := goodIn_r _ [119, 1, 104, 120, 105, 106, 121, 111, 112, 113, 10, 114, 102, 3, 115, 2, 149, 150, 151, 152, 153, 154, 155, 156, 157, 158, 159, 160, 161, 162, 163, 164, 165, 166, 167, 168, 169, 170, 171, 172, 173, 174, 175, 176, 177, 178, 179, 180, 181, 182, 183, 184, 185, 186, 187, 188, 189, 190, 191, 192, 193, 194, 195, 196, 197, 198] (by decide +kernel) (by decide +kernel)
set_option maxRecDepth 20000 in
theorem gX7_ticks_X7_comes : GoodIn wsX7_ticks (wsV RX7 190 RX7 yX7_comes wsX7_comes) := goodIn_app (goodIn_of _ (by decide +kernel)) ggX7_ticks_X7_comes
set_option maxRecDepth 20000 in
theorem ggX7_ticks_X7_sendsAll : GoodIn wsX7_ticks wsX7_sendsAll := goodIn_r _ [125, 126, 23, 12, 25, 127, 128, 129, 10, 130, 131, 79, 3, 132, 133, 134, 135, 56, 91, 28, 29, 136, 137, 138, 64, 75, 76, 77, 78, 139, 140, 141, 142, 143, 24, 35, 18, 19, 20, 21, 13, 86, 144, 116, 117, 118, 119, 1, 104, 120, 105, 106, 121, 111, 112, 113, 114, 102, 115, 2, 145, 146, 147, 148, 58, 149, 150, 151, 152, 153, 154, 155, 156, 157, 158, 159, 160, 161, 162, 163, 164, 165, 166, 167, 168, 169, 170, 171, 172, 173, 174, 175, 176, 177, 178, 179, 180, 181, 182, 183, 184, 185, 186, 187, 188, 189, 190, 191, 192, 193, 194, 195, 196, 197, 198] (by decide +kernel) (by decide +kernel)
set_option maxRecDepth 20000 in
theorem gX7_ticks_X7_sendsAll : GoodIn wsX7_ticks (wsV RX7 258 RX7 yX7_sendsAll wsX7_sendsAll) := goodIn_app (goodIn_of _ (by decide +kernel)) ggX7_ticks_X7_sendsAll
theorem dX7_ticks_0 : decode cX7_ticks 0 = .ok (.aload_n 0, 1) := by decide +kernel
theorem dX7_ticks_1 : decode cX7_ticks 1 = .ok (.iconst 0, 1) := by decide +kernel
theorem dX7_ticks_2 : decode cX7_ticks 2 = .ok (.invokevirtual 249, 3) := by decide +kernel
theorem dX7_ticks_5 : decode cX7_ticks 5 = .ok (.aload_n 0, 1) := by decide +kernel
theorem dX7_ticks_6 : decode cX7_ticks 6 = .ok (.iconst 1, 1) := by decide +kernel
theorem dX7_ticks_7 : decode cX7_ticks 7 = .ok (.invokevirtual 249, 3) := by decide +kernel
theorem dX7_ticks_10 : decode cX7_ticks 10 = .ok (.aload_n 0, 1) := by decide +kernel
theorem dX7_ticks_11 : decode cX7_ticks 11 = .ok (.getfield 19, 3) := by decide +kernel
theorem dX7_ticks_14 : decode cX7_ticks 14 = .ok (.iconst 3, 1) := by decide +kernel
theorem dX7_ticks_15 : decode cX7_ticks 15 = .ok (.if_icmp .eq 18, 3) := by decide +kernel
theorem dX7_ticks_18 : decode cX7_ticks 18 = .ok (.aload_n 0, 1) := by decide +kernel
theorem dX7_ticks_19 : decode cX7_ticks 19 = .ok (.getfield 149, 3) := by decide +kernel
theorem dX7_ticks_22 : decode cX7_ticks 22 = .ok (.aload_n 0, 1) := by decide +kernel
theorem dX7_ticks_23 : decode cX7_ticks 23 = .ok (.getfield 146, 3) := by decide +kernel
theorem dX7_ticks_26 : decode cX7_ticks 26 = .ok (.if_icmp .ne 7, 3) := by decide +kernel
theorem dX7_ticks_29 : decode cX7_ticks 29 = .ok (.aload_n 0, 1) := by decide +kernel
theorem dX7_ticks_30 : decode cX7_ticks 30 = .ok (.invokevirtual 252, 3) := by decide +kernel
theorem dX7_ticks_33 : decode cX7_ticks 33 = .ok (.aload_n 0, 1) := by decide +kernel
theorem dX7_ticks_34 : decode cX7_ticks 34 = .ok (.getfield 140, 3) := by decide +kernel
theorem dX7_ticks_37 : decode cX7_ticks 37 = .ok (.ifCond .le 38, 3) := by decide +kernel
theorem dX7_ticks_40 : decode cX7_ticks 40 = .ok (.aload_n 0, 1) := by decide +kernel
theorem dX7_ticks_41 : decode cX7_ticks 41 = .ok (.getfield 146, 3) := by decide +kernel
theorem dX7_ticks_44 : decode cX7_ticks 44 = .ok (.aload_n 0, 1) := by decide +kernel
theorem dX7_ticks_45 : decode cX7_ticks 45 = .ok (.getfield 140, 3) := by decide +kernel
theorem dX7_ticks_48 : decode cX7_ticks 48 = .ok (.irem, 1) := by decide +kernel
theorem dX7_ticks_49 : decode cX7_ticks 49 = .ok (.ifCond .ne 26, 3) := by decide +kernel
theorem dX7_ticks_52 : decode cX7_ticks 52 = .ok (.aload_n 0, 1) := by decide +kernel
theorem dX7_ticks_53 : decode cX7_ticks 53 = .ok (.dup, 1) := by decide +kernel
theorem dX7_ticks_54 : decode cX7_ticks 54 = .ok (.getfield 255, 3) := by decide +kernel
theorem dX7_ticks_57 : decode cX7_ticks 57 = .ok (.aload_n 0, 1) := by decide +kernel
theorem dX7_ticks_58 : decode cX7_ticks 58 = .ok (.iconst 2, 1) := by decide +kernel
theorem dX7_ticks_59 : decode cX7_ticks 59 = .ok (.iconst 0, 1) := by decide +kernel
theorem dX7_ticks_60 : decode cX7_ticks 60 = .ok (.invokevirtual 190, 3) := by decide +kernel
theorem dX7_ticks_63 : decode cX7_ticks 63 = .ok (.ifCond .eq 7, 3) := by decide +kernel
theorem dX7_ticks_66 : decode cX7_ticks 66 = .ok (.iconst 0, 1) := by decide +kernel
theorem dX7_ticks_67 : decode cX7_ticks 67 = .ok (.goto 4, 3) := by decide +kernel
theorem dX7_ticks_70 : decode cX7_ticks 70 = .ok (.iconst 1, 1) := by decide +kernel
theorem dX7_ticks_71 : decode cX7_ticks 71 = .ok (.iadd, 1) := by decide +kernel
theorem dX7_ticks_72 : decode cX7_ticks 72 = .ok (.putfield 255, 3) := by decide +kernel
theorem dX7_ticks_75 : decode cX7_ticks 75 = .ok (.aload_n 0, 1) := by decide +kernel
theorem dX7_ticks_76 : decode cX7_ticks 76 = .ok (.iconst 0, 1) := by decide +kernel
theorem dX7_ticks_77 : decode cX7_ticks 77 = .ok (.invokevirtual 258, 3) := by decide +kernel
theorem dX7_ticks_80 : decode cX7_ticks 80 = .ok (.aload_n 0, 1) := by decide +kernel
theorem dX7_ticks_81 : decode cX7_ticks 81 = .ok (.iconst 1, 1) := by decide +kernel
theorem dX7_ticks_82 : decode cX7_ticks 82 = .ok (.invokevirtual 258, 3) := by decide +kernel
theorem dX7_ticks_85 : decode cX7_ticks 85 = .ok (.aload_n 0, 1) := by decide +kernel
theorem dX7_ticks_86 : decode cX7_ticks 86 = .ok (.dup, 1) := by decide +kernel
theorem dX7_ticks_87 : decode cX7_ticks 87 = .ok (.getfield 261, 3) := by decide +kernel
theorem dX7_ticks_90 : decode cX7_ticks 90 = .ok (.aload_n 0, 1) := by decide +kernel
theorem dX7_ticks_91 : decode cX7_ticks 91 = .ok (.getfield 19, 3) := by decide +kernel
theorem dX7_ticks_94 : decode cX7_ticks 94 = .ok (.iconst 3, 1) := by decide +kernel
theorem dX7_ticks_95 : decode cX7_ticks 95 = .ok (.if_icmp .eq 7, 3) := by decide +kernel
theorem dX7_ticks_98 : decode cX7_ticks 98 = .ok (.iconst 1, 1) := by decide +kernel
theorem dX7_ticks_99 : decode cX7_ticks 99 = .ok (.goto 4, 3) := by decide +kernel
theorem dX7_ticks_102 : decode cX7_ticks 102 = .ok (.iconst 0, 1) := by decide +kernel
theorem dX7_ticks_103 : decode cX7_ticks 103 = .ok (.iadd, 1) := by decide +kernel
theorem dX7_ticks_104 : decode cX7_ticks 104 = .ok (.putfield 261, 3) := by decide +kernel
theorem dX7_ticks_107 : decode cX7_ticks 107 = .ok (.aload_n 0, 1) := by decide +kernel
theorem dX7_ticks_108 : decode cX7_ticks 108 = .ok (.dup, 1) := by decide +kernel
theorem dX7_ticks_109 : decode cX7_ticks 109 = .ok (.getfield 146, 3) := by decide +kernel
theorem dX7_ticks_112 : decode cX7_ticks 112 = .ok (.iconst 1, 1) := by decide +kernel
theorem dX7_ticks_113 : decode cX7_ticks 113 = .ok (.iadd, 1) := by decide +kernel
theorem dX7_ticks_114 : decode cX7_ticks 114 = .ok (.putfield 146, 3) := by decide +kernel
theorem dX7_ticks_117 : decode cX7_ticks 117 = .ok (.return_, 1) := by decide +kernel
set_option maxRecDepth 20000 in
theorem ggX7_pass_X7_within : GoodIn wsX7_pass wsX7_within := goodIn_r _ [5] (by decide +kernel) (by decide +kernel)
set_option maxRecDepth 20000 in
theorem gX7_pass_X7_within : GoodIn wsX7_pass (va_wsS RX7 136 yX7_within wsX7_within) := goodIn_app (goodIn_of _ (by decide +kernel)) ggX7_pass_X7_within
set_option maxRecDepth 20000 in
theorem ggX7_pass_X7_ticks : GoodIn wsX7_pass wsX7_ticks := goodIn_r _ [9, 10, 11, 12, 13, 14, 15, 16, 17, 18, 4, 19, 20, 21, 22, 23, 24, 25, 26, 27, 28, 29, 1, 30, 31, 32, 33, 34, 35, 36, 37, 38, 39, 40, 41, 42, 43, 44, 45, 46, 47, 48, 49, 50, 51, 52, 53, 54, 55, 56, 57, 58, 59, 60, 61, 62, 63, 64, 65, 66, 67, 68, 69, 70, 71, 72, 73, 74, 75, 76, 77, 78, 79, 80, 81, 82, 83, 84, 85, 86, 87, 88, 89, 90, 91, 92, 93, 94, 95, 96, 97, 98, 99, 100, 101, 102, 103, 104, 105, 106, 107, 108, 109, 110, 111, 112, 113, 114, 115, 116, 117, 118, 119, 120, 121, 122, 123, 124, 125, 126, 127, 128, 129, 130, 131, 132, 133, 134, 135, 136, 137, 138, 139, 140, 141, 142, 143, 144, 145, 146, 147, 148, 149, 150, 151, 152, 153, 154, 155, 156, 157, 158, 159, 160, 161, 162, 163, 164, 165, 166, 167, 168, 169, 170, 171, 172, 173, 174, 175, 176, 177, 178, 179, 180, 181, 182, 183, 184, 185, 186, 187, 188, 189, 190, 191, 192, 193, 194, 195, 196, 197, 198, 199, 200, 201, 202, 203, 204, 205] (by decide +kernel) (by decide +kernel)
set_option maxRecDepth 20000 in
theorem gX7_pass_X7_ticks : GoodIn wsX7_pass (wsV RX7 264 RX7 yX7_ticks wsX7_ticks) := goodIn_app (goodIn_of _ (by decide +kernel)) ggX7_pass_X7_ticks
theorem dX7_pass_0 : decode cX7_pass 0 = .ok (.iload_n 1, 1) := by decide +kernel
theorem dX7_pass_1 : decode cX7_pass 1 = .ok (.iconst 1, 1) := by decide +kernel
theorem dX7_pass_2 : decode cX7_pass 2 = .ok (.sipush 2000, 3) := by decide +kernel
theorem dX7_pass_5 : decode cX7_pass 5 = .ok (.invokestatic 136, 3) := by decide +kernel
theorem dX7_pass_8 : decode cX7_pass 8 = .ok (.ifCond .ne 6, 3) := by decide +kernel
theorem dX7_pass_11 : decode cX7_pass 11 = .ok (.bipush (-2), 2) := by decide +kernel
theorem dX7_pass_13 : decode cX7_pass 13 = .ok (.ireturn, 1) := by decide +kernel
theorem dX7_pass_14 : decode cX7_pass 14 = .ok (.aload_n 0, 1) := by decide +kernel
theorem dX7_pass_15 : decode cX7_pass 15 = .ok (.getfield 233, 3) := by decide +kernel
theorem dX7_pass_18 : decode cX7_pass 18 = .ok (.istore_n 2, 1) := by decide +kernel
theorem dX7_pass_19 : decode cX7_pass 19 = .ok (.iconst 0, 1) := by decide +kernel
theorem dX7_pass_20 : decode cX7_pass 20 = .ok (.istore_n 3, 1) := by decide +kernel
theorem dX7_pass_21 : decode cX7_pass 21 = .ok (.iload_n 3, 1) := by decide +kernel
theorem dX7_pass_22 : decode cX7_pass 22 = .ok (.iload_n 1, 1) := by decide +kernel
theorem dX7_pass_23 : decode cX7_pass 23 = .ok (.if_icmp .ge 13, 3) := by decide +kernel
theorem dX7_pass_26 : decode cX7_pass 26 = .ok (.aload_n 0, 1) := by decide +kernel
theorem dX7_pass_27 : decode cX7_pass 27 = .ok (.invokevirtual 264, 3) := by decide +kernel
theorem dX7_pass_30 : decode cX7_pass 30 = .ok (.iinc 3 1, 3) := by decide +kernel
theorem dX7_pass_33 : decode cX7_pass 33 = .ok (.goto (-12), 3) := by decide +kernel
theorem dX7_pass_36 : decode cX7_pass 36 = .ok (.aload_n 0, 1) := by decide +kernel
theorem dX7_pass_37 : decode cX7_pass 37 = .ok (.getfield 233, 3) := by decide +kernel
theorem dX7_pass_40 : decode cX7_pass 40 = .ok (.iload_n 2, 1) := by decide +kernel
theorem dX7_pass_41 : decode cX7_pass 41 = .ok (.isub, 1) := by decide +kernel
theorem dX7_pass_42 : decode cX7_pass 42 = .ok (.ireturn, 1) := by decide +kernel
theorem dX7_ofGate_0 : decode cX7_ofGate 0 = .ok (.iload_n 1, 1) := by decide +kernel
theorem dX7_ofGate_1 : decode cX7_ofGate 1 = .ok (.tableswitch 81 0 6 #[43, 48, 62, 62, 62, 71, 76], 43) := by decide +kernel
theorem dX7_ofGate_44 : decode cX7_ofGate 44 = .ok (.aload_n 0, 1) := by decide +kernel
theorem dX7_ofGate_45 : decode cX7_ofGate 45 = .ok (.getfield 156, 3) := by decide +kernel
theorem dX7_ofGate_48 : decode cX7_ofGate 48 = .ok (.ireturn, 1) := by decide +kernel
theorem dX7_ofGate_49 : decode cX7_ofGate 49 = .ok (.aload_n 0, 1) := by decide +kernel
theorem dX7_ofGate_50 : decode cX7_ofGate 50 = .ok (.getfield 19, 3) := by decide +kernel
theorem dX7_ofGate_53 : decode cX7_ofGate 53 = .ok (.iconst 3, 1) := by decide +kernel
theorem dX7_ofGate_54 : decode cX7_ofGate 54 = .ok (.if_icmp .eq 7, 3) := by decide +kernel
theorem dX7_ofGate_57 : decode cX7_ofGate 57 = .ok (.iconst 1, 1) := by decide +kernel
theorem dX7_ofGate_58 : decode cX7_ofGate 58 = .ok (.goto 4, 3) := by decide +kernel
theorem dX7_ofGate_61 : decode cX7_ofGate 61 = .ok (.iconst 0, 1) := by decide +kernel
theorem dX7_ofGate_62 : decode cX7_ofGate 62 = .ok (.ireturn, 1) := by decide +kernel
theorem dX7_ofGate_63 : decode cX7_ofGate 63 = .ok (.aload_n 0, 1) := by decide +kernel
theorem dX7_ofGate_64 : decode cX7_ofGate 64 = .ok (.getfield 29, 3) := by decide +kernel
theorem dX7_ofGate_67 : decode cX7_ofGate 67 = .ok (.iload_n 1, 1) := by decide +kernel
theorem dX7_ofGate_68 : decode cX7_ofGate 68 = .ok (.iconst 2, 1) := by decide +kernel
theorem dX7_ofGate_69 : decode cX7_ofGate 69 = .ok (.isub, 1) := by decide +kernel
theorem dX7_ofGate_70 : decode cX7_ofGate 70 = .ok (.iaload, 1) := by decide +kernel
theorem dX7_ofGate_71 : decode cX7_ofGate 71 = .ok (.ireturn, 1) := by decide +kernel
theorem dX7_ofGate_72 : decode cX7_ofGate 72 = .ok (.aload_n 0, 1) := by decide +kernel
theorem dX7_ofGate_73 : decode cX7_ofGate 73 = .ok (.getfield 255, 3) := by decide +kernel
theorem dX7_ofGate_76 : decode cX7_ofGate 76 = .ok (.ireturn, 1) := by decide +kernel
theorem dX7_ofGate_77 : decode cX7_ofGate 77 = .ok (.aload_n 0, 1) := by decide +kernel
theorem dX7_ofGate_78 : decode cX7_ofGate 78 = .ok (.getfield 159, 3) := by decide +kernel
theorem dX7_ofGate_81 : decode cX7_ofGate 81 = .ok (.ireturn, 1) := by decide +kernel
theorem dX7_ofGate_82 : decode cX7_ofGate 82 = .ok (.bipush (-2), 2) := by decide +kernel
theorem dX7_ofGate_84 : decode cX7_ofGate 84 = .ok (.ireturn, 1) := by decide +kernel
set_option maxRecDepth 20000 in
theorem ggX7_busy_X7_within : GoodIn wsX7_busy wsX7_within := goodIn_r _ [7] (by decide +kernel) (by decide +kernel)
set_option maxRecDepth 20000 in
theorem gX7_busy_X7_within : GoodIn wsX7_busy (va_wsS RX7 136 yX7_within wsX7_within) := goodIn_app (goodIn_of _ (by decide +kernel)) ggX7_busy_X7_within
theorem dX7_busy_0 : decode cX7_busy 0 = .ok (.iload_n 1, 1) := by decide +kernel
theorem dX7_busy_1 : decode cX7_busy 1 = .ok (.iconst 0, 1) := by decide +kernel
theorem dX7_busy_2 : decode cX7_busy 2 = .ok (.iconst 1, 1) := by decide +kernel
theorem dX7_busy_3 : decode cX7_busy 3 = .ok (.invokestatic 136, 3) := by decide +kernel
theorem dX7_busy_6 : decode cX7_busy 6 = .ok (.ifCond .ne 7, 3) := by decide +kernel
theorem dX7_busy_9 : decode cX7_busy 9 = .ok (.ldc2_w 267, 3) := by decide +kernel
theorem dX7_busy_12 : decode cX7_busy 12 = .ok (.lreturn, 1) := by decide +kernel
theorem dX7_busy_13 : decode cX7_busy 13 = .ok (.aload_n 0, 1) := by decide +kernel
theorem dX7_busy_14 : decode cX7_busy 14 = .ok (.getfield 261, 3) := by decide +kernel
theorem dX7_busy_17 : decode cX7_busy 17 = .ok (.istore_n 2, 1) := by decide +kernel
theorem dX7_busy_18 : decode cX7_busy 18 = .ok (.aload_n 0, 1) := by decide +kernel
theorem dX7_busy_19 : decode cX7_busy 19 = .ok (.getfield 146, 3) := by decide +kernel
theorem dX7_busy_22 : decode cX7_busy 22 = .ok (.istore_n 3, 1) := by decide +kernel
theorem dX7_busy_23 : decode cX7_busy 23 = .ok (.iload_n 3, 1) := by decide +kernel
theorem dX7_busy_24 : decode cX7_busy 24 = .ok (.ifCond .le 16, 3) := by decide +kernel
theorem dX7_busy_27 : decode cX7_busy 27 = .ok (.iload_n 2, 1) := by decide +kernel
theorem dX7_busy_28 : decode cX7_busy 28 = .ok (.iload_n 3, 1) := by decide +kernel
theorem dX7_busy_29 : decode cX7_busy 29 = .ok (.irem, 1) := by decide +kernel
theorem dX7_busy_30 : decode cX7_busy 30 = .ok (.istore 4, 2) := by decide +kernel
theorem dX7_busy_32 : decode cX7_busy 32 = .ok (.iload_n 3, 1) := by decide +kernel
theorem dX7_busy_33 : decode cX7_busy 33 = .ok (.istore_n 2, 1) := by decide +kernel
theorem dX7_busy_34 : decode cX7_busy 34 = .ok (.iload 4, 2) := by decide +kernel
theorem dX7_busy_36 : decode cX7_busy 36 = .ok (.istore_n 3, 1) := by decide +kernel
theorem dX7_busy_37 : decode cX7_busy 37 = .ok (.goto (-14), 3) := by decide +kernel
theorem dX7_busy_40 : decode cX7_busy 40 = .ok (.aload_n 0, 1) := by decide +kernel
theorem dX7_busy_41 : decode cX7_busy 41 = .ok (.getfield 146, 3) := by decide +kernel
theorem dX7_busy_44 : decode cX7_busy 44 = .ok (.ifCond .ne 6, 3) := by decide +kernel
theorem dX7_busy_47 : decode cX7_busy 47 = .ok (.iload_n 1, 1) := by decide +kernel
theorem dX7_busy_48 : decode cX7_busy 48 = .ok (.i2l, 1) := by decide +kernel
theorem dX7_busy_49 : decode cX7_busy 49 = .ok (.lreturn, 1) := by decide +kernel
theorem dX7_busy_50 : decode cX7_busy 50 = .ok (.iload_n 1, 1) := by decide +kernel
theorem dX7_busy_51 : decode cX7_busy 51 = .ok (.ifCond .ne 13, 3) := by decide +kernel
theorem dX7_busy_54 : decode cX7_busy 54 = .ok (.aload_n 0, 1) := by decide +kernel
theorem dX7_busy_55 : decode cX7_busy 55 = .ok (.getfield 261, 3) := by decide +kernel
theorem dX7_busy_58 : decode cX7_busy 58 = .ok (.iload_n 2, 1) := by decide +kernel
theorem dX7_busy_59 : decode cX7_busy 59 = .ok (.idiv, 1) := by decide +kernel
theorem dX7_busy_60 : decode cX7_busy 60 = .ok (.i2l, 1) := by decide +kernel
theorem dX7_busy_61 : decode cX7_busy 61 = .ok (.goto 10, 3) := by decide +kernel
theorem dX7_busy_64 : decode cX7_busy 64 = .ok (.aload_n 0, 1) := by decide +kernel
theorem dX7_busy_65 : decode cX7_busy 65 = .ok (.getfield 146, 3) := by decide +kernel
theorem dX7_busy_68 : decode cX7_busy 68 = .ok (.iload_n 2, 1) := by decide +kernel
theorem dX7_busy_69 : decode cX7_busy 69 = .ok (.idiv, 1) := by decide +kernel
theorem dX7_busy_70 : decode cX7_busy 70 = .ok (.i2l, 1) := by decide +kernel
theorem dX7_busy_71 : decode cX7_busy 71 = .ok (.lreturn, 1) := by decide +kernel
theorem dX7_ahead_0 : decode cX7_ahead 0 = .ok (.aload_n 0, 1) := by decide +kernel
theorem dX7_ahead_1 : decode cX7_ahead 1 = .ok (.getfield 84, 3) := by decide +kernel
theorem dX7_ahead_4 : decode cX7_ahead 4 = .ok (.iload_n 1, 1) := by decide +kernel
theorem dX7_ahead_5 : decode cX7_ahead 5 = .ok (.laload, 1) := by decide +kernel
theorem dX7_ahead_6 : decode cX7_ahead 6 = .ok (.ldc2_w 171, 3) := by decide +kernel
theorem dX7_ahead_9 : decode cX7_ahead 9 = .ok (.aload_n 0, 1) := by decide +kernel
theorem dX7_ahead_10 : decode cX7_ahead 10 = .ok (.getfield 146, 3) := by decide +kernel
theorem dX7_ahead_13 : decode cX7_ahead 13 = .ok (.i2l, 1) := by decide +kernel
theorem dX7_ahead_14 : decode cX7_ahead 14 = .ok (.lmul, 1) := by decide +kernel
theorem dX7_ahead_15 : decode cX7_ahead 15 = .ok (.lsub, 1) := by decide +kernel
theorem dX7_ahead_16 : decode cX7_ahead 16 = .ok (.lstore_n 2, 1) := by decide +kernel
theorem dX7_ahead_17 : decode cX7_ahead 17 = .ok (.lload_n 2, 1) := by decide +kernel
theorem dX7_ahead_18 : decode cX7_ahead 18 = .ok (.lconst 0, 1) := by decide +kernel
theorem dX7_ahead_19 : decode cX7_ahead 19 = .ok (.lcmp, 1) := by decide +kernel
theorem dX7_ahead_20 : decode cX7_ahead 20 = .ok (.ifCond .le 8, 3) := by decide +kernel
theorem dX7_ahead_23 : decode cX7_ahead 23 = .ok (.lload_n 2, 1) := by decide +kernel
theorem dX7_ahead_24 : decode cX7_ahead 24 = .ok (.l2i, 1) := by decide +kernel
theorem dX7_ahead_25 : decode cX7_ahead 25 = .ok (.goto 4, 3) := by decide +kernel
theorem dX7_ahead_28 : decode cX7_ahead 28 = .ok (.iconst 0, 1) := by decide +kernel
theorem dX7_ahead_29 : decode cX7_ahead 29 = .ok (.ireturn, 1) := by decide +kernel
set_option maxRecDepth 20000 in
theorem ggX7_ofSender_X7_isSender : GoodIn wsX7_ofSender wsX7_isSender := goodIn_r _ [14, 15, 16, 13, 17] (by decide +kernel) (by decide +kernel)
set_option maxRecDepth 20000 in
theorem gX7_ofSender_X7_isSender : GoodIn wsX7_ofSender (va_wsS RX7 166 yX7_isSender wsX7_isSender) := goodIn_app (goodIn_of _ (by decide +kernel)) ggX7_ofSender_X7_isSender
set_option maxRecDepth 20000 in
theorem ggX7_ofSender_X7_product : GoodIn wsX7_ofSender wsX7_product := goodIn_r _ [21, 5, 4, 22, 43, 44, 45, 46, 47, 48, 49, 50, 51, 52, 53, 54, 55, 56, 57, 58, 59, 60, 61, 62, 63, 64, 65, 66, 67, 68, 69, 70, 71, 72, 73, 74, 75, 76, 77, 78, 79, 80, 81, 82, 83, 84, 85, 86, 87, 88, 89, 90, 91, 92] (by decide +kernel) (by decide +kernel)
set_option maxRecDepth 20000 in
theorem gX7_ofSender_X7_product : GoodIn wsX7_ofSender (wsV RX7 179 RX7 yX7_product wsX7_product) := goodIn_app (goodIn_of _ (by decide +kernel)) ggX7_ofSender_X7_product
set_option maxRecDepth 20000 in
theorem ggX7_ofSender_X7_window : GoodIn wsX7_ofSender wsX7_window := goodIn_r _ [26, 1, 27, 4, 5, 28, 29, 30, 31, 18, 19, 20, 13, 21, 22, 43, 44, 45, 46, 47, 48, 49, 50, 51, 52, 53, 54, 55, 56, 57, 58, 59, 60, 61, 62, 63, 64, 65, 66, 67, 68, 69, 70, 71, 72, 73, 74, 75, 76, 77, 78, 79, 80, 81, 82, 83, 84, 85, 86, 87, 88, 89, 90, 91, 92] (by decide +kernel) (by decide +kernel)
set_option maxRecDepth 20000 in
theorem gX7_ofSender_X7_window : GoodIn wsX7_ofSender (wsV RX7 187 RX7 yX7_window wsX7_window) := goodIn_app (goodIn_of _ (by decide +kernel)) ggX7_ofSender_X7_window
set_option maxRecDepth 20000 in
theorem ggX7_ofSender_X7_gain : GoodIn wsX7_ofSender wsX7_gain := goodIn_r _ [35, 1, 36, 43, 44, 45, 46, 47, 48, 49, 50, 51, 52, 53, 54, 55, 56, 57, 58, 59, 60, 61, 62, 63, 64, 65, 66, 67, 68, 69, 70, 71, 72, 73, 74, 75, 76, 77, 78, 79, 80, 81, 82, 83, 84, 85, 86, 87, 88, 89, 90, 91, 92] (by decide +kernel) (by decide +kernel)
set_option maxRecDepth 20000 in
theorem gX7_ofSender_X7_gain : GoodIn wsX7_ofSender (wsV RX7 196 RX7 yX7_gain wsX7_gain) := goodIn_app (goodIn_of _ (by decide +kernel)) ggX7_ofSender_X7_gain
set_option maxRecDepth 20000 in
theorem ggX7_ofSender_X7_ahead : GoodIn wsX7_ofSender wsX7_ahead := goodIn_r _ [40, 41, 22, 42, 43, 44, 45, 46, 47, 48, 49, 50, 51, 52, 53, 54, 55, 56, 57, 58, 59, 60, 61, 62, 63, 64, 65, 66, 67, 68, 69, 70, 71, 72, 73, 74, 75, 76, 77, 78, 79, 80, 81, 82, 83, 84, 85, 86, 87, 88, 89, 90, 91, 92] (by decide +kernel) (by decide +kernel)
set_option maxRecDepth 20000 in
theorem gX7_ofSender_X7_ahead : GoodIn wsX7_ofSender (wsV RX7 269 RX7 yX7_ahead wsX7_ahead) := goodIn_app (goodIn_of _ (by decide +kernel)) ggX7_ofSender_X7_ahead
theorem dX7_ofSender_0 : decode cX7_ofSender 0 = .ok (.iload_n 1, 1) := by decide +kernel
theorem dX7_ofSender_1 : decode cX7_ofSender 1 = .ok (.invokestatic 166, 3) := by decide +kernel
theorem dX7_ofSender_4 : decode cX7_ofSender 4 = .ok (.ifCond .ne 5, 3) := by decide +kernel
theorem dX7_ofSender_7 : decode cX7_ofSender 7 = .ok (.iconst (-1), 1) := by decide +kernel
theorem dX7_ofSender_8 : decode cX7_ofSender 8 = .ok (.ireturn, 1) := by decide +kernel
theorem dX7_ofSender_9 : decode cX7_ofSender 9 = .ok (.iload_n 2, 1) := by decide +kernel
theorem dX7_ofSender_10 : decode cX7_ofSender 10 = .ok (.tableswitch 166 0 13 #[70, 77, 84, 91, 98, 105, 112, 119, 125, 132, 139, 146, 153, 160], 70) := by decide +kernel
theorem dX7_ofSender_80 : decode cX7_ofSender 80 = .ok (.aload_n 0, 1) := by decide +kernel
theorem dX7_ofSender_81 : decode cX7_ofSender 81 = .ok (.getfield 103, 3) := by decide +kernel
theorem dX7_ofSender_84 : decode cX7_ofSender 84 = .ok (.iload_n 1, 1) := by decide +kernel
theorem dX7_ofSender_85 : decode cX7_ofSender 85 = .ok (.iaload, 1) := by decide +kernel
theorem dX7_ofSender_86 : decode cX7_ofSender 86 = .ok (.ireturn, 1) := by decide +kernel
theorem dX7_ofSender_87 : decode cX7_ofSender 87 = .ok (.aload_n 0, 1) := by decide +kernel
theorem dX7_ofSender_88 : decode cX7_ofSender 88 = .ok (.getfield 32, 3) := by decide +kernel
theorem dX7_ofSender_91 : decode cX7_ofSender 91 = .ok (.iload_n 1, 1) := by decide +kernel
theorem dX7_ofSender_92 : decode cX7_ofSender 92 = .ok (.iaload, 1) := by decide +kernel
theorem dX7_ofSender_93 : decode cX7_ofSender 93 = .ok (.ireturn, 1) := by decide +kernel
theorem dX7_ofSender_94 : decode cX7_ofSender 94 = .ok (.aload_n 0, 1) := by decide +kernel
theorem dX7_ofSender_95 : decode cX7_ofSender 95 = .ok (.getfield 60, 3) := by decide +kernel
theorem dX7_ofSender_98 : decode cX7_ofSender 98 = .ok (.iload_n 1, 1) := by decide +kernel
theorem dX7_ofSender_99 : decode cX7_ofSender 99 = .ok (.iaload, 1) := by decide +kernel
theorem dX7_ofSender_100 : decode cX7_ofSender 100 = .ok (.ireturn, 1) := by decide +kernel
theorem dX7_ofSender_101 : decode cX7_ofSender 101 = .ok (.aload_n 0, 1) := by decide +kernel
theorem dX7_ofSender_102 : decode cX7_ofSender 102 = .ok (.getfield 75, 3) := by decide +kernel
theorem dX7_ofSender_105 : decode cX7_ofSender 105 = .ok (.iload_n 1, 1) := by decide +kernel
theorem dX7_ofSender_106 : decode cX7_ofSender 106 = .ok (.iaload, 1) := by decide +kernel
theorem dX7_ofSender_107 : decode cX7_ofSender 107 = .ok (.ireturn, 1) := by decide +kernel
theorem dX7_ofSender_108 : decode cX7_ofSender 108 = .ok (.aload_n 0, 1) := by decide +kernel
theorem dX7_ofSender_109 : decode cX7_ofSender 109 = .ok (.getfield 78, 3) := by decide +kernel
theorem dX7_ofSender_112 : decode cX7_ofSender 112 = .ok (.iload_n 1, 1) := by decide +kernel
theorem dX7_ofSender_113 : decode cX7_ofSender 113 = .ok (.iaload, 1) := by decide +kernel
theorem dX7_ofSender_114 : decode cX7_ofSender 114 = .ok (.ireturn, 1) := by decide +kernel
theorem dX7_ofSender_115 : decode cX7_ofSender 115 = .ok (.aload_n 0, 1) := by decide +kernel
theorem dX7_ofSender_116 : decode cX7_ofSender 116 = .ok (.iload_n 1, 1) := by decide +kernel
theorem dX7_ofSender_117 : decode cX7_ofSender 117 = .ok (.invokevirtual 179, 3) := by decide +kernel
theorem dX7_ofSender_120 : decode cX7_ofSender 120 = .ok (.l2i, 1) := by decide +kernel
theorem dX7_ofSender_121 : decode cX7_ofSender 121 = .ok (.ireturn, 1) := by decide +kernel
theorem dX7_ofSender_122 : decode cX7_ofSender 122 = .ok (.aload_n 0, 1) := by decide +kernel
theorem dX7_ofSender_123 : decode cX7_ofSender 123 = .ok (.iload_n 1, 1) := by decide +kernel
theorem dX7_ofSender_124 : decode cX7_ofSender 124 = .ok (.invokevirtual 187, 3) := by decide +kernel
theorem dX7_ofSender_127 : decode cX7_ofSender 127 = .ok (.l2i, 1) := by decide +kernel
theorem dX7_ofSender_128 : decode cX7_ofSender 128 = .ok (.ireturn, 1) := by decide +kernel
theorem dX7_ofSender_129 : decode cX7_ofSender 129 = .ok (.aload_n 0, 1) := by decide +kernel
theorem dX7_ofSender_130 : decode cX7_ofSender 130 = .ok (.iload_n 1, 1) := by decide +kernel
theorem dX7_ofSender_131 : decode cX7_ofSender 131 = .ok (.invokevirtual 196, 3) := by decide +kernel
theorem dX7_ofSender_134 : decode cX7_ofSender 134 = .ok (.ireturn, 1) := by decide +kernel
theorem dX7_ofSender_135 : decode cX7_ofSender 135 = .ok (.aload_n 0, 1) := by decide +kernel
theorem dX7_ofSender_136 : decode cX7_ofSender 136 = .ok (.getfield 69, 3) := by decide +kernel
theorem dX7_ofSender_139 : decode cX7_ofSender 139 = .ok (.iload_n 1, 1) := by decide +kernel
theorem dX7_ofSender_140 : decode cX7_ofSender 140 = .ok (.iaload, 1) := by decide +kernel
theorem dX7_ofSender_141 : decode cX7_ofSender 141 = .ok (.ireturn, 1) := by decide +kernel
theorem dX7_ofSender_142 : decode cX7_ofSender 142 = .ok (.aload_n 0, 1) := by decide +kernel
theorem dX7_ofSender_143 : decode cX7_ofSender 143 = .ok (.getfield 88, 3) := by decide +kernel
theorem dX7_ofSender_146 : decode cX7_ofSender 146 = .ok (.iload_n 1, 1) := by decide +kernel
theorem dX7_ofSender_147 : decode cX7_ofSender 147 = .ok (.iaload, 1) := by decide +kernel
theorem dX7_ofSender_148 : decode cX7_ofSender 148 = .ok (.ireturn, 1) := by decide +kernel
theorem dX7_ofSender_149 : decode cX7_ofSender 149 = .ok (.aload_n 0, 1) := by decide +kernel
theorem dX7_ofSender_150 : decode cX7_ofSender 150 = .ok (.getfield 54, 3) := by decide +kernel
theorem dX7_ofSender_153 : decode cX7_ofSender 153 = .ok (.iload_n 1, 1) := by decide +kernel
theorem dX7_ofSender_154 : decode cX7_ofSender 154 = .ok (.iaload, 1) := by decide +kernel
theorem dX7_ofSender_155 : decode cX7_ofSender 155 = .ok (.ireturn, 1) := by decide +kernel
theorem dX7_ofSender_156 : decode cX7_ofSender 156 = .ok (.aload_n 0, 1) := by decide +kernel
theorem dX7_ofSender_157 : decode cX7_ofSender 157 = .ok (.getfield 66, 3) := by decide +kernel
theorem dX7_ofSender_160 : decode cX7_ofSender 160 = .ok (.iload_n 1, 1) := by decide +kernel
theorem dX7_ofSender_161 : decode cX7_ofSender 161 = .ok (.iaload, 1) := by decide +kernel
theorem dX7_ofSender_162 : decode cX7_ofSender 162 = .ok (.ireturn, 1) := by decide +kernel
theorem dX7_ofSender_163 : decode cX7_ofSender 163 = .ok (.aload_n 0, 1) := by decide +kernel
theorem dX7_ofSender_164 : decode cX7_ofSender 164 = .ok (.getfield 57, 3) := by decide +kernel
theorem dX7_ofSender_167 : decode cX7_ofSender 167 = .ok (.iload_n 1, 1) := by decide +kernel
theorem dX7_ofSender_168 : decode cX7_ofSender 168 = .ok (.iaload, 1) := by decide +kernel
theorem dX7_ofSender_169 : decode cX7_ofSender 169 = .ok (.ireturn, 1) := by decide +kernel
theorem dX7_ofSender_170 : decode cX7_ofSender 170 = .ok (.aload_n 0, 1) := by decide +kernel
theorem dX7_ofSender_171 : decode cX7_ofSender 171 = .ok (.iload_n 1, 1) := by decide +kernel
theorem dX7_ofSender_172 : decode cX7_ofSender 172 = .ok (.invokevirtual 269, 3) := by decide +kernel
theorem dX7_ofSender_175 : decode cX7_ofSender 175 = .ok (.ireturn, 1) := by decide +kernel
theorem dX7_ofSender_176 : decode cX7_ofSender 176 = .ok (.bipush (-2), 2) := by decide +kernel
theorem dX7_ofSender_178 : decode cX7_ofSender 178 = .ok (.ireturn, 1) := by decide +kernel
set_option maxRecDepth 20000 in
theorem ggX7_sample_X7_isSender : GoodIn wsX7_sample wsX7_isSender := goodIn_r _ [8, 9, 10, 7, 11] (by decide +kernel) (by decide +kernel)
set_option maxRecDepth 20000 in
theorem gX7_sample_X7_isSender : GoodIn wsX7_sample (va_wsS RX7 166 yX7_isSender wsX7_isSender) := goodIn_app (goodIn_of _ (by decide +kernel)) ggX7_sample_X7_isSender
set_option maxRecDepth 20000 in
theorem ggX7_sample_X7_within : GoodIn wsX7_sample wsX7_within := goodIn_r _ [11] (by decide +kernel) (by decide +kernel)
set_option maxRecDepth 20000 in
theorem gX7_sample_X7_within : GoodIn wsX7_sample (va_wsS RX7 136 yX7_within wsX7_within) := goodIn_app (goodIn_of _ (by decide +kernel)) ggX7_sample_X7_within
theorem dX7_sample_0 : decode cX7_sample 0 = .ok (.iload_n 1, 1) := by decide +kernel
theorem dX7_sample_1 : decode cX7_sample 1 = .ok (.invokestatic 166, 3) := by decide +kernel
theorem dX7_sample_4 : decode cX7_sample 4 = .ok (.ifCond .eq 19, 3) := by decide +kernel
theorem dX7_sample_7 : decode cX7_sample 7 = .ok (.iload_n 2, 1) := by decide +kernel
theorem dX7_sample_8 : decode cX7_sample 8 = .ok (.iconst 0, 1) := by decide +kernel
theorem dX7_sample_9 : decode cX7_sample 9 = .ok (.aload_n 0, 1) := by decide +kernel
theorem dX7_sample_10 : decode cX7_sample 10 = .ok (.getfield 94, 3) := by decide +kernel
theorem dX7_sample_13 : decode cX7_sample 13 = .ok (.iload_n 1, 1) := by decide +kernel
theorem dX7_sample_14 : decode cX7_sample 14 = .ok (.iaload, 1) := by decide +kernel
theorem dX7_sample_15 : decode cX7_sample 15 = .ok (.iconst 1, 1) := by decide +kernel
theorem dX7_sample_16 : decode cX7_sample 16 = .ok (.isub, 1) := by decide +kernel
theorem dX7_sample_17 : decode cX7_sample 17 = .ok (.invokestatic 136, 3) := by decide +kernel
theorem dX7_sample_20 : decode cX7_sample 20 = .ok (.ifCond .ne 5, 3) := by decide +kernel
theorem dX7_sample_23 : decode cX7_sample 23 = .ok (.iconst (-1), 1) := by decide +kernel
theorem dX7_sample_24 : decode cX7_sample 24 = .ok (.ireturn, 1) := by decide +kernel
theorem dX7_sample_25 : decode cX7_sample 25 = .ok (.sipush 8192, 3) := by decide +kernel
theorem dX7_sample_28 : decode cX7_sample 28 = .ok (.iload_n 1, 1) := by decide +kernel
theorem dX7_sample_29 : decode cX7_sample 29 = .ok (.imul, 1) := by decide +kernel
theorem dX7_sample_30 : decode cX7_sample 30 = .ok (.aload_n 0, 1) := by decide +kernel
theorem dX7_sample_31 : decode cX7_sample 31 = .ok (.getfield 91, 3) := by decide +kernel
theorem dX7_sample_34 : decode cX7_sample 34 = .ok (.iload_n 1, 1) := by decide +kernel
theorem dX7_sample_35 : decode cX7_sample 35 = .ok (.iaload, 1) := by decide +kernel
theorem dX7_sample_36 : decode cX7_sample 36 = .ok (.iload_n 2, 1) := by decide +kernel
theorem dX7_sample_37 : decode cX7_sample 37 = .ok (.iadd, 1) := by decide +kernel
theorem dX7_sample_38 : decode cX7_sample 38 = .ok (.sipush 8192, 3) := by decide +kernel
theorem dX7_sample_41 : decode cX7_sample 41 = .ok (.irem, 1) := by decide +kernel
theorem dX7_sample_42 : decode cX7_sample 42 = .ok (.iadd, 1) := by decide +kernel
theorem dX7_sample_43 : decode cX7_sample 43 = .ok (.istore 4, 2) := by decide +kernel
theorem dX7_sample_45 : decode cX7_sample 45 = .ok (.iload_n 3, 1) := by decide +kernel
theorem dX7_sample_46 : decode cX7_sample 46 = .ok (.ifCond .ne 13, 3) := by decide +kernel
theorem dX7_sample_49 : decode cX7_sample 49 = .ok (.aload_n 0, 1) := by decide +kernel
theorem dX7_sample_50 : decode cX7_sample 50 = .ok (.getfield 97, 3) := by decide +kernel
theorem dX7_sample_53 : decode cX7_sample 53 = .ok (.iload 4, 2) := by decide +kernel
theorem dX7_sample_55 : decode cX7_sample 55 = .ok (.iaload, 1) := by decide +kernel
theorem dX7_sample_56 : decode cX7_sample 56 = .ok (.goto 20, 3) := by decide +kernel
theorem dX7_sample_59 : decode cX7_sample 59 = .ok (.iload_n 3, 1) := by decide +kernel
theorem dX7_sample_60 : decode cX7_sample 60 = .ok (.iconst 1, 1) := by decide +kernel
theorem dX7_sample_61 : decode cX7_sample 61 = .ok (.if_icmp .ne 13, 3) := by decide +kernel
theorem dX7_sample_64 : decode cX7_sample 64 = .ok (.aload_n 0, 1) := by decide +kernel
theorem dX7_sample_65 : decode cX7_sample 65 = .ok (.getfield 100, 3) := by decide +kernel
theorem dX7_sample_68 : decode cX7_sample 68 = .ok (.iload 4, 2) := by decide +kernel
theorem dX7_sample_70 : decode cX7_sample 70 = .ok (.iaload, 1) := by decide +kernel
theorem dX7_sample_71 : decode cX7_sample 71 = .ok (.goto 5, 3) := by decide +kernel
theorem dX7_sample_74 : decode cX7_sample 74 = .ok (.bipush (-2), 2) := by decide +kernel
theorem dX7_sample_76 : decode cX7_sample 76 = .ok (.ireturn, 1) := by decide +kernel
set_option maxRecDepth 20000 in
theorem ggX7_best_X7_isSender : GoodIn wsX7_best wsX7_isSender := goodIn_r _ [5, 6, 7, 4, 8] (by decide +kernel) (by decide +kernel)
set_option maxRecDepth 20000 in
theorem gX7_best_X7_isSender : GoodIn wsX7_best (va_wsS RX7 166 yX7_isSender wsX7_isSender) := goodIn_app (goodIn_of _ (by decide +kernel)) ggX7_best_X7_isSender
set_option maxRecDepth 20000 in
theorem ggX7_best_X7_within : GoodIn wsX7_best wsX7_within := goodIn_r _ [8] (by decide +kernel) (by decide +kernel)
set_option maxRecDepth 20000 in
theorem gX7_best_X7_within : GoodIn wsX7_best (va_wsS RX7 136 yX7_within wsX7_within) := goodIn_app (goodIn_of _ (by decide +kernel)) ggX7_best_X7_within
set_option maxRecDepth 20000 in
theorem ggX7_best_X7_greatestFrom : GoodIn wsX7_best wsX7_greatestFrom := goodIn_r _ [12, 13, 14, 15, 16, 17, 18, 19, 20, 21, 22, 23, 24, 25, 26, 27, 28, 29, 30, 31, 32, 33, 34, 35, 36, 37, 38, 39, 40, 41, 42, 43, 44, 45, 46, 47, 48, 49, 50, 51, 52, 53, 54, 55, 56, 57, 58, 59, 60, 61, 62, 63, 64, 65, 66] (by decide +kernel) (by decide +kernel)
set_option maxRecDepth 20000 in
theorem gX7_best_X7_greatestFrom : GoodIn wsX7_best (wsV RX7 206 RX7 yX7_greatestFrom wsX7_greatestFrom) := goodIn_app (goodIn_of _ (by decide +kernel)) ggX7_best_X7_greatestFrom
theorem dX7_best_0 : decode cX7_best 0 = .ok (.iload_n 1, 1) := by decide +kernel
theorem dX7_best_1 : decode cX7_best 1 = .ok (.invokestatic 166, 3) := by decide +kernel
theorem dX7_best_4 : decode cX7_best 4 = .ok (.ifCond .ne 5, 3) := by decide +kernel
theorem dX7_best_7 : decode cX7_best 7 = .ok (.iconst (-1), 1) := by decide +kernel
theorem dX7_best_8 : decode cX7_best 8 = .ok (.ireturn, 1) := by decide +kernel
theorem dX7_best_9 : decode cX7_best 9 = .ok (.iload_n 2, 1) := by decide +kernel
theorem dX7_best_10 : decode cX7_best 10 = .ok (.iconst 1, 1) := by decide +kernel
theorem dX7_best_11 : decode cX7_best 11 = .ok (.bipush 10, 2) := by decide +kernel
theorem dX7_best_13 : decode cX7_best 13 = .ok (.invokestatic 136, 3) := by decide +kernel
theorem dX7_best_16 : decode cX7_best 16 = .ok (.ifCond .eq 21, 3) := by decide +kernel
theorem dX7_best_19 : decode cX7_best 19 = .ok (.aload_n 0, 1) := by decide +kernel
theorem dX7_best_20 : decode cX7_best 20 = .ok (.iload_n 1, 1) := by decide +kernel
theorem dX7_best_21 : decode cX7_best 21 = .ok (.aload_n 0, 1) := by decide +kernel
theorem dX7_best_22 : decode cX7_best 22 = .ok (.getfield 69, 3) := by decide +kernel
theorem dX7_best_25 : decode cX7_best 25 = .ok (.iload_n 1, 1) := by decide +kernel
theorem dX7_best_26 : decode cX7_best 26 = .ok (.iaload, 1) := by decide +kernel
theorem dX7_best_27 : decode cX7_best 27 = .ok (.iload_n 2, 1) := by decide +kernel
theorem dX7_best_28 : decode cX7_best 28 = .ok (.isub, 1) := by decide +kernel
theorem dX7_best_29 : decode cX7_best 29 = .ok (.iconst 1, 1) := by decide +kernel
theorem dX7_best_30 : decode cX7_best 30 = .ok (.iadd, 1) := by decide +kernel
theorem dX7_best_31 : decode cX7_best 31 = .ok (.invokevirtual 206, 3) := by decide +kernel
theorem dX7_best_34 : decode cX7_best 34 = .ok (.goto 5, 3) := by decide +kernel
theorem dX7_best_37 : decode cX7_best 37 = .ok (.bipush (-2), 2) := by decide +kernel
theorem dX7_best_39 : decode cX7_best 39 = .ok (.ireturn, 1) := by decide +kernel
set_option maxRecDepth 20000 in
theorem ggX7_letter_X7_isSender : GoodIn wsX7_letter wsX7_isSender := goodIn_r _ [9, 10, 11, 8, 12] (by decide +kernel) (by decide +kernel)
set_option maxRecDepth 20000 in
theorem gX7_letter_X7_isSender : GoodIn wsX7_letter (va_wsS RX7 166 yX7_isSender wsX7_isSender) := goodIn_app (goodIn_of _ (by decide +kernel)) ggX7_letter_X7_isSender
set_option maxRecDepth 20000 in
theorem ggX7_letter_X7_within : GoodIn wsX7_letter wsX7_within := goodIn_r _ [12] (by decide +kernel) (by decide +kernel)
set_option maxRecDepth 20000 in
theorem gX7_letter_X7_within : GoodIn wsX7_letter (va_wsS RX7 136 yX7_within wsX7_within) := goodIn_app (goodIn_of _ (by decide +kernel)) ggX7_letter_X7_within
theorem dX7_letter_0 : decode cX7_letter 0 = .ok (.iload_n 1, 1) := by decide +kernel
theorem dX7_letter_1 : decode cX7_letter 1 = .ok (.invokestatic 166, 3) := by decide +kernel
theorem dX7_letter_4 : decode cX7_letter 4 = .ok (.ifCond .eq 19, 3) := by decide +kernel
theorem dX7_letter_7 : decode cX7_letter 7 = .ok (.iload_n 2, 1) := by decide +kernel
theorem dX7_letter_8 : decode cX7_letter 8 = .ok (.iconst 0, 1) := by decide +kernel
theorem dX7_letter_9 : decode cX7_letter 9 = .ok (.aload_n 0, 1) := by decide +kernel
theorem dX7_letter_10 : decode cX7_letter 10 = .ok (.getfield 32, 3) := by decide +kernel
theorem dX7_letter_13 : decode cX7_letter 13 = .ok (.iload_n 1, 1) := by decide +kernel
theorem dX7_letter_14 : decode cX7_letter 14 = .ok (.iaload, 1) := by decide +kernel
theorem dX7_letter_15 : decode cX7_letter 15 = .ok (.iconst 1, 1) := by decide +kernel
theorem dX7_letter_16 : decode cX7_letter 16 = .ok (.isub, 1) := by decide +kernel
theorem dX7_letter_17 : decode cX7_letter 17 = .ok (.invokestatic 136, 3) := by decide +kernel
theorem dX7_letter_20 : decode cX7_letter 20 = .ok (.ifCond .ne 5, 3) := by decide +kernel
theorem dX7_letter_23 : decode cX7_letter 23 = .ok (.iconst (-1), 1) := by decide +kernel
theorem dX7_letter_24 : decode cX7_letter 24 = .ok (.ireturn, 1) := by decide +kernel
theorem dX7_letter_25 : decode cX7_letter 25 = .ok (.sipush 512, 3) := by decide +kernel
theorem dX7_letter_28 : decode cX7_letter 28 = .ok (.iload_n 1, 1) := by decide +kernel
theorem dX7_letter_29 : decode cX7_letter 29 = .ok (.imul, 1) := by decide +kernel
theorem dX7_letter_30 : decode cX7_letter 30 = .ok (.iload_n 2, 1) := by decide +kernel
theorem dX7_letter_31 : decode cX7_letter 31 = .ok (.iadd, 1) := by decide +kernel
theorem dX7_letter_32 : decode cX7_letter 32 = .ok (.istore 4, 2) := by decide +kernel
theorem dX7_letter_34 : decode cX7_letter 34 = .ok (.iload_n 3, 1) := by decide +kernel
theorem dX7_letter_35 : decode cX7_letter 35 = .ok (.tableswitch 79 0 3 #[29, 37, 45, 61], 29) := by decide +kernel
theorem dX7_letter_64 : decode cX7_letter 64 = .ok (.aload_n 0, 1) := by decide +kernel
theorem dX7_letter_65 : decode cX7_letter 65 = .ok (.getfield 35, 3) := by decide +kernel
theorem dX7_letter_68 : decode cX7_letter 68 = .ok (.iload 4, 2) := by decide +kernel
theorem dX7_letter_70 : decode cX7_letter 70 = .ok (.iaload, 1) := by decide +kernel
theorem dX7_letter_71 : decode cX7_letter 71 = .ok (.ireturn, 1) := by decide +kernel
theorem dX7_letter_72 : decode cX7_letter 72 = .ok (.aload_n 0, 1) := by decide +kernel
theorem dX7_letter_73 : decode cX7_letter 73 = .ok (.getfield 38, 3) := by decide +kernel
theorem dX7_letter_76 : decode cX7_letter 76 = .ok (.iload 4, 2) := by decide +kernel
theorem dX7_letter_78 : decode cX7_letter 78 = .ok (.iaload, 1) := by decide +kernel
theorem dX7_letter_79 : decode cX7_letter 79 = .ok (.ireturn, 1) := by decide +kernel
theorem dX7_letter_80 : decode cX7_letter 80 = .ok (.aload_n 0, 1) := by decide +kernel
theorem dX7_letter_81 : decode cX7_letter 81 = .ok (.getfield 47, 3) := by decide +kernel
theorem dX7_letter_84 : decode cX7_letter 84 = .ok (.iload 4, 2) := by decide +kernel
theorem dX7_letter_86 : decode cX7_letter 86 = .ok (.baload, 1) := by decide +kernel
theorem dX7_letter_87 : decode cX7_letter 87 = .ok (.ifCond .eq 7, 3) := by decide +kernel
theorem dX7_letter_90 : decode cX7_letter 90 = .ok (.iconst 1, 1) := by decide +kernel
theorem dX7_letter_91 : decode cX7_letter 91 = .ok (.goto 4, 3) := by decide +kernel
theorem dX7_letter_94 : decode cX7_letter 94 = .ok (.iconst 0, 1) := by decide +kernel
theorem dX7_letter_95 : decode cX7_letter 95 = .ok (.ireturn, 1) := by decide +kernel
theorem dX7_letter_96 : decode cX7_letter 96 = .ok (.aload_n 0, 1) := by decide +kernel
theorem dX7_letter_97 : decode cX7_letter 97 = .ok (.getfield 51, 3) := by decide +kernel
theorem dX7_letter_100 : decode cX7_letter 100 = .ok (.iload 4, 2) := by decide +kernel
theorem dX7_letter_102 : decode cX7_letter 102 = .ok (.iaload, 1) := by decide +kernel
theorem dX7_letter_103 : decode cX7_letter 103 = .ok (.bipush (-9), 2) := by decide +kernel
theorem dX7_letter_105 : decode cX7_letter 105 = .ok (.if_icmp .eq 7, 3) := by decide +kernel
theorem dX7_letter_108 : decode cX7_letter 108 = .ok (.iconst 1, 1) := by decide +kernel
theorem dX7_letter_109 : decode cX7_letter 109 = .ok (.goto 4, 3) := by decide +kernel
theorem dX7_letter_112 : decode cX7_letter 112 = .ok (.iconst 0, 1) := by decide +kernel
theorem dX7_letter_113 : decode cX7_letter 113 = .ok (.ireturn, 1) := by decide +kernel
theorem dX7_letter_114 : decode cX7_letter 114 = .ok (.bipush (-2), 2) := by decide +kernel
theorem dX7_letter_116 : decode cX7_letter 116 = .ok (.ireturn, 1) := by decide +kernel
set_option maxRecDepth 20000 in
theorem ggX7_phase_X7_isSender : GoodIn wsX7_phase wsX7_isSender := goodIn_r _ [8, 9, 10, 7, 11] (by decide +kernel) (by decide +kernel)
set_option maxRecDepth 20000 in
theorem gX7_phase_X7_isSender : GoodIn wsX7_phase (va_wsS RX7 166 yX7_isSender wsX7_isSender) := goodIn_app (goodIn_of _ (by decide +kernel)) ggX7_phase_X7_isSender
set_option maxRecDepth 20000 in
theorem ggX7_phase_X7_within : GoodIn wsX7_phase wsX7_within := goodIn_r _ [11] (by decide +kernel) (by decide +kernel)
set_option maxRecDepth 20000 in
theorem gX7_phase_X7_within : GoodIn wsX7_phase (va_wsS RX7 136 yX7_within wsX7_within) := goodIn_app (goodIn_of _ (by decide +kernel)) ggX7_phase_X7_within
theorem dX7_phase_0 : decode cX7_phase 0 = .ok (.iload_n 1, 1) := by decide +kernel
theorem dX7_phase_1 : decode cX7_phase 1 = .ok (.invokestatic 166, 3) := by decide +kernel
theorem dX7_phase_4 : decode cX7_phase 4 = .ok (.ifCond .ne 5, 3) := by decide +kernel
theorem dX7_phase_7 : decode cX7_phase 7 = .ok (.iconst (-1), 1) := by decide +kernel
theorem dX7_phase_8 : decode cX7_phase 8 = .ok (.ireturn, 1) := by decide +kernel
theorem dX7_phase_9 : decode cX7_phase 9 = .ok (.iload_n 2, 1) := by decide +kernel
theorem dX7_phase_10 : decode cX7_phase 10 = .ok (.iconst 0, 1) := by decide +kernel
theorem dX7_phase_11 : decode cX7_phase 11 = .ok (.iconst 1, 1) := by decide +kernel
theorem dX7_phase_12 : decode cX7_phase 12 = .ok (.invokestatic 136, 3) := by decide +kernel
theorem dX7_phase_15 : decode cX7_phase 15 = .ok (.ifCond .ne 6, 3) := by decide +kernel
theorem dX7_phase_18 : decode cX7_phase 18 = .ok (.bipush (-2), 2) := by decide +kernel
theorem dX7_phase_20 : decode cX7_phase 20 = .ok (.ireturn, 1) := by decide +kernel
theorem dX7_phase_21 : decode cX7_phase 21 = .ok (.aload_n 0, 1) := by decide +kernel
theorem dX7_phase_22 : decode cX7_phase 22 = .ok (.getfield 103, 3) := by decide +kernel
theorem dX7_phase_25 : decode cX7_phase 25 = .ok (.iload_n 1, 1) := by decide +kernel
theorem dX7_phase_26 : decode cX7_phase 26 = .ok (.iaload, 1) := by decide +kernel
theorem dX7_phase_27 : decode cX7_phase 27 = .ok (.iconst 2, 1) := by decide +kernel
theorem dX7_phase_28 : decode cX7_phase 28 = .ok (.if_icmp .eq 6, 3) := by decide +kernel
theorem dX7_phase_31 : decode cX7_phase 31 = .ok (.bipush (-9), 2) := by decide +kernel
theorem dX7_phase_33 : decode cX7_phase 33 = .ok (.ireturn, 1) := by decide +kernel
theorem dX7_phase_34 : decode cX7_phase 34 = .ok (.iload_n 2, 1) := by decide +kernel
theorem dX7_phase_35 : decode cX7_phase 35 = .ok (.ifCond .ne 12, 3) := by decide +kernel
theorem dX7_phase_38 : decode cX7_phase 38 = .ok (.aload_n 0, 1) := by decide +kernel
theorem dX7_phase_39 : decode cX7_phase 39 = .ok (.getfield 106, 3) := by decide +kernel
theorem dX7_phase_42 : decode cX7_phase 42 = .ok (.iload_n 1, 1) := by decide +kernel
theorem dX7_phase_43 : decode cX7_phase 43 = .ok (.iaload, 1) := by decide +kernel
theorem dX7_phase_44 : decode cX7_phase 44 = .ok (.goto 14, 3) := by decide +kernel
theorem dX7_phase_47 : decode cX7_phase 47 = .ok (.aload_n 0, 1) := by decide +kernel
theorem dX7_phase_48 : decode cX7_phase 48 = .ok (.getfield 146, 3) := by decide +kernel
theorem dX7_phase_51 : decode cX7_phase 51 = .ok (.aload_n 0, 1) := by decide +kernel
theorem dX7_phase_52 : decode cX7_phase 52 = .ok (.getfield 109, 3) := by decide +kernel
theorem dX7_phase_55 : decode cX7_phase 55 = .ok (.iload_n 1, 1) := by decide +kernel
theorem dX7_phase_56 : decode cX7_phase 56 = .ok (.iaload, 1) := by decide +kernel
theorem dX7_phase_57 : decode cX7_phase 57 = .ok (.isub, 1) := by decide +kernel
theorem dX7_phase_58 : decode cX7_phase 58 = .ok (.ireturn, 1) := by decide +kernel
theorem dX7_untilEnd_0 : decode cX7_untilEnd 0 = .ok (.aload_n 0, 1) := by decide +kernel
theorem dX7_untilEnd_1 : decode cX7_untilEnd 1 = .ok (.getfield 103, 3) := by decide +kernel
theorem dX7_untilEnd_4 : decode cX7_untilEnd 4 = .ok (.iload_n 1, 1) := by decide +kernel
theorem dX7_untilEnd_5 : decode cX7_untilEnd 5 = .ok (.iaload, 1) := by decide +kernel
theorem dX7_untilEnd_6 : decode cX7_untilEnd 6 = .ok (.iconst 3, 1) := by decide +kernel
theorem dX7_untilEnd_7 : decode cX7_untilEnd 7 = .ok (.if_icmp .ne 14, 3) := by decide +kernel
theorem dX7_untilEnd_10 : decode cX7_untilEnd 10 = .ok (.aload_n 0, 1) := by decide +kernel
theorem dX7_untilEnd_11 : decode cX7_untilEnd 11 = .ok (.getfield 115, 3) := by decide +kernel
theorem dX7_untilEnd_14 : decode cX7_untilEnd 14 = .ok (.iload_n 1, 1) := by decide +kernel
theorem dX7_untilEnd_15 : decode cX7_untilEnd 15 = .ok (.iaload, 1) := by decide +kernel
theorem dX7_untilEnd_16 : decode cX7_untilEnd 16 = .ok (.bipush (-9), 2) := by decide +kernel
theorem dX7_untilEnd_18 : decode cX7_untilEnd 18 = .ok (.if_icmp .ne 6, 3) := by decide +kernel
theorem dX7_untilEnd_21 : decode cX7_untilEnd 21 = .ok (.bipush (-9), 2) := by decide +kernel
theorem dX7_untilEnd_23 : decode cX7_untilEnd 23 = .ok (.ireturn, 1) := by decide +kernel
theorem dX7_untilEnd_24 : decode cX7_untilEnd 24 = .ok (.aload_n 0, 1) := by decide +kernel
theorem dX7_untilEnd_25 : decode cX7_untilEnd 25 = .ok (.getfield 115, 3) := by decide +kernel
theorem dX7_untilEnd_28 : decode cX7_untilEnd 28 = .ok (.iload_n 1, 1) := by decide +kernel
theorem dX7_untilEnd_29 : decode cX7_untilEnd 29 = .ok (.iaload, 1) := by decide +kernel
theorem dX7_untilEnd_30 : decode cX7_untilEnd 30 = .ok (.aload_n 0, 1) := by decide +kernel
theorem dX7_untilEnd_31 : decode cX7_untilEnd 31 = .ok (.getfield 146, 3) := by decide +kernel
theorem dX7_untilEnd_34 : decode cX7_untilEnd 34 = .ok (.if_icmp .le 17, 3) := by decide +kernel
theorem dX7_untilEnd_37 : decode cX7_untilEnd 37 = .ok (.aload_n 0, 1) := by decide +kernel
theorem dX7_untilEnd_38 : decode cX7_untilEnd 38 = .ok (.getfield 115, 3) := by decide +kernel
theorem dX7_untilEnd_41 : decode cX7_untilEnd 41 = .ok (.iload_n 1, 1) := by decide +kernel
theorem dX7_untilEnd_42 : decode cX7_untilEnd 42 = .ok (.iaload, 1) := by decide +kernel
theorem dX7_untilEnd_43 : decode cX7_untilEnd 43 = .ok (.aload_n 0, 1) := by decide +kernel
theorem dX7_untilEnd_44 : decode cX7_untilEnd 44 = .ok (.getfield 146, 3) := by decide +kernel
theorem dX7_untilEnd_47 : decode cX7_untilEnd 47 = .ok (.isub, 1) := by decide +kernel
theorem dX7_untilEnd_48 : decode cX7_untilEnd 48 = .ok (.goto 4, 3) := by decide +kernel
theorem dX7_untilEnd_51 : decode cX7_untilEnd 51 = .ok (.iconst 0, 1) := by decide +kernel
theorem dX7_untilEnd_52 : decode cX7_untilEnd 52 = .ok (.ireturn, 1) := by decide +kernel
set_option maxRecDepth 20000 in
theorem ggX7_model_X7_isSender : GoodIn wsX7_model wsX7_isSender := goodIn_r _ [9, 10, 11, 8, 12] (by decide +kernel) (by decide +kernel)
set_option maxRecDepth 20000 in
theorem gX7_model_X7_isSender : GoodIn wsX7_model (va_wsS RX7 166 yX7_isSender wsX7_isSender) := goodIn_app (goodIn_of _ (by decide +kernel)) ggX7_model_X7_isSender
set_option maxRecDepth 20000 in
theorem ggX7_model_X7_untilEnd : GoodIn wsX7_model wsX7_untilEnd := goodIn_r _ [16, 17, 18, 4, 19, 20, 21, 22, 23, 24, 25, 26, 27, 28, 29, 30, 31, 32, 33, 34, 35, 36, 37, 38, 39, 40, 41, 42, 43, 44, 45, 46, 47, 48, 49, 50, 51, 52, 53, 54, 55, 56, 57, 58, 59, 60, 61, 62, 63, 64, 65, 66, 67, 68] (by decide +kernel) (by decide +kernel)
set_option maxRecDepth 20000 in
theorem gX7_model_X7_untilEnd : GoodIn wsX7_model (wsV RX7 272 RX7 yX7_untilEnd wsX7_untilEnd) := goodIn_app (goodIn_of _ (by decide +kernel)) ggX7_model_X7_untilEnd
theorem dX7_model_0 : decode cX7_model 0 = .ok (.iload_n 1, 1) := by decide +kernel
theorem dX7_model_1 : decode cX7_model 1 = .ok (.invokestatic 166, 3) := by decide +kernel
theorem dX7_model_4 : decode cX7_model 4 = .ok (.ifCond .ne 5, 3) := by decide +kernel
theorem dX7_model_7 : decode cX7_model 7 = .ok (.iconst (-1), 1) := by decide +kernel
theorem dX7_model_8 : decode cX7_model 8 = .ok (.ireturn, 1) := by decide +kernel
theorem dX7_model_9 : decode cX7_model 9 = .ok (.iload_n 2, 1) := by decide +kernel
theorem dX7_model_10 : decode cX7_model 10 = .ok (.tableswitch 81 0 4 #[34, 49, 56, 63, 75], 34) := by decide +kernel
theorem dX7_model_44 : decode cX7_model 44 = .ok (.aload_n 0, 1) := by decide +kernel
theorem dX7_model_45 : decode cX7_model 45 = .ok (.getfield 118, 3) := by decide +kernel
theorem dX7_model_48 : decode cX7_model 48 = .ok (.iload_n 1, 1) := by decide +kernel
theorem dX7_model_49 : decode cX7_model 49 = .ok (.baload, 1) := by decide +kernel
theorem dX7_model_50 : decode cX7_model 50 = .ok (.ifCond .eq 7, 3) := by decide +kernel
theorem dX7_model_53 : decode cX7_model 53 = .ok (.iconst 1, 1) := by decide +kernel
theorem dX7_model_54 : decode cX7_model 54 = .ok (.goto 4, 3) := by decide +kernel
theorem dX7_model_57 : decode cX7_model 57 = .ok (.iconst 0, 1) := by decide +kernel
theorem dX7_model_58 : decode cX7_model 58 = .ok (.ireturn, 1) := by decide +kernel
theorem dX7_model_59 : decode cX7_model 59 = .ok (.aload_n 0, 1) := by decide +kernel
theorem dX7_model_60 : decode cX7_model 60 = .ok (.getfield 121, 3) := by decide +kernel
theorem dX7_model_63 : decode cX7_model 63 = .ok (.iload_n 1, 1) := by decide +kernel
theorem dX7_model_64 : decode cX7_model 64 = .ok (.iaload, 1) := by decide +kernel
theorem dX7_model_65 : decode cX7_model 65 = .ok (.ireturn, 1) := by decide +kernel
theorem dX7_model_66 : decode cX7_model 66 = .ok (.aload_n 0, 1) := by decide +kernel
theorem dX7_model_67 : decode cX7_model 67 = .ok (.getfield 124, 3) := by decide +kernel
theorem dX7_model_70 : decode cX7_model 70 = .ok (.iload_n 1, 1) := by decide +kernel
theorem dX7_model_71 : decode cX7_model 71 = .ok (.iaload, 1) := by decide +kernel
theorem dX7_model_72 : decode cX7_model 72 = .ok (.ireturn, 1) := by decide +kernel
theorem dX7_model_73 : decode cX7_model 73 = .ok (.aload_n 0, 1) := by decide +kernel
theorem dX7_model_74 : decode cX7_model 74 = .ok (.getfield 146, 3) := by decide +kernel
theorem dX7_model_77 : decode cX7_model 77 = .ok (.aload_n 0, 1) := by decide +kernel
theorem dX7_model_78 : decode cX7_model 78 = .ok (.getfield 81, 3) := by decide +kernel
theorem dX7_model_81 : decode cX7_model 81 = .ok (.iload_n 1, 1) := by decide +kernel
theorem dX7_model_82 : decode cX7_model 82 = .ok (.iaload, 1) := by decide +kernel
theorem dX7_model_83 : decode cX7_model 83 = .ok (.isub, 1) := by decide +kernel
theorem dX7_model_84 : decode cX7_model 84 = .ok (.ireturn, 1) := by decide +kernel
theorem dX7_model_85 : decode cX7_model 85 = .ok (.aload_n 0, 1) := by decide +kernel
theorem dX7_model_86 : decode cX7_model 86 = .ok (.iload_n 1, 1) := by decide +kernel
theorem dX7_model_87 : decode cX7_model 87 = .ok (.invokevirtual 272, 3) := by decide +kernel
theorem dX7_model_90 : decode cX7_model 90 = .ok (.ireturn, 1) := by decide +kernel
theorem dX7_model_91 : decode cX7_model 91 = .ok (.bipush (-2), 2) := by decide +kernel
theorem dX7_model_93 : decode cX7_model 93 = .ok (.ireturn, 1) := by decide +kernel
set_option maxRecDepth 20000 in
theorem ggX7_turn_X7_isSender : GoodIn wsX7_turn wsX7_isSender := goodIn_r _ [7, 8, 9, 6, 10] (by decide +kernel) (by decide +kernel)
set_option maxRecDepth 20000 in
theorem gX7_turn_X7_isSender : GoodIn wsX7_turn (va_wsS RX7 166 yX7_isSender wsX7_isSender) := goodIn_app (goodIn_of _ (by decide +kernel)) ggX7_turn_X7_isSender
set_option maxRecDepth 20000 in
theorem ggX7_turn_X7_within : GoodIn wsX7_turn wsX7_within := goodIn_r _ [10] (by decide +kernel) (by decide +kernel)
set_option maxRecDepth 20000 in
theorem gX7_turn_X7_within : GoodIn wsX7_turn (va_wsS RX7 136 yX7_within wsX7_within) := goodIn_app (goodIn_of _ (by decide +kernel)) ggX7_turn_X7_within
theorem dX7_turn_0 : decode cX7_turn 0 = .ok (.iload_n 1, 1) := by decide +kernel
theorem dX7_turn_1 : decode cX7_turn 1 = .ok (.invokestatic 166, 3) := by decide +kernel
theorem dX7_turn_4 : decode cX7_turn 4 = .ok (.ifCond .eq 23, 3) := by decide +kernel
theorem dX7_turn_7 : decode cX7_turn 7 = .ok (.aload_n 0, 1) := by decide +kernel
theorem dX7_turn_8 : decode cX7_turn 8 = .ok (.getfield 127, 3) := by decide +kernel
theorem dX7_turn_11 : decode cX7_turn 11 = .ok (.iload_n 1, 1) := by decide +kernel
theorem dX7_turn_12 : decode cX7_turn 12 = .ok (.iaload, 1) := by decide +kernel
theorem dX7_turn_13 : decode cX7_turn 13 = .ok (.bipush 12, 2) := by decide +kernel
theorem dX7_turn_15 : decode cX7_turn 15 = .ok (.if_icmp .ge 12, 3) := by decide +kernel
theorem dX7_turn_18 : decode cX7_turn 18 = .ok (.aload_n 0, 1) := by decide +kernel
theorem dX7_turn_19 : decode cX7_turn 19 = .ok (.getfield 127, 3) := by decide +kernel
theorem dX7_turn_22 : decode cX7_turn 22 = .ok (.iload_n 1, 1) := by decide +kernel
theorem dX7_turn_23 : decode cX7_turn 23 = .ok (.iaload, 1) := by decide +kernel
theorem dX7_turn_24 : decode cX7_turn 24 = .ok (.goto 5, 3) := by decide +kernel
theorem dX7_turn_27 : decode cX7_turn 27 = .ok (.bipush 12, 2) := by decide +kernel
theorem dX7_turn_29 : decode cX7_turn 29 = .ok (.istore 4, 2) := by decide +kernel
theorem dX7_turn_31 : decode cX7_turn 31 = .ok (.iload_n 1, 1) := by decide +kernel
theorem dX7_turn_32 : decode cX7_turn 32 = .ok (.invokestatic 166, 3) := by decide +kernel
theorem dX7_turn_35 : decode cX7_turn 35 = .ok (.ifCond .eq 15, 3) := by decide +kernel
theorem dX7_turn_38 : decode cX7_turn 38 = .ok (.iload_n 2, 1) := by decide +kernel
theorem dX7_turn_39 : decode cX7_turn 39 = .ok (.iconst 0, 1) := by decide +kernel
theorem dX7_turn_40 : decode cX7_turn 40 = .ok (.iload 4, 2) := by decide +kernel
theorem dX7_turn_42 : decode cX7_turn 42 = .ok (.iconst 1, 1) := by decide +kernel
theorem dX7_turn_43 : decode cX7_turn 43 = .ok (.isub, 1) := by decide +kernel
theorem dX7_turn_44 : decode cX7_turn 44 = .ok (.invokestatic 136, 3) := by decide +kernel
theorem dX7_turn_47 : decode cX7_turn 47 = .ok (.ifCond .ne 5, 3) := by decide +kernel
theorem dX7_turn_50 : decode cX7_turn 50 = .ok (.iconst (-1), 1) := by decide +kernel
theorem dX7_turn_51 : decode cX7_turn 51 = .ok (.ireturn, 1) := by decide +kernel
theorem dX7_turn_52 : decode cX7_turn 52 = .ok (.iload_n 3, 1) := by decide +kernel
theorem dX7_turn_53 : decode cX7_turn 53 = .ok (.ifCond .ne 17, 3) := by decide +kernel
theorem dX7_turn_56 : decode cX7_turn 56 = .ok (.aload_n 0, 1) := by decide +kernel
theorem dX7_turn_57 : decode cX7_turn 57 = .ok (.getfield 130, 3) := by decide +kernel
theorem dX7_turn_60 : decode cX7_turn 60 = .ok (.bipush 12, 2) := by decide +kernel
theorem dX7_turn_62 : decode cX7_turn 62 = .ok (.iload_n 1, 1) := by decide +kernel
theorem dX7_turn_63 : decode cX7_turn 63 = .ok (.imul, 1) := by decide +kernel
theorem dX7_turn_64 : decode cX7_turn 64 = .ok (.iload_n 2, 1) := by decide +kernel
theorem dX7_turn_65 : decode cX7_turn 65 = .ok (.iadd, 1) := by decide +kernel
theorem dX7_turn_66 : decode cX7_turn 66 = .ok (.iaload, 1) := by decide +kernel
theorem dX7_turn_67 : decode cX7_turn 67 = .ok (.goto 24, 3) := by decide +kernel
theorem dX7_turn_70 : decode cX7_turn 70 = .ok (.iload_n 3, 1) := by decide +kernel
theorem dX7_turn_71 : decode cX7_turn 71 = .ok (.iconst 1, 1) := by decide +kernel
theorem dX7_turn_72 : decode cX7_turn 72 = .ok (.if_icmp .ne 17, 3) := by decide +kernel
theorem dX7_turn_75 : decode cX7_turn 75 = .ok (.aload_n 0, 1) := by decide +kernel
theorem dX7_turn_76 : decode cX7_turn 76 = .ok (.getfield 133, 3) := by decide +kernel
theorem dX7_turn_79 : decode cX7_turn 79 = .ok (.bipush 12, 2) := by decide +kernel
theorem dX7_turn_81 : decode cX7_turn 81 = .ok (.iload_n 1, 1) := by decide +kernel
theorem dX7_turn_82 : decode cX7_turn 82 = .ok (.imul, 1) := by decide +kernel
theorem dX7_turn_83 : decode cX7_turn 83 = .ok (.iload_n 2, 1) := by decide +kernel
theorem dX7_turn_84 : decode cX7_turn 84 = .ok (.iadd, 1) := by decide +kernel
theorem dX7_turn_85 : decode cX7_turn 85 = .ok (.iaload, 1) := by decide +kernel
theorem dX7_turn_86 : decode cX7_turn 86 = .ok (.goto 5, 3) := by decide +kernel
theorem dX7_turn_89 : decode cX7_turn 89 = .ok (.bipush (-2), 2) := by decide +kernel
theorem dX7_turn_91 : decode cX7_turn 91 = .ok (.ireturn, 1) := by decide +kernel
theorem dX7_many_0 : decode cX7_many 0 = .ok (.iload_n 1, 1) := by decide +kernel
theorem dX7_many_1 : decode cX7_many 1 = .ok (.tableswitch 78 0 4 #[35, 40, 45, 59, 73], 35) := by decide +kernel
theorem dX7_many_36 : decode cX7_many 36 = .ok (.aload_n 0, 1) := by decide +kernel
theorem dX7_many_37 : decode cX7_many 37 = .ok (.getfield 146, 3) := by decide +kernel
theorem dX7_many_40 : decode cX7_many 40 = .ok (.ireturn, 1) := by decide +kernel
theorem dX7_many_41 : decode cX7_many 41 = .ok (.aload_n 0, 1) := by decide +kernel
theorem dX7_many_42 : decode cX7_many 42 = .ok (.getfield 233, 3) := by decide +kernel
theorem dX7_many_45 : decode cX7_many 45 = .ok (.ireturn, 1) := by decide +kernel
theorem dX7_many_46 : decode cX7_many 46 = .ok (.aload_n 0, 1) := by decide +kernel
theorem dX7_many_47 : decode cX7_many 47 = .ok (.getfield 88, 3) := by decide +kernel
theorem dX7_many_50 : decode cX7_many 50 = .ok (.iconst 0, 1) := by decide +kernel
theorem dX7_many_51 : decode cX7_many 51 = .ok (.iaload, 1) := by decide +kernel
theorem dX7_many_52 : decode cX7_many 52 = .ok (.aload_n 0, 1) := by decide +kernel
theorem dX7_many_53 : decode cX7_many 53 = .ok (.getfield 88, 3) := by decide +kernel
theorem dX7_many_56 : decode cX7_many 56 = .ok (.iconst 1, 1) := by decide +kernel
theorem dX7_many_57 : decode cX7_many 57 = .ok (.iaload, 1) := by decide +kernel
theorem dX7_many_58 : decode cX7_many 58 = .ok (.iadd, 1) := by decide +kernel
theorem dX7_many_59 : decode cX7_many 59 = .ok (.ireturn, 1) := by decide +kernel
theorem dX7_many_60 : decode cX7_many 60 = .ok (.aload_n 0, 1) := by decide +kernel
theorem dX7_many_61 : decode cX7_many 61 = .ok (.getfield 127, 3) := by decide +kernel
theorem dX7_many_64 : decode cX7_many 64 = .ok (.iconst 0, 1) := by decide +kernel
theorem dX7_many_65 : decode cX7_many 65 = .ok (.iaload, 1) := by decide +kernel
theorem dX7_many_66 : decode cX7_many 66 = .ok (.aload_n 0, 1) := by decide +kernel
theorem dX7_many_67 : decode cX7_many 67 = .ok (.getfield 127, 3) := by decide +kernel
theorem dX7_many_70 : decode cX7_many 70 = .ok (.iconst 1, 1) := by decide +kernel
theorem dX7_many_71 : decode cX7_many 71 = .ok (.iaload, 1) := by decide +kernel
theorem dX7_many_72 : decode cX7_many 72 = .ok (.iadd, 1) := by decide +kernel
theorem dX7_many_73 : decode cX7_many 73 = .ok (.ireturn, 1) := by decide +kernel
theorem dX7_many_74 : decode cX7_many 74 = .ok (.aload_n 0, 1) := by decide +kernel
theorem dX7_many_75 : decode cX7_many 75 = .ok (.getfield 261, 3) := by decide +kernel
theorem dX7_many_78 : decode cX7_many 78 = .ok (.ireturn, 1) := by decide +kernel
theorem dX7_many_79 : decode cX7_many 79 = .ok (.bipush (-2), 2) := by decide +kernel
theorem dX7_many_81 : decode cX7_many 81 = .ok (.ireturn, 1) := by decide +kernel
theorem dJ9_max_7cf53_0 : decode cJ9_max_7cf53 0 = .ok (.iload_n 0, 1) := by decide +kernel
theorem dJ9_max_7cf53_1 : decode cJ9_max_7cf53 1 = .ok (.iload_n 1, 1) := by decide +kernel
theorem dJ9_max_7cf53_2 : decode cJ9_max_7cf53 2 = .ok (.if_icmp .lt 7, 3) := by decide +kernel
theorem dJ9_max_7cf53_5 : decode cJ9_max_7cf53 5 = .ok (.iload_n 0, 1) := by decide +kernel
theorem dJ9_max_7cf53_6 : decode cJ9_max_7cf53 6 = .ok (.goto 4, 3) := by decide +kernel
theorem dJ9_max_7cf53_9 : decode cJ9_max_7cf53 9 = .ok (.iload_n 1, 1) := by decide +kernel
theorem dJ9_max_7cf53_10 : decode cJ9_max_7cf53 10 = .ok (.ireturn, 1) := by decide +kernel
theorem dJ9_max_f86c9_0 : decode cJ9_max_f86c9 0 = .ok (.lload_n 0, 1) := by decide +kernel
theorem dJ9_max_f86c9_1 : decode cJ9_max_f86c9 1 = .ok (.lload_n 2, 1) := by decide +kernel
theorem dJ9_max_f86c9_2 : decode cJ9_max_f86c9 2 = .ok (.lcmp, 1) := by decide +kernel
theorem dJ9_max_f86c9_3 : decode cJ9_max_f86c9 3 = .ok (.ifCond .lt 7, 3) := by decide +kernel
theorem dJ9_max_f86c9_6 : decode cJ9_max_f86c9 6 = .ok (.lload_n 0, 1) := by decide +kernel
theorem dJ9_max_f86c9_7 : decode cJ9_max_f86c9 7 = .ok (.goto 4, 3) := by decide +kernel
theorem dJ9_max_f86c9_10 : decode cJ9_max_f86c9 10 = .ok (.lload_n 2, 1) := by decide +kernel
theorem dJ9_max_f86c9_11 : decode cJ9_max_f86c9 11 = .ok (.lreturn, 1) := by decide +kernel

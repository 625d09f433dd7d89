theorem dX7_tighten_14 : decode cX7_tighten 14 = .ok (.sipush 1000, 3) := by decide +kernel
theorem dX7_tighten_17 : decode cX7_tighten 17 = .ok (.if_icmp .le 20, 3) := by decide +kernel
theorem dX7_tighten_20 : decode cX7_tighten 20 = .ok (.aload_n 0, 1) := by decide +kernel
theorem dX7_tighten_21 : decode cX7_tighten 21 = .ok (.sipush 1000, 3) := by decide +kernel
theorem dX7_tighten_24 : decode cX7_tighten 24 = .ok (.putfield 7, 3) := by decide +kernel
theorem dX7_tighten_27 : decode cX7_tighten 27 = .ok (.aload_n 0, 1) := by decide +kernel
theorem dX7_tighten_28 : decode cX7_tighten 28 = .ok (.dup, 1) := by decide +kernel
theorem dX7_tighten_29 : decode cX7_tighten 29 = .ok (.getfield 16, 3) := by decide +kernel
theorem dX7_tighten_32 : decode cX7_tighten 32 = .ok (.iconst 1, 1) := by decide +kernel
theorem dX7_tighten_33 : decode cX7_tighten 33 = .ok (.iadd, 1) := by decide +kernel
theorem dX7_tighten_34 : decode cX7_tighten 34 = .ok (.putfield 16, 3) := by decide +kernel
theorem dX7_tighten_37 : decode cX7_tighten 37 = .ok (.return_, 1) := by decide +kernel
set_option maxRecDepth 20000 in
theorem ggX7_makeStep_X7_wear : GoodIn wsX7_makeStep wsX7_wear := goodIn_r _ [9, 4, 10, 11, 12, 13, 18, 19, 20, 21, 22] (by decide +kernel) (by decide +kernel)
set_option maxRecDepth 20000 in
theorem gX7_makeStep_X7_wear : GoodIn wsX7_makeStep (wsV RX7 31 RX7 yX7_wear wsX7_wear) := goodIn_app (goodIn_of _ (by decide +kernel)) ggX7_makeStep_X7_wear
set_option maxRecDepth 20000 in
theorem ggX7_makeStep_X7_ticksOfStep : GoodIn wsX7_makeStep wsX7_ticksOfStep := goodIn_r _ [17, 2, 18, 19, 20, 21, 22] (by decide +kernel) (by decide +kernel)
set_option maxRecDepth 20000 in
theorem gX7_makeStep_X7_ticksOfStep : GoodIn wsX7_makeStep (wsV RX7 35 RX7 yX7_ticksOfStep wsX7_ticksOfStep) := goodIn_app (goodIn_of _ (by decide +kernel)) ggX7_makeStep_X7_ticksOfStep
theorem dX7_makeStep_0 : decode cX7_makeStep 0 = .ok (.aload_n 0, 1) := by decide +kernel
theorem dX7_makeStep_1 : decode cX7_makeStep 1 = .ok (.getfield 13, 3) := by decide +kernel
theorem dX7_makeStep_4 : decode cX7_makeStep 4 = .ok (.aload_n 0, 1) := by decide +kernel
theorem dX7_makeStep_5 : decode cX7_makeStep 5 = .ok (.invokevirtual 31, 3) := by decide +kernel
theorem dX7_makeStep_8 : decode cX7_makeStep 8 = .ok (.iadd, 1) := by decide +kernel
theorem dX7_makeStep_9 : decode cX7_makeStep 9 = .ok (.istore_n 1, 1) := by decide +kernel
theorem dX7_makeStep_10 : decode cX7_makeStep 10 = .ok (.aload_n 0, 1) := by decide +kernel
theorem dX7_makeStep_11 : decode cX7_makeStep 11 = .ok (.getfield 7, 3) := by decide +kernel
theorem dX7_makeStep_14 : decode cX7_makeStep 14 = .ok (.iload_n 1, 1) := by decide +kernel
theorem dX7_makeStep_15 : decode cX7_makeStep 15 = .ok (.if_icmp .ge 5, 3) := by decide +kernel
theorem dX7_makeStep_18 : decode cX7_makeStep 18 = .ok (.iconst 0, 1) := by decide +kernel
theorem dX7_makeStep_19 : decode cX7_makeStep 19 = .ok (.ireturn, 1) := by decide +kernel
theorem dX7_makeStep_20 : decode cX7_makeStep 20 = .ok (.aload_n 0, 1) := by decide +kernel
theorem dX7_makeStep_21 : decode cX7_makeStep 21 = .ok (.dup, 1) := by decide +kernel
theorem dX7_makeStep_22 : decode cX7_makeStep 22 = .ok (.getfield 19, 3) := by decide +kernel
theorem dX7_makeStep_25 : decode cX7_makeStep 25 = .ok (.aload_n 0, 1) := by decide +kernel
theorem dX7_makeStep_26 : decode cX7_makeStep 26 = .ok (.invokevirtual 35, 3) := by decide +kernel
theorem dX7_makeStep_29 : decode cX7_makeStep 29 = .ok (.iadd, 1) := by decide +kernel
theorem dX7_makeStep_30 : decode cX7_makeStep 30 = .ok (.putfield 19, 3) := by decide +kernel
theorem dX7_makeStep_33 : decode cX7_makeStep 33 = .ok (.aload_n 0, 1) := by decide +kernel
theorem dX7_makeStep_34 : decode cX7_makeStep 34 = .ok (.dup, 1) := by decide +kernel
theorem dX7_makeStep_35 : decode cX7_makeStep 35 = .ok (.getfield 7, 3) := by decide +kernel
theorem dX7_makeStep_38 : decode cX7_makeStep 38 = .ok (.iload_n 1, 1) := by decide +kernel
theorem dX7_makeStep_39 : decode cX7_makeStep 39 = .ok (.isub, 1) := by decide +kernel
theorem dX7_makeStep_40 : decode cX7_makeStep 40 = .ok (.putfield 7, 3) := by decide +kernel
theorem dX7_makeStep_43 : decode cX7_makeStep 43 = .ok (.aload_n 0, 1) := by decide +kernel
theorem dX7_makeStep_44 : decode cX7_makeStep 44 = .ok (.dup, 1) := by decide +kernel
theorem dX7_makeStep_45 : decode cX7_makeStep 45 = .ok (.getfield 22, 3) := by decide +kernel
theorem dX7_makeStep_48 : decode cX7_makeStep 48 = .ok (.iconst 1, 1) := by decide +kernel
theorem dX7_makeStep_49 : decode cX7_makeStep 49 = .ok (.iadd, 1) := by decide +kernel
theorem dX7_makeStep_50 : decode cX7_makeStep 50 = .ok (.putfield 22, 3) := by decide +kernel
theorem dX7_makeStep_53 : decode cX7_makeStep 53 = .ok (.iconst 1, 1) := by decide +kernel
theorem dX7_makeStep_54 : decode cX7_makeStep 54 = .ok (.ireturn, 1) := by decide +kernel
theorem dX7_ticksOfStep_0 : decode cX7_ticksOfStep 0 = .ok (.aload_n 0, 1) := by decide +kernel
theorem dX7_ticksOfStep_1 : decode cX7_ticksOfStep 1 = .ok (.getfield 7, 3) := by decide +kernel
theorem dX7_ticksOfStep_4 : decode cX7_ticksOfStep 4 = .ok (.sipush 500, 3) := by decide +kernel
theorem dX7_ticksOfStep_7 : decode cX7_ticksOfStep 7 = .ok (.if_icmp .lt 5, 3) := by decide +kernel
theorem dX7_ticksOfStep_10 : decode cX7_ticksOfStep 10 = .ok (.iconst 1, 1) := by decide +kernel
theorem dX7_ticksOfStep_11 : decode cX7_ticksOfStep 11 = .ok (.ireturn, 1) := by decide +kernel
theorem dX7_ticksOfStep_12 : decode cX7_ticksOfStep 12 = .ok (.aload_n 0, 1) := by decide +kernel
theorem dX7_ticksOfStep_13 : decode cX7_ticksOfStep 13 = .ok (.getfield 7, 3) := by decide +kernel
theorem dX7_ticksOfStep_16 : decode cX7_ticksOfStep 16 = .ok (.sipush 200, 3) := by decide +kernel
theorem dX7_ticksOfStep_19 : decode cX7_ticksOfStep 19 = .ok (.if_icmp .lt 7, 3) := by decide +kernel
theorem dX7_ticksOfStep_22 : decode cX7_ticksOfStep 22 = .ok (.iconst 2, 1) := by decide +kernel
theorem dX7_ticksOfStep_23 : decode cX7_ticksOfStep 23 = .ok (.goto 4, 3) := by decide +kernel
theorem dX7_ticksOfStep_26 : decode cX7_ticksOfStep 26 = .ok (.iconst 4, 1) := by decide +kernel
theorem dX7_ticksOfStep_27 : decode cX7_ticksOfStep 27 = .ok (.ireturn, 1) := by decide +kernel
set_option maxRecDepth 20000 in
theorem ggX8_init_X0_init : GoodIn wsX8_init wsX0_init := goodIn_r _ [41, 42, 2, 3, 43, 36, 44, 45, 46, 47, 48, 106, 107, 108, 109] (by decide +kernel) (by decide +kernel)
set_option maxRecDepth 20000 in
theorem gX8_init_X0_init_n9 : GoodIn wsX8_init (wsX0_init) := ggX8_init_X0_init
set_option maxRecDepth 20000 in
theorem ggX8_init_X5_init : GoodIn wsX8_init wsX5_init := goodIn_r _ [50, 51, 2, 3, 36, 52, 53, 54, 55, 56, 57, 121, 122, 123, 124, 125, 126] (by decide +kernel) (by decide +kernel)
set_option maxRecDepth 20000 in
theorem gX8_init_X5_init_n18 : GoodIn wsX8_init (wsX5_init) := ggX8_init_X5_init
set_option maxRecDepth 20000 in
theorem ggX8_init_X7_init : GoodIn wsX8_init wsX7_init := goodIn_r _ [59, 60, 2, 3, 61, 62, 63, 64, 65, 127, 128, 129, 130, 131] (by decide +kernel) (by decide +kernel)
set_option maxRecDepth 20000 in
theorem gX8_init_X7_init_n25 : GoodIn wsX8_init (wsX7_init) := ggX8_init_X7_init
set_option maxRecDepth 20000 in
theorem ggX8_init_X6_init : GoodIn wsX8_init wsX6_init := goodIn_r _ [68, 69, 2, 3, 70, 71, 36, 72, 132, 133] (by decide +kernel) (by decide +kernel)
set_option maxRecDepth 20000 in
theorem gX8_init_X6_init : GoodIn wsX8_init (wsX6_init) := ggX8_init_X6_init
set_option maxRecDepth 20000 in
theorem ggX8_init_X1_init : GoodIn wsX8_init wsX1_init := goodIn_r _ [74, 75, 2, 3, 76, 77, 78, 134, 135, 136] (by decide +kernel) (by decide +kernel)
set_option maxRecDepth 20000 in
theorem gX8_init_X1_init_n41 : GoodIn wsX8_init (wsX1_init) := ggX8_init_X1_init
set_option maxRecDepth 20000 in
theorem ggX8_init_X3_init : GoodIn wsX8_init wsX3_init := goodIn_r _ [81, 82, 2, 3, 83, 84, 137, 138] (by decide +kernel) (by decide +kernel)
set_option maxRecDepth 20000 in
theorem gX8_init_X3_init : GoodIn wsX8_init (wsX3_init) := ggX8_init_X3_init
set_option maxRecDepth 20000 in
theorem ggX8_init_X2_init : GoodIn wsX8_init wsX2_init := goodIn_r _ [87, 88, 2, 3, 89, 21, 22, 90, 91, 17, 18, 92, 93, 94, 95, 96, 97, 73, 74, 75, 76, 77, 78, 98, 67, 68, 69, 70, 71, 36, 72, 134, 135, 136, 139, 140, 141, 142, 143, 144, 145, 132, 133] (by decide +kernel) (by decide +kernel)
set_option maxRecDepth 20000 in
theorem gX8_init_X2_init : GoodIn wsX8_init (wsX2_init) := ggX8_init_X2_init
set_option maxRecDepth 20000 in
theorem ggX8_init_X4_init : GoodIn wsX8_init wsX4_init := goodIn_r _ [100, 101, 2, 3, 102, 36, 103, 104, 105, 146, 147, 148] (by decide +kernel) (by decide +kernel)
set_option maxRecDepth 20000 in
theorem gX8_init_X4_init_n66 : GoodIn wsX8_init (wsX4_init) := ggX8_init_X4_init
theorem dX8_init_0 : decode cX8_init 0 = .ok (.aload_n 0, 1) := by decide +kernel
theorem dX8_init_1 : decode cX8_init 1 = .ok (.invokespecial 1, 3) := by decide +kernel
theorem dX8_init_4 : decode cX8_init 4 = .ok (.aload_n 0, 1) := by decide +kernel
theorem dX8_init_5 : decode cX8_init 5 = .ok (.new 7, 3) := by decide +kernel
theorem dX8_init_8 : decode cX8_init 8 = .ok (.dup, 1) := by decide +kernel
theorem dX8_init_9 : decode cX8_init 9 = .ok (.invokespecial 9, 3) := by decide +kernel
theorem dX8_init_12 : decode cX8_init 12 = .ok (.putfield 10, 3) := by decide +kernel
theorem dX8_init_15 : decode cX8_init 15 = .ok (.aload_n 0, 1) := by decide +kernel
theorem dX8_init_16 : decode cX8_init 16 = .ok (.new 16, 3) := by decide +kernel
theorem dX8_init_19 : decode cX8_init 19 = .ok (.dup, 1) := by decide +kernel
theorem dX8_init_20 : decode cX8_init 20 = .ok (.invokespecial 18, 3) := by decide +kernel
theorem dX8_init_23 : decode cX8_init 23 = .ok (.putfield 19, 3) := by decide +kernel
theorem dX8_init_26 : decode cX8_init 26 = .ok (.aload_n 0, 1) := by decide +kernel
theorem dX8_init_27 : decode cX8_init 27 = .ok (.new 23, 3) := by decide +kernel
theorem dX8_init_30 : decode cX8_init 30 = .ok (.dup, 1) := by decide +kernel
theorem dX8_init_31 : decode cX8_init 31 = .ok (.invokespecial 25, 3) := by decide +kernel
theorem dX8_init_34 : decode cX8_init 34 = .ok (.putfield 26, 3) := by decide +kernel
theorem dX8_init_37 : decode cX8_init 37 = .ok (.aload_n 0, 1) := by decide +kernel
theorem dX8_init_38 : decode cX8_init 38 = .ok (.new 30, 3) := by decide +kernel
theorem dX8_init_41 : decode cX8_init 41 = .ok (.dup, 1) := by decide +kernel
theorem dX8_init_42 : decode cX8_init 42 = .ok (.iconst 1, 1) := by decide +kernel
theorem dX8_init_43 : decode cX8_init 43 = .ok (.invokespecial 32, 3) := by decide +kernel
theorem dX8_init_46 : decode cX8_init 46 = .ok (.putfield 35, 3) := by decide +kernel
theorem dX8_init_49 : decode cX8_init 49 = .ok (.aload_n 0, 1) := by decide +kernel
theorem dX8_init_50 : decode cX8_init 50 = .ok (.new 39, 3) := by decide +kernel
theorem dX8_init_53 : decode cX8_init 53 = .ok (.dup, 1) := by decide +kernel
theorem dX8_init_54 : decode cX8_init 54 = .ok (.invokespecial 41, 3) := by decide +kernel
theorem dX8_init_57 : decode cX8_init 57 = .ok (.putfield 42, 3) := by decide +kernel
theorem dX8_init_60 : decode cX8_init 60 = .ok (.aload_n 0, 1) := by decide +kernel
theorem dX8_init_61 : decode cX8_init 61 = .ok (.new 46, 3) := by decide +kernel
theorem dX8_init_64 : decode cX8_init 64 = .ok (.dup, 1) := by decide +kernel
theorem dX8_init_65 : decode cX8_init 65 = .ok (.aload_n 0, 1) := by decide +kernel
theorem dX8_init_66 : decode cX8_init 66 = .ok (.getfield 10, 3) := by decide +kernel
theorem dX8_init_69 : decode cX8_init 69 = .ok (.aload_n 0, 1) := by decide +kernel
theorem dX8_init_70 : decode cX8_init 70 = .ok (.getfield 19, 3) := by decide +kernel
theorem dX8_init_73 : decode cX8_init 73 = .ok (.invokespecial 48, 3) := by decide +kernel
theorem dX8_init_76 : decode cX8_init 76 = .ok (.putfield 51, 3) := by decide +kernel
theorem dX8_init_79 : decode cX8_init 79 = .ok (.aload_n 0, 1) := by decide +kernel
theorem dX8_init_80 : decode cX8_init 80 = .ok (.new 55, 3) := by decide +kernel
theorem dX8_init_83 : decode cX8_init 83 = .ok (.dup, 1) := by decide +kernel
theorem dX8_init_84 : decode cX8_init 84 = .ok (.aload_n 0, 1) := by decide +kernel
theorem dX8_init_85 : decode cX8_init 85 = .ok (.getfield 51, 3) := by decide +kernel
theorem dX8_init_88 : decode cX8_init 88 = .ok (.aload_n 0, 1) := by decide +kernel
theorem dX8_init_89 : decode cX8_init 89 = .ok (.getfield 10, 3) := by decide +kernel
theorem dX8_init_92 : decode cX8_init 92 = .ok (.aload_n 0, 1) := by decide +kernel
theorem dX8_init_93 : decode cX8_init 93 = .ok (.getfield 19, 3) := by decide +kernel
theorem dX8_init_96 : decode cX8_init 96 = .ok (.invokespecial 57, 3) := by decide +kernel
theorem dX8_init_99 : decode cX8_init 99 = .ok (.putfield 60, 3) := by decide +kernel
theorem dX8_init_102 : decode cX8_init 102 = .ok (.aload_n 0, 1) := by decide +kernel
theorem dX8_init_103 : decode cX8_init 103 = .ok (.new 64, 3) := by decide +kernel
theorem dX8_init_106 : decode cX8_init 106 = .ok (.dup, 1) := by decide +kernel
theorem dX8_init_107 : decode cX8_init 107 = .ok (.invokespecial 66, 3) := by decide +kernel
theorem dX8_init_110 : decode cX8_init 110 = .ok (.putfield 67, 3) := by decide +kernel
theorem dX8_init_113 : decode cX8_init 113 = .ok (.aload_n 0, 1) := by decide +kernel
theorem dX8_init_114 : decode cX8_init 114 = .ok (.bipush 7, 2) := by decide +kernel
theorem dX8_init_116 : decode cX8_init 116 = .ok (.newarray .int, 2) := by decide +kernel
theorem dX8_init_118 : decode cX8_init 118 = .ok (.putfield 71, 3) := by decide +kernel
theorem dX8_init_121 : decode cX8_init 121 = .ok (.aload_n 0, 1) := by decide +kernel
theorem dX8_init_122 : decode cX8_init 122 = .ok (.iconst 0, 1) := by decide +kernel
theorem dX8_init_123 : decode cX8_init 123 = .ok (.putfield 75, 3) := by decide +kernel
theorem dX8_init_126 : decode cX8_init 126 = .ok (.aload_n 0, 1) := by decide +kernel
theorem dX8_init_127 : decode cX8_init 127 = .ok (.iconst 0, 1) := by decide +kernel
theorem dX8_init_128 : decode cX8_init 128 = .ok (.putfield 79, 3) := by decide +kernel
theorem dX8_init_131 : decode cX8_init 131 = .ok (.return_, 1) := by decide +kernel
set_option maxRecDepth 20000 in
theorem ggX8_length_X8_refuse : GoodIn wsX8_length wsX8_refuse := goodIn_r _ [7, 8, 30, 31, 32, 33, 34, 35, 36, 37, 38, 39, 40] (by decide +kernel) (by decide +kernel)
set_option maxRecDepth 20000 in
theorem gX8_length_X8_refuse : GoodIn wsX8_length (wsV RX8 82 RX8 yX8_refuse wsX8_refuse) := goodIn_app (goodIn_of _ (by decide +kernel)) ggX8_length_X8_refuse
set_option maxRecDepth 20000 in
theorem ggX8_length_X0_steps : GoodIn wsX8_length wsX0_steps := goodIn_r _ [13, 14, 41, 42, 43, 44] (by decide +kernel) (by decide +kernel)
set_option maxRecDepth 20000 in
theorem gX8_length_X0_steps : GoodIn wsX8_length (wsV RX8 86 RX0 yX0_steps wsX0_steps) := goodIn_app (goodIn_of _ (by decide +kernel)) ggX8_length_X0_steps
set_option maxRecDepth 20000 in
theorem ggX8_length_X0_startAnew : GoodIn wsX8_length wsX0_startAnew := goodIn_r _ [18, 14, 19, 41, 42, 43, 44] (by decide +kernel) (by decide +kernel)
set_option maxRecDepth 20000 in
theorem gX8_length_X0_startAnew : GoodIn wsX8_length (wsV RX8 90 RX0 yX0_startAnew wsX0_startAnew) := goodIn_app (goodIn_of _ (by decide +kernel)) ggX8_length_X0_startAnew
set_option maxRecDepth 20000 in
theorem ggX8_length_X6_clear : GoodIn wsX8_length wsX6_clear := goodIn_r _ [24, 25, 26, 27, 28, 29, 45, 46] (by decide +kernel) (by decide +kernel)
set_option maxRecDepth 20000 in
theorem gX8_length_X6_clear : GoodIn wsX8_length (wsV RX8 94 RX6 yX6_clear wsX6_clear) := goodIn_app (goodIn_of _ (by decide +kernel)) ggX8_length_X6_clear
theorem dX8_length_0 : decode cX8_length 0 = .ok (.iload_n 1, 1) := by decide +kernel
theorem dX8_length_1 : decode cX8_length 1 = .ok (.iconst 2, 1) := by decide +kernel
theorem dX8_length_2 : decode cX8_length 2 = .ok (.if_icmp .ge 10, 3) := by decide +kernel
theorem dX8_length_5 : decode cX8_length 5 = .ok (.aload_n 0, 1) := by decide +kernel
theorem dX8_length_6 : decode cX8_length 6 = .ok (.bipush (-4), 2) := by decide +kernel
theorem dX8_length_8 : decode cX8_length 8 = .ok (.invokevirtual 82, 3) := by decide +kernel
theorem dX8_length_11 : decode cX8_length 11 = .ok (.ireturn, 1) := by decide +kernel
theorem dX8_length_12 : decode cX8_length 12 = .ok (.iload_n 1, 1) := by decide +kernel
theorem dX8_length_13 : decode cX8_length 13 = .ok (.bipush 16, 2) := by decide +kernel
theorem dX8_length_15 : decode cX8_length 15 = .ok (.if_icmp .le 10, 3) := by decide +kernel
theorem dX8_length_18 : decode cX8_length 18 = .ok (.aload_n 0, 1) := by decide +kernel
theorem dX8_length_19 : decode cX8_length 19 = .ok (.bipush (-6), 2) := by decide +kernel
theorem dX8_length_21 : decode cX8_length 21 = .ok (.invokevirtual 82, 3) := by decide +kernel
theorem dX8_length_24 : decode cX8_length 24 = .ok (.ireturn, 1) := by decide +kernel
theorem dX8_length_25 : decode cX8_length 25 = .ok (.aload_n 0, 1) := by decide +kernel
theorem dX8_length_26 : decode cX8_length 26 = .ok (.getfield 10, 3) := by decide +kernel
theorem dX8_length_29 : decode cX8_length 29 = .ok (.invokevirtual 86, 3) := by decide +kernel
theorem dX8_length_32 : decode cX8_length 32 = .ok (.istore_n 2, 1) := by decide +kernel
theorem dX8_length_33 : decode cX8_length 33 = .ok (.aload_n 0, 1) := by decide +kernel
theorem dX8_length_34 : decode cX8_length 34 = .ok (.getfield 10, 3) := by decide +kernel
theorem dX8_length_37 : decode cX8_length 37 = .ok (.iload_n 1, 1) := by decide +kernel
theorem dX8_length_38 : decode cX8_length 38 = .ok (.invokevirtual 90, 3) := by decide +kernel
theorem dX8_length_41 : decode cX8_length 41 = .ok (.aload_n 0, 1) := by decide +kernel
theorem dX8_length_42 : decode cX8_length 42 = .ok (.getfield 35, 3) := by decide +kernel
theorem dX8_length_45 : decode cX8_length 45 = .ok (.invokevirtual 94, 3) := by decide +kernel
theorem dX8_length_48 : decode cX8_length 48 = .ok (.iload_n 2, 1) := by decide +kernel
theorem dX8_length_49 : decode cX8_length 49 = .ok (.ireturn, 1) := by decide +kernel
set_option maxRecDepth 20000 in
theorem ggX8_blank_X8_isCam : GoodIn wsX8_blank wsX8_isCam := goodIn_r _ [5] (by decide +kernel) (by decide +kernel)
set_option maxRecDepth 20000 in
theorem gX8_blank_X8_isCam : GoodIn wsX8_blank (va_wsS RX8 97 yX8_isCam wsX8_isCam) := goodIn_app (goodIn_of _ (by decide +kernel)) ggX8_blank_X8_isCam
set_option maxRecDepth 20000 in
theorem ggX8_blank_X8_refuse : GoodIn wsX8_blank wsX8_refuse := goodIn_r _ [9, 10, 26, 27, 28, 29, 30, 31, 32, 33, 34, 35, 36] (by decide +kernel) (by decide +kernel)
set_option maxRecDepth 20000 in
theorem gX8_blank_X8_refuse : GoodIn wsX8_blank (wsV RX8 82 RX8 yX8_refuse wsX8_refuse) := goodIn_app (goodIn_of _ (by decide +kernel)) ggX8_blank_X8_refuse
set_option maxRecDepth 20000 in
theorem ggX8_blank_X0_isThere : GoodIn wsX8_blank wsX0_isThere := goodIn_r _ [15, 16, 37, 38, 39, 40] (by decide +kernel) (by decide +kernel)
set_option maxRecDepth 20000 in
theorem gX8_blank_X0_isThere : GoodIn wsX8_blank (wsV RX8 101 RX0 yX0_isThere wsX0_isThere) := goodIn_app (goodIn_of _ (by decide +kernel)) ggX8_blank_X0_isThere
set_option maxRecDepth 20000 in
theorem ggX8_blank_X0_makeFlat : GoodIn wsX8_blank wsX0_makeFlat := goodIn_r _ [20, 16, 21, 22, 23, 24, 25, 37, 38, 39, 40] (by decide +kernel) (by decide +kernel)
set_option maxRecDepth 20000 in
theorem gX8_blank_X0_makeFlat : GoodIn wsX8_blank (wsV RX8 104 RX0 yX0_makeFlat wsX0_makeFlat) := goodIn_app (goodIn_of _ (by decide +kernel)) ggX8_blank_X0_makeFlat
theorem dX8_blank_0 : decode cX8_blank 0 = .ok (.iload_n 1, 1) := by decide +kernel
theorem dX8_blank_1 : decode cX8_blank 1 = .ok (.invokestatic 97, 3) := by decide +kernel
theorem dX8_blank_4 : decode cX8_blank 4 = .ok (.ifCond .ne 9, 3) := by decide +kernel
theorem dX8_blank_7 : decode cX8_blank 7 = .ok (.aload_n 0, 1) := by decide +kernel
theorem dX8_blank_8 : decode cX8_blank 8 = .ok (.iconst (-1), 1) := by decide +kernel
theorem dX8_blank_9 : decode cX8_blank 9 = .ok (.invokevirtual 82, 3) := by decide +kernel
theorem dX8_blank_12 : decode cX8_blank 12 = .ok (.ireturn, 1) := by decide +kernel
theorem dX8_blank_13 : decode cX8_blank 13 = .ok (.aload_n 0, 1) := by decide +kernel
theorem dX8_blank_14 : decode cX8_blank 14 = .ok (.getfield 10, 3) := by decide +kernel
theorem dX8_blank_17 : decode cX8_blank 17 = .ok (.iload_n 1, 1) := by decide +kernel
theorem dX8_blank_18 : decode cX8_blank 18 = .ok (.invokevirtual 101, 3) := by decide +kernel
theorem dX8_blank_21 : decode cX8_blank 21 = .ok (.ifCond .eq 7, 3) := by decide +kernel
theorem dX8_blank_24 : decode cX8_blank 24 = .ok (.iconst 0, 1) := by decide +kernel
theorem dX8_blank_25 : decode cX8_blank 25 = .ok (.goto 4, 3) := by decide +kernel
theorem dX8_blank_28 : decode cX8_blank 28 = .ok (.iconst 1, 1) := by decide +kernel
theorem dX8_blank_29 : decode cX8_blank 29 = .ok (.istore_n 2, 1) := by decide +kernel
theorem dX8_blank_30 : decode cX8_blank 30 = .ok (.aload_n 0, 1) := by decide +kernel
theorem dX8_blank_31 : decode cX8_blank 31 = .ok (.getfield 10, 3) := by decide +kernel
theorem dX8_blank_34 : decode cX8_blank 34 = .ok (.iload_n 1, 1) := by decide +kernel
theorem dX8_blank_35 : decode cX8_blank 35 = .ok (.invokevirtual 104, 3) := by decide +kernel
theorem dX8_blank_38 : decode cX8_blank 38 = .ok (.iload_n 2, 1) := by decide +kernel
theorem dX8_blank_39 : decode cX8_blank 39 = .ok (.ireturn, 1) := by decide +kernel
set_option maxRecDepth 20000 in
theorem ggX8_lose_X8_refusalOfCam : GoodIn wsX8_lose wsX8_refusalOfCam := goodIn_r _ [6, 1, 7, 8, 5, 9, 10, 11, 12, 13, 14, 15, 25, 26, 27, 28, 29, 30, 31, 32, 33, 34, 35, 36, 37, 38, 39] (by decide +kernel) (by decide +kernel)
set_option maxRecDepth 20000 in
theorem gX8_lose_X8_refusalOfCam : GoodIn wsX8_lose (wsV RX8 107 RX8 yX8_refusalOfCam wsX8_refusalOfCam) := goodIn_app (goodIn_of _ (by decide +kernel)) ggX8_lose_X8_refusalOfCam
set_option maxRecDepth 20000 in
theorem ggX8_lose_X8_refuse : GoodIn wsX8_lose wsX8_refuse := goodIn_r _ [19, 20, 25, 26, 27, 28, 29, 30, 31, 32, 33, 34, 35] (by decide +kernel) (by decide +kernel)
set_option maxRecDepth 20000 in
theorem gX8_lose_X8_refuse : GoodIn wsX8_lose (wsV RX8 82 RX8 yX8_refuse wsX8_refuse) := goodIn_app (goodIn_of _ (by decide +kernel)) ggX8_lose_X8_refuse
set_option maxRecDepth 20000 in
theorem ggX8_lose_X0_remove : GoodIn wsX8_lose wsX0_remove := goodIn_r _ [24, 15, 36, 37, 38, 39] (by decide +kernel) (by decide +kernel)
set_option maxRecDepth 20000 in
theorem gX8_lose_X0_remove : GoodIn wsX8_lose (wsV RX8 110 RX0 yX0_remove wsX0_remove) := goodIn_app (goodIn_of _ (by decide +kernel)) ggX8_lose_X0_remove
theorem dX8_lose_0 : decode cX8_lose 0 = .ok (.aload_n 0, 1) := by decide +kernel
theorem dX8_lose_1 : decode cX8_lose 1 = .ok (.iload_n 1, 1) := by decide +kernel
theorem dX8_lose_2 : decode cX8_lose 2 = .ok (.invokevirtual 107, 3) := by decide +kernel
theorem dX8_lose_5 : decode cX8_lose 5 = .ok (.istore_n 2, 1) := by decide +kernel
theorem dX8_lose_6 : decode cX8_lose 6 = .ok (.iload_n 2, 1) := by decide +kernel
theorem dX8_lose_7 : decode cX8_lose 7 = .ok (.ifCond .eq 9, 3) := by decide +kernel
theorem dX8_lose_10 : decode cX8_lose 10 = .ok (.aload_n 0, 1) := by decide +kernel
theorem dX8_lose_11 : decode cX8_lose 11 = .ok (.iload_n 2, 1) := by decide +kernel
theorem dX8_lose_12 : decode cX8_lose 12 = .ok (.invokevirtual 82, 3) := by decide +kernel
theorem dX8_lose_15 : decode cX8_lose 15 = .ok (.ireturn, 1) := by decide +kernel
theorem dX8_lose_16 : decode cX8_lose 16 = .ok (.aload_n 0, 1) := by decide +kernel
theorem dX8_lose_17 : decode cX8_lose 17 = .ok (.getfield 10, 3) := by decide +kernel
theorem dX8_lose_20 : decode cX8_lose 20 = .ok (.iload_n 1, 1) := by decide +kernel
theorem dX8_lose_21 : decode cX8_lose 21 = .ok (.invokevirtual 110, 3) := by decide +kernel
theorem dX8_lose_24 : decode cX8_lose 24 = .ok (.iconst 1, 1) := by decide +kernel
theorem dX8_lose_25 : decode cX8_lose 25 = .ok (.ireturn, 1) := by decide +kernel
set_option maxRecDepth 20000 in
theorem ggX8_cutAt_X8_refusalOfStep : GoodIn wsX8_cutAt wsX8_refusalOfStep := goodIn_r _ [6, 1, 7, 8, 9, 5, 10, 11, 12, 13, 14, 15, 16, 17, 18, 19, 20, 21, 22, 23, 24, 39, 40, 41, 42, 43, 44, 45, 46, 47, 48, 49, 50, 51, 52, 53] (by decide +kernel) (by decide +kernel)
set_option maxRecDepth 20000 in
theorem gX8_cutAt_X8_refusalOfStep : GoodIn wsX8_cutAt (wsV RX8 113 RX8 yX8_refusalOfStep wsX8_refusalOfStep) := goodIn_app (goodIn_of _ (by decide +kernel)) ggX8_cutAt_X8_refusalOfStep
set_option maxRecDepth 20000 in
theorem ggX8_cutAt_X8_refuse : GoodIn wsX8_cutAt wsX8_refuse := goodIn_r _ [28, 29, 39, 40, 41, 42, 43, 44, 45, 46, 47, 48, 49] (by decide +kernel) (by decide +kernel)
set_option maxRecDepth 20000 in
theorem gX8_cutAt_X8_refuse : GoodIn wsX8_cutAt (wsV RX8 82 RX8 yX8_refuse wsX8_refuse) := goodIn_app (goodIn_of _ (by decide +kernel)) ggX8_cutAt_X8_refuse
set_option maxRecDepth 20000 in
theorem ggX8_cutAt_X0_heightAt : GoodIn wsX8_cutAt wsX0_heightAt := goodIn_r _ [33, 34, 50, 51, 52, 53] (by decide +kernel) (by decide +kernel)
set_option maxRecDepth 20000 in
theorem gX8_cutAt_X0_heightAt : GoodIn wsX8_cutAt (wsV RX8 117 RX0 yX0_heightAt wsX0_heightAt) := goodIn_app (goodIn_of _ (by decide +kernel)) ggX8_cutAt_X0_heightAt
set_option maxRecDepth 20000 in
theorem ggX8_cutAt_X0_setHeight : GoodIn wsX8_cutAt wsX0_setHeight := goodIn_r _ [38, 34, 50, 51, 52, 53] (by decide +kernel) (by decide +kernel)
set_option maxRecDepth 20000 in
theorem gX8_cutAt_X0_setHeight : GoodIn wsX8_cutAt (wsV RX8 120 RX0 yX0_setHeight wsX0_setHeight) := goodIn_app (goodIn_of _ (by decide +kernel)) ggX8_cutAt_X0_setHeight
theorem dX8_cutAt_0 : decode cX8_cutAt 0 = .ok (.aload_n 0, 1) := by decide +kernel
theorem dX8_cutAt_1 : decode cX8_cutAt 1 = .ok (.iload_n 1, 1) := by decide +kernel
theorem dX8_cutAt_2 : decode cX8_cutAt 2 = .ok (.iload_n 2, 1) := by decide +kernel
theorem dX8_cutAt_3 : decode cX8_cutAt 3 = .ok (.invokevirtual 113, 3) := by decide +kernel
theorem dX8_cutAt_6 : decode cX8_cutAt 6 = .ok (.istore 4, 2) := by decide +kernel
theorem dX8_cutAt_8 : decode cX8_cutAt 8 = .ok (.iload 4, 2) := by decide +kernel
theorem dX8_cutAt_10 : decode cX8_cutAt 10 = .ok (.ifCond .eq 10, 3) := by decide +kernel
theorem dX8_cutAt_13 : decode cX8_cutAt 13 = .ok (.aload_n 0, 1) := by decide +kernel
theorem dX8_cutAt_14 : decode cX8_cutAt 14 = .ok (.iload 4, 2) := by decide +kernel
theorem dX8_cutAt_16 : decode cX8_cutAt 16 = .ok (.invokevirtual 82, 3) := by decide +kernel
theorem dX8_cutAt_19 : decode cX8_cutAt 19 = .ok (.ireturn, 1) := by decide +kernel
theorem dX8_cutAt_20 : decode cX8_cutAt 20 = .ok (.iload_n 3, 1) := by decide +kernel
theorem dX8_cutAt_21 : decode cX8_cutAt 21 = .ok (.ifCond .ge 10, 3) := by decide +kernel
theorem dX8_cutAt_24 : decode cX8_cutAt 24 = .ok (.aload_n 0, 1) := by decide +kernel
theorem dX8_cutAt_25 : decode cX8_cutAt 25 = .ok (.bipush (-4), 2) := by decide +kernel
theorem dX8_cutAt_27 : decode cX8_cutAt 27 = .ok (.invokevirtual 82, 3) := by decide +kernel
theorem dX8_cutAt_30 : decode cX8_cutAt 30 = .ok (.ireturn, 1) := by decide +kernel
theorem dX8_cutAt_31 : decode cX8_cutAt 31 = .ok (.iload_n 3, 1) := by decide +kernel
theorem dX8_cutAt_32 : decode cX8_cutAt 32 = .ok (.bipush 9, 2) := by decide +kernel
theorem dX8_cutAt_34 : decode cX8_cutAt 34 = .ok (.if_icmp .le 10, 3) := by decide +kernel
theorem dX8_cutAt_37 : decode cX8_cutAt 37 = .ok (.aload_n 0, 1) := by decide +kernel
theorem dX8_cutAt_38 : decode cX8_cutAt 38 = .ok (.bipush (-6), 2) := by decide +kernel
theorem dX8_cutAt_40 : decode cX8_cutAt 40 = .ok (.invokevirtual 82, 3) := by decide +kernel
theorem dX8_cutAt_43 : decode cX8_cutAt 43 = .ok (.ireturn, 1) := by decide +kernel
theorem dX8_cutAt_44 : decode cX8_cutAt 44 = .ok (.aload_n 0, 1) := by decide +kernel
theorem dX8_cutAt_45 : decode cX8_cutAt 45 = .ok (.getfield 10, 3) := by decide +kernel
theorem dX8_cutAt_48 : decode cX8_cutAt 48 = .ok (.iload_n 1, 1) := by decide +kernel
theorem dX8_cutAt_49 : decode cX8_cutAt 49 = .ok (.iload_n 2, 1) := by decide +kernel
theorem dX8_cutAt_50 : decode cX8_cutAt 50 = .ok (.invokevirtual 117, 3) := by decide +kernel
theorem dX8_cutAt_53 : decode cX8_cutAt 53 = .ok (.istore 5, 2) := by decide +kernel
theorem dX8_cutAt_55 : decode cX8_cutAt 55 = .ok (.aload_n 0, 1) := by decide +kernel
theorem dX8_cutAt_56 : decode cX8_cutAt 56 = .ok (.getfield 10, 3) := by decide +kernel
theorem dX8_cutAt_59 : decode cX8_cutAt 59 = .ok (.iload_n 1, 1) := by decide +kernel
theorem dX8_cutAt_60 : decode cX8_cutAt 60 = .ok (.iload_n 2, 1) := by decide +kernel
theorem dX8_cutAt_61 : decode cX8_cutAt 61 = .ok (.iload_n 3, 1) := by decide +kernel
theorem dX8_cutAt_62 : decode cX8_cutAt 62 = .ok (.invokevirtual 120, 3) := by decide +kernel
theorem dX8_cutAt_65 : decode cX8_cutAt 65 = .ok (.iload 5, 2) := by decide +kernel
theorem dX8_cutAt_67 : decode cX8_cutAt 67 = .ok (.ireturn, 1) := by decide +kernel
set_option maxRecDepth 20000 in
theorem ggX8_height_X8_refusalOfStep : GoodIn wsX8_height wsX8_refusalOfStep := goodIn_r _ [6, 1, 7, 8, 9, 5, 10, 11, 12, 13, 14, 15, 16, 17, 18, 19, 20, 21, 22, 23, 24, 35, 36, 37, 38, 39, 40, 41, 42, 43, 44, 45, 46, 47, 48, 49] (by decide +kernel) (by decide +kernel)
set_option maxRecDepth 20000 in
theorem gX8_height_X8_refusalOfStep : GoodIn wsX8_height (wsV RX8 113 RX8 yX8_refusalOfStep wsX8_refusalOfStep) := goodIn_app (goodIn_of _ (by decide +kernel)) ggX8_height_X8_refusalOfStep
set_option maxRecDepth 20000 in
theorem ggX8_height_X8_refuse : GoodIn wsX8_height wsX8_refuse := goodIn_r _ [28, 29, 35, 36, 37, 38, 39, 40, 41, 42, 43, 44, 45] (by decide +kernel) (by decide +kernel)
set_option maxRecDepth 20000 in
theorem gX8_height_X8_refuse : GoodIn wsX8_height (wsV RX8 82 RX8 yX8_refuse wsX8_refuse) := goodIn_app (goodIn_of _ (by decide +kernel)) ggX8_height_X8_refuse
set_option maxRecDepth 20000 in
theorem ggX8_height_X0_heightAt : GoodIn wsX8_height wsX0_heightAt := goodIn_r _ [33, 34, 46, 47, 48, 49] (by decide +kernel) (by decide +kernel)
set_option maxRecDepth 20000 in
theorem gX8_height_X0_heightAt : GoodIn wsX8_height (wsV RX8 117 RX0 yX0_heightAt wsX0_heightAt) := goodIn_app (goodIn_of _ (by decide +kernel)) ggX8_height_X0_heightAt
theorem dX8_height_0 : decode cX8_height 0 = .ok (.aload_n 0, 1) := by decide +kernel
theorem dX8_height_1 : decode cX8_height 1 = .ok (.iload_n 1, 1) := by decide +kernel
theorem dX8_height_2 : decode cX8_height 2 = .ok (.iload_n 2, 1) := by decide +kernel
theorem dX8_height_3 : decode cX8_height 3 = .ok (.invokevirtual 113, 3) := by decide +kernel
theorem dX8_height_6 : decode cX8_height 6 = .ok (.istore_n 3, 1) := by decide +kernel
theorem dX8_height_7 : decode cX8_height 7 = .ok (.iload_n 3, 1) := by decide +kernel
theorem dX8_height_8 : decode cX8_height 8 = .ok (.ifCond .eq 9, 3) := by decide +kernel
theorem dX8_height_11 : decode cX8_height 11 = .ok (.aload_n 0, 1) := by decide +kernel
theorem dX8_height_12 : decode cX8_height 12 = .ok (.iload_n 3, 1) := by decide +kernel
theorem dX8_height_13 : decode cX8_height 13 = .ok (.invokevirtual 82, 3) := by decide +kernel
theorem dX8_height_16 : decode cX8_height 16 = .ok (.ireturn, 1) := by decide +kernel
theorem dX8_height_17 : decode cX8_height 17 = .ok (.aload_n 0, 1) := by decide +kernel
theorem dX8_height_18 : decode cX8_height 18 = .ok (.getfield 10, 3) := by decide +kernel
theorem dX8_height_21 : decode cX8_height 21 = .ok (.iload_n 1, 1) := by decide +kernel
theorem dX8_height_22 : decode cX8_height 22 = .ok (.iload_n 2, 1) := by decide +kernel
theorem dX8_height_23 : decode cX8_height 23 = .ok (.invokevirtual 117, 3) := by decide +kernel
theorem dX8_height_26 : decode cX8_height 26 = .ok (.ireturn, 1) := by decide +kernel
set_option maxRecDepth 20000 in
theorem ggX8_copy_X8_isCam : GoodIn wsX8_copy wsX8_isCam := goodIn_r _ [5] (by decide +kernel) (by decide +kernel)
set_option maxRecDepth 20000 in
theorem gX8_copy_X8_isCam : GoodIn wsX8_copy (va_wsS RX8 97 yX8_isCam wsX8_isCam) := goodIn_app (goodIn_of _ (by decide +kernel)) ggX8_copy_X8_isCam
set_option maxRecDepth 20000 in
theorem ggX8_copy_X8_refuse : GoodIn wsX8_copy wsX8_refuse := goodIn_r _ [9, 10, 31, 32, 33, 34, 35, 36, 37, 38, 39, 40, 41] (by decide +kernel) (by decide +kernel)
set_option maxRecDepth 20000 in
theorem gX8_copy_X8_refuse : GoodIn wsX8_copy (wsV RX8 82 RX8 yX8_refuse wsX8_refuse) := goodIn_app (goodIn_of _ (by decide +kernel)) ggX8_copy_X8_refuse
set_option maxRecDepth 20000 in
theorem ggX8_copy_X0_isThere : GoodIn wsX8_copy wsX0_isThere := goodIn_r _ [15, 16, 42, 43, 44, 45] (by decide +kernel) (by decide +kernel)
set_option maxRecDepth 20000 in
theorem gX8_copy_X0_isThere : GoodIn wsX8_copy (wsV RX8 101 RX0 yX0_isThere wsX0_isThere) := goodIn_app (goodIn_of _ (by decide +kernel)) ggX8_copy_X0_isThere
set_option maxRecDepth 20000 in
theorem ggX8_copy_X0_hasSpan : GoodIn wsX8_copy wsX0_hasSpan := goodIn_r _ [20, 21, 42, 43, 44, 45] (by decide +kernel) (by decide +kernel)
set_option maxRecDepth 20000 in
theorem gX8_copy_X0_hasSpan : GoodIn wsX8_copy (wsV RX8 124 RX0 yX0_hasSpan wsX0_hasSpan) := goodIn_app (goodIn_of _ (by decide +kernel)) ggX8_copy_X0_hasSpan
set_option maxRecDepth 20000 in
theorem ggX8_copy_X0_copySpan : GoodIn wsX8_copy wsX0_copySpan := goodIn_r _ [25, 26, 27, 28, 29, 30, 42, 43, 44, 45] (by decide +kernel) (by decide +kernel)
set_option maxRecDepth 20000 in
theorem gX8_copy_X0_copySpan : GoodIn wsX8_copy (wsV RX8 128 RX0 yX0_copySpan wsX0_copySpan) := goodIn_app (goodIn_of _ (by decide +kernel)) ggX8_copy_X0_copySpan
theorem dX8_copy_0 : decode cX8_copy 0 = .ok (.iload_n 1, 1) := by decide +kernel
theorem dX8_copy_1 : decode cX8_copy 1 = .ok (.invokestatic 97, 3) := by decide +kernel
theorem dX8_copy_4 : decode cX8_copy 4 = .ok (.ifCond .eq 10, 3) := by decide +kernel
theorem dX8_copy_7 : decode cX8_copy 7 = .ok (.iload_n 3, 1) := by decide +kernel
theorem dX8_copy_8 : decode cX8_copy 8 = .ok (.invokestatic 97, 3) := by decide +kernel
theorem dX8_copy_11 : decode cX8_copy 11 = .ok (.ifCond .ne 9, 3) := by decide +kernel
theorem dX8_copy_14 : decode cX8_copy 14 = .ok (.aload_n 0, 1) := by decide +kernel
theorem dX8_copy_15 : decode cX8_copy 15 = .ok (.iconst (-1), 1) := by decide +kernel
theorem dX8_copy_16 : decode cX8_copy 16 = .ok (.invokevirtual 82, 3) := by decide +kernel
theorem dX8_copy_19 : decode cX8_copy 19 = .ok (.ireturn, 1) := by decide +kernel
theorem dX8_copy_20 : decode cX8_copy 20 = .ok (.aload_n 0, 1) := by decide +kernel
theorem dX8_copy_21 : decode cX8_copy 21 = .ok (.getfield 10, 3) := by decide +kernel
theorem dX8_copy_24 : decode cX8_copy 24 = .ok (.iload_n 1, 1) := by decide +kernel
theorem dX8_copy_25 : decode cX8_copy 25 = .ok (.invokevirtual 101, 3) := by decide +kernel
theorem dX8_copy_28 : decode cX8_copy 28 = .ok (.ifCond .eq 14, 3) := by decide +kernel
theorem dX8_copy_31 : decode cX8_copy 31 = .ok (.aload_n 0, 1) := by decide +kernel
theorem dX8_copy_32 : decode cX8_copy 32 = .ok (.getfield 10, 3) := by decide +kernel
theorem dX8_copy_35 : decode cX8_copy 35 = .ok (.iload_n 3, 1) := by decide +kernel
theorem dX8_copy_36 : decode cX8_copy 36 = .ok (.invokevirtual 101, 3) := by decide +kernel
theorem dX8_copy_39 : decode cX8_copy 39 = .ok (.ifCond .ne 10, 3) := by decide +kernel
theorem dX8_copy_42 : decode cX8_copy 42 = .ok (.aload_n 0, 1) := by decide +kernel
theorem dX8_copy_43 : decode cX8_copy 43 = .ok (.bipush (-5), 2) := by decide +kernel
theorem dX8_copy_45 : decode cX8_copy 45 = .ok (.invokevirtual 82, 3) := by decide +kernel
theorem dX8_copy_48 : decode cX8_copy 48 = .ok (.ireturn, 1) := by decide +kernel
theorem dX8_copy_49 : decode cX8_copy 49 = .ok (.aload_n 0, 1) := by decide +kernel
theorem dX8_copy_50 : decode cX8_copy 50 = .ok (.getfield 10, 3) := by decide +kernel
theorem dX8_copy_53 : decode cX8_copy 53 = .ok (.iload_n 2, 1) := by decide +kernel
theorem dX8_copy_54 : decode cX8_copy 54 = .ok (.iload 5, 2) := by decide +kernel
theorem dX8_copy_56 : decode cX8_copy 56 = .ok (.invokevirtual 124, 3) := by decide +kernel
theorem dX8_copy_59 : decode cX8_copy 59 = .ok (.ifCond .eq 17, 3) := by decide +kernel
theorem dX8_copy_62 : decode cX8_copy 62 = .ok (.aload_n 0, 1) := by decide +kernel
theorem dX8_copy_63 : decode cX8_copy 63 = .ok (.getfield 10, 3) := by decide +kernel
theorem dX8_copy_66 : decode cX8_copy 66 = .ok (.iload 4, 2) := by decide +kernel
theorem dX8_copy_68 : decode cX8_copy 68 = .ok (.iload 5, 2) := by decide +kernel
theorem dX8_copy_70 : decode cX8_copy 70 = .ok (.invokevirtual 124, 3) := by decide +kernel
theorem dX8_copy_73 : decode cX8_copy 73 = .ok (.ifCond .ne 10, 3) := by decide +kernel
theorem dX8_copy_76 : decode cX8_copy 76 = .ok (.aload_n 0, 1) := by decide +kernel
theorem dX8_copy_77 : decode cX8_copy 77 = .ok (.bipush (-7), 2) := by decide +kernel
theorem dX8_copy_79 : decode cX8_copy 79 = .ok (.invokevirtual 82, 3) := by decide +kernel
theorem dX8_copy_82 : decode cX8_copy 82 = .ok (.ireturn, 1) := by decide +kernel
theorem dX8_copy_83 : decode cX8_copy 83 = .ok (.aload_n 0, 1) := by decide +kernel
theorem dX8_copy_84 : decode cX8_copy 84 = .ok (.getfield 10, 3) := by decide +kernel
theorem dX8_copy_87 : decode cX8_copy 87 = .ok (.iload_n 1, 1) := by decide +kernel
theorem dX8_copy_88 : decode cX8_copy 88 = .ok (.iload_n 2, 1) := by decide +kernel
theorem dX8_copy_89 : decode cX8_copy 89 = .ok (.iload_n 3, 1) := by decide +kernel
theorem dX8_copy_90 : decode cX8_copy 90 = .ok (.iload 4, 2) := by decide +kernel
theorem dX8_copy_92 : decode cX8_copy 92 = .ok (.iload 5, 2) := by decide +kernel
theorem dX8_copy_94 : decode cX8_copy 94 = .ok (.invokevirtual 128, 3) := by decide +kernel
theorem dX8_copy_97 : decode cX8_copy 97 = .ok (.iload 5, 2) := by decide +kernel
theorem dX8_copy_99 : decode cX8_copy 99 = .ok (.ireturn, 1) := by decide +kernel
set_option maxRecDepth 20000 in
theorem ggX8_turn_X8_refusalOfStep : GoodIn wsX8_turn wsX8_refusalOfStep := goodIn_r _ [6, 1, 7, 8, 9, 5, 10, 11, 12, 13, 14, 15, 16, 17, 18, 19, 20, 21, 22, 23, 24, 44, 45, 46, 47, 48, 49, 50, 51, 52, 53, 54, 55, 56, 57, 58] (by decide +kernel) (by decide +kernel)
set_option maxRecDepth 20000 in
theorem gX8_turn_X8_refusalOfStep : GoodIn wsX8_turn (wsV RX8 113 RX8 yX8_refusalOfStep wsX8_refusalOfStep) := goodIn_app (goodIn_of _ (by decide +kernel)) ggX8_turn_X8_refusalOfStep
set_option maxRecDepth 20000 in
theorem ggX8_turn_X8_refuse : GoodIn wsX8_turn wsX8_refuse := goodIn_r _ [28, 29, 44, 45, 46, 47, 48, 49, 50, 51, 52, 53, 54] (by decide +kernel) (by decide +kernel)
set_option maxRecDepth 20000 in
theorem gX8_turn_X8_refuse : GoodIn wsX8_turn (wsV RX8 82 RX8 yX8_refuse wsX8_refuse) := goodIn_app (goodIn_of _ (by decide +kernel)) ggX8_turn_X8_refuse
set_option maxRecDepth 20000 in
theorem ggX8_turn_X0_rotate : GoodIn wsX8_turn wsX0_rotate := goodIn_r _ [33, 34, 35, 24, 36, 37, 38, 39, 40, 41, 42, 17, 43, 55, 56, 57, 58] (by decide +kernel) (by decide +kernel)
set_option maxRecDepth 20000 in
theorem gX8_turn_X0_rotate : GoodIn wsX8_turn (wsV RX8 132 RX0 yX0_rotate wsX0_rotate) := goodIn_app (goodIn_of _ (by decide +kernel)) ggX8_turn_X0_rotate
theorem dX8_turn_0 : decode cX8_turn 0 = .ok (.aload_n 0, 1) := by decide +kernel
theorem dX8_turn_1 : decode cX8_turn 1 = .ok (.iload_n 1, 1) := by decide +kernel
theorem dX8_turn_2 : decode cX8_turn 2 = .ok (.iload_n 2, 1) := by decide +kernel
theorem dX8_turn_3 : decode cX8_turn 3 = .ok (.invokevirtual 113, 3) := by decide +kernel
theorem dX8_turn_6 : decode cX8_turn 6 = .ok (.istore_n 3, 1) := by decide +kernel
theorem dX8_turn_7 : decode cX8_turn 7 = .ok (.iload_n 3, 1) := by decide +kernel
theorem dX8_turn_8 : decode cX8_turn 8 = .ok (.ifCond .eq 9, 3) := by decide +kernel
theorem dX8_turn_11 : decode cX8_turn 11 = .ok (.aload_n 0, 1) := by decide +kernel
theorem dX8_turn_12 : decode cX8_turn 12 = .ok (.iload_n 3, 1) := by decide +kernel
theorem dX8_turn_13 : decode cX8_turn 13 = .ok (.invokevirtual 82, 3) := by decide +kernel
theorem dX8_turn_16 : decode cX8_turn 16 = .ok (.ireturn, 1) := by decide +kernel
theorem dX8_turn_17 : decode cX8_turn 17 = .ok (.aload_n 0, 1) := by decide +kernel
theorem dX8_turn_18 : decode cX8_turn 18 = .ok (.getfield 10, 3) := by decide +kernel
theorem dX8_turn_21 : decode cX8_turn 21 = .ok (.iload_n 1, 1) := by decide +kernel
theorem dX8_turn_22 : decode cX8_turn 22 = .ok (.iload_n 2, 1) := by decide +kernel
theorem dX8_turn_23 : decode cX8_turn 23 = .ok (.invokevirtual 132, 3) := by decide +kernel
theorem dX8_turn_26 : decode cX8_turn 26 = .ok (.iconst 1, 1) := by decide +kernel
theorem dX8_turn_27 : decode cX8_turn 27 = .ok (.ireturn, 1) := by decide +kernel
set_option maxRecDepth 20000 in
theorem ggX8_blanks_X0_blanksBelow : GoodIn wsX8_blanks wsX0_blanksBelow := goodIn_r _ [6, 7, 8, 9, 10, 5, 11, 12, 13, 14, 15, 16, 17, 18, 19, 20, 21, 22, 23, 24, 25, 37, 38, 39, 40] (by decide +kernel) (by decide +kernel)
set_option maxRecDepth 20000 in
theorem gX8_blanks_X0_blanksBelow : GoodIn wsX8_blanks (wsV RX8 136 RX0 yX0_blanksBelow wsX0_blanksBelow) := goodIn_app (goodIn_of _ (by decide +kernel)) ggX8_blanks_X0_blanksBelow
theorem dX8_blanks_0 : decode cX8_blanks 0 = .ok (.aload_n 0, 1) := by decide +kernel
theorem dX8_blanks_1 : decode cX8_blanks 1 = .ok (.getfield 10, 3) := by decide +kernel
theorem dX8_blanks_4 : decode cX8_blanks 4 = .ok (.bipush 12, 2) := by decide +kernel
theorem dX8_blanks_6 : decode cX8_blanks 6 = .ok (.invokevirtual 136, 3) := by decide +kernel
theorem dX8_blanks_9 : decode cX8_blanks 9 = .ok (.ireturn, 1) := by decide +kernel
set_option maxRecDepth 20000 in
theorem ggX8_camOf_X8_refusalOfCam : GoodIn wsX8_camOf wsX8_refusalOfCam := goodIn_r _ [6, 1, 7, 8, 5, 9, 10, 11, 12, 13, 14, 15, 56, 57, 58, 59, 60, 61, 62, 63, 64, 65, 66, 67, 68, 69, 70] (by decide +kernel) (by decide +kernel)
set_option maxRecDepth 20000 in
theorem gX8_camOf_X8_refusalOfCam : GoodIn wsX8_camOf (wsV RX8 107 RX8 yX8_refusalOfCam wsX8_refusalOfCam) := goodIn_app (goodIn_of _ (by decide +kernel)) ggX8_camOf_X8_refusalOfCam
set_option maxRecDepth 20000 in
theorem ggX8_camOf_X8_refuse : GoodIn wsX8_camOf wsX8_refuse := goodIn_r _ [19, 20, 56, 57, 58, 59, 60, 61, 62, 63, 64, 65, 66] (by decide +kernel) (by decide +kernel)
set_option maxRecDepth 20000 in
theorem gX8_camOf_X8_refuse : GoodIn wsX8_camOf (wsV RX8 82 RX8 yX8_refuse wsX8_refuse) := goodIn_app (goodIn_of _ (by decide +kernel)) ggX8_camOf_X8_refuse
set_option maxRecDepth 20000 in
theorem ggX8_camOf_X0_leastAlike : GoodIn wsX8_camOf wsX0_leastAlike := goodIn_r _ [24, 15, 25, 26, 27, 13, 28, 29, 30, 31, 32, 33, 34, 35, 36, 37, 38, 67, 68, 69, 70] (by decide +kernel) (by decide +kernel)
set_option maxRecDepth 20000 in
theorem gX8_camOf_X0_leastAlike : GoodIn wsX8_camOf (wsV RX8 139 RX0 yX0_leastAlike wsX0_leastAlike) := goodIn_app (goodIn_of _ (by decide +kernel)) ggX8_camOf_X0_leastAlike
set_option maxRecDepth 20000 in
theorem ggX8_camOf_X0_blanksBelow : GoodIn wsX8_camOf wsX0_blanksBelow := goodIn_r _ [42, 15, 43, 22, 23, 13, 24, 25, 26, 27, 28, 29, 30, 31, 32, 33, 34, 35, 36, 37, 38, 67, 68, 69, 70] (by decide +kernel) (by decide +kernel)
set_option maxRecDepth 20000 in
theorem gX8_camOf_X0_blanksBelow : GoodIn wsX8_camOf (wsV RX8 136 RX0 yX0_blanksBelow wsX0_blanksBelow) := goodIn_app (goodIn_of _ (by decide +kernel)) ggX8_camOf_X0_blanksBelow
set_option maxRecDepth 20000 in
theorem ggX8_camOf_X0_stepsBetween : GoodIn wsX8_camOf wsX0_stepsBetween := goodIn_r _ [28, 29, 30, 31, 32, 33, 13, 34, 35, 36, 37, 38, 67, 68, 69, 70] (by decide +kernel) (by decide +kernel)
set_option maxRecDepth 20000 in
theorem gX8_camOf_X0_stepsBetween : GoodIn wsX8_camOf (wsV RX8 142 RX0 yX0_stepsBetween wsX0_stepsBetween) := goodIn_app (goodIn_of _ (by decide +kernel)) ggX8_camOf_X0_stepsBetween
set_option maxRecDepth 20000 in
theorem ggX8_camOf_X0_greatestStep : GoodIn wsX8_camOf wsX0_greatestStep := goodIn_r _ [48, 29, 30, 49, 50, 51, 52, 53, 54, 55, 35, 36, 37, 13, 38, 67, 68, 69, 70] (by decide +kernel) (by decide +kernel)
set_option maxRecDepth 20000 in
theorem gX8_camOf_X0_greatestStep : GoodIn wsX8_camOf (wsV RX8 145 RX0 yX0_greatestStep wsX0_greatestStep) := goodIn_app (goodIn_of _ (by decide +kernel)) ggX8_camOf_X0_greatestStep
theorem dX8_camOf_0 : decode cX8_camOf 0 = .ok (.aload_n 0, 1) := by decide +kernel
theorem dX8_camOf_1 : decode cX8_camOf 1 = .ok (.iload_n 1, 1) := by decide +kernel
theorem dX8_camOf_2 : decode cX8_camOf 2 = .ok (.invokevirtual 107, 3) := by decide +kernel
theorem dX8_camOf_5 : decode cX8_camOf 5 = .ok (.istore_n 3, 1) := by decide +kernel
theorem dX8_camOf_6 : decode cX8_camOf 6 = .ok (.iload_n 3, 1) := by decide +kernel
theorem dX8_camOf_7 : decode cX8_camOf 7 = .ok (.ifCond .eq 9, 3) := by decide +kernel
theorem dX8_camOf_10 : decode cX8_camOf 10 = .ok (.aload_n 0, 1) := by decide +kernel
theorem dX8_camOf_11 : decode cX8_camOf 11 = .ok (.iload_n 3, 1) := by decide +kernel
theorem dX8_camOf_12 : decode cX8_camOf 12 = .ok (.invokevirtual 82, 3) := by decide +kernel
theorem dX8_camOf_15 : decode cX8_camOf 15 = .ok (.ireturn, 1) := by decide +kernel
theorem dX8_camOf_16 : decode cX8_camOf 16 = .ok (.iload_n 2, 1) := by decide +kernel
theorem dX8_camOf_17 : decode cX8_camOf 17 = .ok (.tableswitch 69 0 2 #[27, 43, 60], 27) := by decide +kernel
theorem dX8_camOf_44 : decode cX8_camOf 44 = .ok (.aload_n 0, 1) := by decide +kernel
theorem dX8_camOf_45 : decode cX8_camOf 45 = .ok (.getfield 10, 3) := by decide +kernel
theorem dX8_camOf_48 : decode cX8_camOf 48 = .ok (.aload_n 0, 1) := by decide +kernel
theorem dX8_camOf_49 : decode cX8_camOf 49 = .ok (.getfield 10, 3) := by decide +kernel
theorem dX8_camOf_52 : decode cX8_camOf 52 = .ok (.iload_n 1, 1) := by decide +kernel
theorem dX8_camOf_53 : decode cX8_camOf 53 = .ok (.invokevirtual 139, 3) := by decide +kernel
theorem dX8_camOf_56 : decode cX8_camOf 56 = .ok (.invokevirtual 136, 3) := by decide +kernel
theorem dX8_camOf_59 : decode cX8_camOf 59 = .ok (.ireturn, 1) := by decide +kernel
theorem dX8_camOf_60 : decode cX8_camOf 60 = .ok (.aload_n 0, 1) := by decide +kernel
theorem dX8_camOf_61 : decode cX8_camOf 61 = .ok (.getfield 10, 3) := by decide +kernel
theorem dX8_camOf_64 : decode cX8_camOf 64 = .ok (.aload_n 0, 1) := by decide +kernel
theorem dX8_camOf_65 : decode cX8_camOf 65 = .ok (.getfield 10, 3) := by decide +kernel
theorem dX8_camOf_68 : decode cX8_camOf 68 = .ok (.iload_n 1, 1) := by decide +kernel
theorem dX8_camOf_69 : decode cX8_camOf 69 = .ok (.invokevirtual 139, 3) := by decide +kernel
theorem dX8_camOf_72 : decode cX8_camOf 72 = .ok (.iload_n 1, 1) := by decide +kernel
theorem dX8_camOf_73 : decode cX8_camOf 73 = .ok (.invokevirtual 142, 3) := by decide +kernel
theorem dX8_camOf_76 : decode cX8_camOf 76 = .ok (.ireturn, 1) := by decide +kernel
theorem dX8_camOf_77 : decode cX8_camOf 77 = .ok (.aload_n 0, 1) := by decide +kernel
theorem dX8_camOf_78 : decode cX8_camOf 78 = .ok (.getfield 10, 3) := by decide +kernel
theorem dX8_camOf_81 : decode cX8_camOf 81 = .ok (.iload_n 1, 1) := by decide +kernel
theorem dX8_camOf_82 : decode cX8_camOf 82 = .ok (.invokevirtual 145, 3) := by decide +kernel
theorem dX8_camOf_85 : decode cX8_camOf 85 = .ok (.ireturn, 1) := by decide +kernel
theorem dX8_camOf_86 : decode cX8_camOf 86 = .ok (.aload_n 0, 1) := by decide +kernel
theorem dX8_camOf_87 : decode cX8_camOf 87 = .ok (.bipush (-2), 2) := by decide +kernel
theorem dX8_camOf_89 : decode cX8_camOf 89 = .ok (.invokevirtual 82, 3) := by decide +kernel
theorem dX8_camOf_92 : decode cX8_camOf 92 = .ok (.ireturn, 1) := by decide +kernel
set_option maxRecDepth 20000 in
theorem ggX8_letter_X8_isLetter : GoodIn wsX8_letter wsX8_isLetter := goodIn_r _ [5] (by decide +kernel) (by decide +kernel)
set_option maxRecDepth 20000 in
theorem gX8_letter_X8_isLetter : GoodIn wsX8_letter (va_wsS RX8 148 yX8_isLetter wsX8_isLetter) := goodIn_app (goodIn_of _ (by decide +kernel)) ggX8_letter_X8_isLetter
set_option maxRecDepth 20000 in
theorem ggX8_letter_X8_isCam : GoodIn wsX8_letter wsX8_isCam := goodIn_r _ [8] (by decide +kernel) (by decide +kernel)
set_option maxRecDepth 20000 in
theorem gX8_letter_X8_isCam : GoodIn wsX8_letter (va_wsS RX8 97 yX8_isCam wsX8_isCam) := goodIn_app (goodIn_of _ (by decide +kernel)) ggX8_letter_X8_isCam
set_option maxRecDepth 20000 in
theorem ggX8_letter_X8_refuse : GoodIn wsX8_letter wsX8_refuse := goodIn_r _ [12, 13, 22, 23, 24, 25, 26, 27, 28, 29, 30, 31, 32] (by decide +kernel) (by decide +kernel)
set_option maxRecDepth 20000 in
theorem gX8_letter_X8_refuse : GoodIn wsX8_letter (wsV RX8 82 RX8 yX8_refuse wsX8_refuse) := goodIn_app (goodIn_of _ (by decide +kernel)) ggX8_letter_X8_refuse
set_option maxRecDepth 20000 in
theorem ggX8_letter_X5_setCams : GoodIn wsX8_letter wsX5_setCams := goodIn_r _ [18, 19, 20, 21, 33, 34, 35, 36, 37, 38] (by decide +kernel) (by decide +kernel)
set_option maxRecDepth 20000 in
theorem gX8_letter_X5_setCams : GoodIn wsX8_letter (wsV RX8 151 RX5 yX5_setCams wsX5_setCams) := goodIn_app (goodIn_of _ (by decide +kernel)) ggX8_letter_X5_setCams
theorem dX8_letter_0 : decode cX8_letter 0 = .ok (.iload_n 1, 1) := by decide +kernel
theorem dX8_letter_1 : decode cX8_letter 1 = .ok (.invokestatic 148, 3) := by decide +kernel
theorem dX8_letter_4 : decode cX8_letter 4 = .ok (.ifCond .eq 25, 3) := by decide +kernel
theorem dX8_letter_7 : decode cX8_letter 7 = .ok (.iload_n 2, 1) := by decide +kernel
theorem dX8_letter_8 : decode cX8_letter 8 = .ok (.invokestatic 97, 3) := by decide +kernel
theorem dX8_letter_11 : decode cX8_letter 11 = .ok (.ifCond .eq 18, 3) := by decide +kernel
theorem dX8_letter_14 : decode cX8_letter 14 = .ok (.iload_n 3, 1) := by decide +kernel
theorem dX8_letter_15 : decode cX8_letter 15 = .ok (.invokestatic 97, 3) := by decide +kernel
theorem dX8_letter_18 : decode cX8_letter 18 = .ok (.ifCond .eq 11, 3) := by decide +kernel
theorem dX8_letter_21 : decode cX8_letter 21 = .ok (.iload 4, 2) := by decide +kernel
theorem dX8_letter_23 : decode cX8_letter 23 = .ok (.invokestatic 97, 3) := by decide +kernel
theorem dX8_letter_26 : decode cX8_letter 26 = .ok (.ifCond .ne 9, 3) := by decide +kernel
theorem dX8_letter_29 : decode cX8_letter 29 = .ok (.aload_n 0, 1) := by decide +kernel
theorem dX8_letter_30 : decode cX8_letter 30 = .ok (.iconst (-1), 1) := by decide +kernel
theorem dX8_letter_31 : decode cX8_letter 31 = .ok (.invokevirtual 82, 3) := by decide +kernel
theorem dX8_letter_34 : decode cX8_letter 34 = .ok (.ireturn, 1) := by decide +kernel
theorem dX8_letter_35 : decode cX8_letter 35 = .ok (.aload_n 0, 1) := by decide +kernel
theorem dX8_letter_36 : decode cX8_letter 36 = .ok (.getfield 19, 3) := by decide +kernel
theorem dX8_letter_39 : decode cX8_letter 39 = .ok (.iload_n 1, 1) := by decide +kernel
theorem dX8_letter_40 : decode cX8_letter 40 = .ok (.iload_n 2, 1) := by decide +kernel
theorem dX8_letter_41 : decode cX8_letter 41 = .ok (.iload_n 3, 1) := by decide +kernel
theorem dX8_letter_42 : decode cX8_letter 42 = .ok (.iload 4, 2) := by decide +kernel
theorem dX8_letter_44 : decode cX8_letter 44 = .ok (.invokevirtual 151, 3) := by decide +kernel
theorem dX8_letter_47 : decode cX8_letter 47 = .ok (.iconst 1, 1) := by decide +kernel
theorem dX8_letter_48 : decode cX8_letter 48 = .ok (.ireturn, 1) := by decide +kernel
set_option maxRecDepth 20000 in
theorem ggX8_isCut_X8_isLetter : GoodIn wsX8_isCut wsX8_isLetter := goodIn_r _ [6] (by decide +kernel) (by decide +kernel)
set_option maxRecDepth 20000 in
theorem gX8_isCut_X8_isLetter : GoodIn wsX8_isCut (va_wsS RX8 148 yX8_isLetter wsX8_isLetter) := goodIn_app (goodIn_of _ (by decide +kernel)) ggX8_isCut_X8_isLetter
set_option maxRecDepth 20000 in
theorem ggX8_isCut_X8_refuse : GoodIn wsX8_isCut wsX8_refuse := goodIn_r _ [10, 11, 26, 27, 28, 29, 30, 31, 32, 33, 34, 35, 36] (by decide +kernel) (by decide +kernel)
set_option maxRecDepth 20000 in
theorem gX8_isCut_X8_refuse : GoodIn wsX8_isCut (wsV RX8 82 RX8 yX8_refuse wsX8_refuse) := goodIn_app (goodIn_of _ (by decide +kernel)) ggX8_isCut_X8_refuse
set_option maxRecDepth 20000 in
theorem ggX8_isCut_X5_hasAllCams : GoodIn wsX8_isCut wsX5_hasAllCams := goodIn_r _ [16, 17, 18, 19, 20, 21, 22, 23, 24, 25, 37, 38, 39, 40, 41, 42, 43, 44, 45, 46] (by decide +kernel) (by decide +kernel)
set_option maxRecDepth 20000 in
theorem gX8_isCut_X5_hasAllCams : GoodIn wsX8_isCut (wsV RX8 155 RX5 yX5_hasAllCams wsX5_hasAllCams) := goodIn_app (goodIn_of _ (by decide +kernel)) ggX8_isCut_X5_hasAllCams
theorem dX8_isCut_0 : decode cX8_isCut 0 = .ok (.iload_n 1, 1) := by decide +kernel
theorem dX8_isCut_1 : decode cX8_isCut 1 = .ok (.invokestatic 148, 3) := by decide +kernel
theorem dX8_isCut_4 : decode cX8_isCut 4 = .ok (.ifCond .ne 9, 3) := by decide +kernel
theorem dX8_isCut_7 : decode cX8_isCut 7 = .ok (.aload_n 0, 1) := by decide +kernel
theorem dX8_isCut_8 : decode cX8_isCut 8 = .ok (.iconst (-1), 1) := by decide +kernel
theorem dX8_isCut_9 : decode cX8_isCut 9 = .ok (.invokevirtual 82, 3) := by decide +kernel
theorem dX8_isCut_12 : decode cX8_isCut 12 = .ok (.ireturn, 1) := by decide +kernel
theorem dX8_isCut_13 : decode cX8_isCut 13 = .ok (.aload_n 0, 1) := by decide +kernel
theorem dX8_isCut_14 : decode cX8_isCut 14 = .ok (.getfield 19, 3) := by decide +kernel
theorem dX8_isCut_17 : decode cX8_isCut 17 = .ok (.iload_n 1, 1) := by decide +kernel
theorem dX8_isCut_18 : decode cX8_isCut 18 = .ok (.aload_n 0, 1) := by decide +kernel
theorem dX8_isCut_19 : decode cX8_isCut 19 = .ok (.getfield 10, 3) := by decide +kernel
theorem dX8_isCut_22 : decode cX8_isCut 22 = .ok (.invokevirtual 155, 3) := by decide +kernel
theorem dX8_isCut_25 : decode cX8_isCut 25 = .ok (.ifCond .eq 7, 3) := by decide +kernel
theorem dX8_isCut_28 : decode cX8_isCut 28 = .ok (.iconst 1, 1) := by decide +kernel
theorem dX8_isCut_29 : decode cX8_isCut 29 = .ok (.goto 4, 3) := by decide +kernel
theorem dX8_isCut_32 : decode cX8_isCut 32 = .ok (.iconst 0, 1) := by decide +kernel
theorem dX8_isCut_33 : decode cX8_isCut 33 = .ok (.ireturn, 1) := by decide +kernel
set_option maxRecDepth 20000 in
theorem ggX8_peg_X8_isLetter : GoodIn wsX8_peg wsX8_isLetter := goodIn_r _ [5] (by decide +kernel) (by decide +kernel)
set_option maxRecDepth 20000 in
theorem gX8_peg_X8_isLetter : GoodIn wsX8_peg (va_wsS RX8 148 yX8_isLetter wsX8_isLetter) := goodIn_app (goodIn_of _ (by decide +kernel)) ggX8_peg_X8_isLetter
set_option maxRecDepth 20000 in
theorem ggX8_peg_X8_refuse : GoodIn wsX8_peg wsX8_refuse := goodIn_r _ [9, 10, 22, 23, 24, 25, 26, 27, 28, 29, 30, 31, 32] (by decide +kernel) (by decide +kernel)
set_option maxRecDepth 20000 in
theorem gX8_peg_X8_refuse : GoodIn wsX8_peg (wsV RX8 82 RX8 yX8_refuse wsX8_refuse) := goodIn_app (goodIn_of _ (by decide +kernel)) ggX8_peg_X8_refuse
set_option maxRecDepth 20000 in
theorem ggX8_peg_X5_pegs : GoodIn wsX8_peg wsX5_pegs := goodIn_r _ [15, 16, 33, 34, 35, 36, 37, 38] (by decide +kernel) (by decide +kernel)
set_option maxRecDepth 20000 in
theorem gX8_peg_X5_pegs : GoodIn wsX8_peg (wsV RX8 159 RX5 yX5_pegs wsX5_pegs) := goodIn_app (goodIn_of _ (by decide +kernel)) ggX8_peg_X5_pegs
set_option maxRecDepth 20000 in
theorem ggX8_peg_X5_addPeg : GoodIn wsX8_peg wsX5_addPeg := goodIn_r _ [20, 21, 16, 33, 34, 35, 36, 37, 38] (by decide +kernel) (by decide +kernel)
set_option maxRecDepth 20000 in
theorem gX8_peg_X5_addPeg : GoodIn wsX8_peg (wsV RX8 162 RX5 yX5_addPeg wsX5_addPeg) := goodIn_app (goodIn_of _ (by decide +kernel)) ggX8_peg_X5_addPeg
theorem dX8_peg_0 : decode cX8_peg 0 = .ok (.iload_n 1, 1) := by decide +kernel
theorem dX8_peg_1 : decode cX8_peg 1 = .ok (.invokestatic 148, 3) := by decide +kernel
theorem dX8_peg_4 : decode cX8_peg 4 = .ok (.ifCond .ne 9, 3) := by decide +kernel
theorem dX8_peg_7 : decode cX8_peg 7 = .ok (.aload_n 0, 1) := by decide +kernel
theorem dX8_peg_8 : decode cX8_peg 8 = .ok (.iconst (-1), 1) := by decide +kernel
theorem dX8_peg_9 : decode cX8_peg 9 = .ok (.invokevirtual 82, 3) := by decide +kernel
theorem dX8_peg_12 : decode cX8_peg 12 = .ok (.ireturn, 1) := by decide +kernel
theorem dX8_peg_13 : decode cX8_peg 13 = .ok (.aload_n 0, 1) := by decide +kernel
theorem dX8_peg_14 : decode cX8_peg 14 = .ok (.getfield 19, 3) := by decide +kernel
theorem dX8_peg_17 : decode cX8_peg 17 = .ok (.invokevirtual 159, 3) := by decide +kernel
theorem dX8_peg_20 : decode cX8_peg 20 = .ok (.bipush 12, 2) := by decide +kernel
theorem dX8_peg_22 : decode cX8_peg 22 = .ok (.if_icmp .lt 10, 3) := by decide +kernel
theorem dX8_peg_25 : decode cX8_peg 25 = .ok (.aload_n 0, 1) := by decide +kernel
theorem dX8_peg_26 : decode cX8_peg 26 = .ok (.bipush (-6), 2) := by decide +kernel
theorem dX8_peg_28 : decode cX8_peg 28 = .ok (.invokevirtual 82, 3) := by decide +kernel
theorem dX8_peg_31 : decode cX8_peg 31 = .ok (.ireturn, 1) := by decide +kernel
theorem dX8_peg_32 : decode cX8_peg 32 = .ok (.aload_n 0, 1) := by decide +kernel
theorem dX8_peg_33 : decode cX8_peg 33 = .ok (.getfield 19, 3) := by decide +kernel
theorem dX8_peg_36 : decode cX8_peg 36 = .ok (.iload_n 1, 1) := by decide +kernel
theorem dX8_peg_37 : decode cX8_peg 37 = .ok (.invokevirtual 162, 3) := by decide +kernel
theorem dX8_peg_40 : decode cX8_peg 40 = .ok (.aload_n 0, 1) := by decide +kernel
theorem dX8_peg_41 : decode cX8_peg 41 = .ok (.getfield 19, 3) := by decide +kernel
theorem dX8_peg_44 : decode cX8_peg 44 = .ok (.invokevirtual 159, 3) := by decide +kernel
theorem dX8_peg_47 : decode cX8_peg 47 = .ok (.ireturn, 1) := by decide +kernel
set_option maxRecDepth 20000 in
theorem ggX8_unpeg_X5_pegs : GoodIn wsX8_unpeg wsX5_pegs := goodIn_r _ [6, 7, 29, 30, 31, 32, 33, 34] (by decide +kernel) (by decide +kernel)
set_option maxRecDepth 20000 in
theorem gX8_unpeg_X5_pegs : GoodIn wsX8_unpeg (wsV RX8 159 RX5 yX5_pegs wsX5_pegs) := goodIn_app (goodIn_of _ (by decide +kernel)) ggX8_unpeg_X5_pegs
set_option maxRecDepth 20000 in
theorem ggX8_unpeg_X8_refuse : GoodIn wsX8_unpeg wsX8_refuse := goodIn_r _ [12, 13, 18, 19, 20, 21, 22, 23, 24, 25, 26, 27, 28] (by decide +kernel) (by decide +kernel)
set_option maxRecDepth 20000 in
theorem gX8_unpeg_X8_refuse : GoodIn wsX8_unpeg (wsV RX8 82 RX8 yX8_refuse wsX8_refuse) := goodIn_app (goodIn_of _ (by decide +kernel)) ggX8_unpeg_X8_refuse
set_option maxRecDepth 20000 in
theorem ggX8_unpeg_X5_dropPeg : GoodIn wsX8_unpeg wsX5_dropPeg := goodIn_r _ [17, 7, 29, 30, 31, 32, 33, 34] (by decide +kernel) (by decide +kernel)
set_option maxRecDepth 20000 in
theorem gX8_unpeg_X5_dropPeg : GoodIn wsX8_unpeg (wsV RX8 165 RX5 yX5_dropPeg wsX5_dropPeg) := goodIn_app (goodIn_of _ (by decide +kernel)) ggX8_unpeg_X5_dropPeg
theorem dX8_unpeg_0 : decode cX8_unpeg 0 = .ok (.aload_n 0, 1) := by decide +kernel
theorem dX8_unpeg_1 : decode cX8_unpeg 1 = .ok (.getfield 19, 3) := by decide +kernel
theorem dX8_unpeg_4 : decode cX8_unpeg 4 = .ok (.invokevirtual 159, 3) := by decide +kernel
theorem dX8_unpeg_7 : decode cX8_unpeg 7 = .ok (.ifCond .gt 10, 3) := by decide +kernel
theorem dX8_unpeg_10 : decode cX8_unpeg 10 = .ok (.aload_n 0, 1) := by decide +kernel
theorem dX8_unpeg_11 : decode cX8_unpeg 11 = .ok (.bipush (-3), 2) := by decide +kernel
theorem dX8_unpeg_13 : decode cX8_unpeg 13 = .ok (.invokevirtual 82, 3) := by decide +kernel
theorem dX8_unpeg_16 : decode cX8_unpeg 16 = .ok (.ireturn, 1) := by decide +kernel
theorem dX8_unpeg_17 : decode cX8_unpeg 17 = .ok (.aload_n 0, 1) := by decide +kernel
theorem dX8_unpeg_18 : decode cX8_unpeg 18 = .ok (.getfield 19, 3) := by decide +kernel
theorem dX8_unpeg_21 : decode cX8_unpeg 21 = .ok (.invokevirtual 165, 3) := by decide +kernel
theorem dX8_unpeg_24 : decode cX8_unpeg 24 = .ok (.aload_n 0, 1) := by decide +kernel
theorem dX8_unpeg_25 : decode cX8_unpeg 25 = .ok (.getfield 19, 3) := by decide +kernel
theorem dX8_unpeg_28 : decode cX8_unpeg 28 = .ok (.invokevirtual 159, 3) := by decide +kernel
theorem dX8_unpeg_31 : decode cX8_unpeg 31 = .ok (.ireturn, 1) := by decide +kernel
set_option maxRecDepth 20000 in
theorem ggX8_advance_X8_refuse : GoodIn wsX8_advance wsX8_refuse := goodIn_r _ [6, 7, 18, 19, 20, 21, 22, 23, 24, 25, 26, 27, 28] (by decide +kernel) (by decide +kernel)
set_option maxRecDepth 20000 in
theorem gX8_advance_X8_refuse : GoodIn wsX8_advance (wsV RX8 82 RX8 yX8_refuse wsX8_refuse) := goodIn_app (goodIn_of _ (by decide +kernel)) ggX8_advance_X8_refuse
set_option maxRecDepth 20000 in
theorem ggX8_advance_X5_space : GoodIn wsX8_advance wsX5_space := goodIn_r _ [12, 13, 29, 30, 31, 32, 33, 34] (by decide +kernel) (by decide +kernel)
set_option maxRecDepth 20000 in
theorem gX8_advance_X5_space : GoodIn wsX8_advance (wsV RX8 168 RX5 yX5_space wsX5_space) := goodIn_app (goodIn_of _ (by decide +kernel)) ggX8_advance_X5_space
set_option maxRecDepth 20000 in
theorem ggX8_advance_X5_setSpace : GoodIn wsX8_advance wsX5_setSpace := goodIn_r _ [17, 13, 29, 30, 31, 32, 33, 34] (by decide +kernel) (by decide +kernel)
set_option maxRecDepth 20000 in
theorem gX8_advance_X5_setSpace : GoodIn wsX8_advance (wsV RX8 171 RX5 yX5_setSpace wsX5_setSpace) := goodIn_app (goodIn_of _ (by decide +kernel)) ggX8_advance_X5_setSpace
theorem dX8_advance_0 : decode cX8_advance 0 = .ok (.iload_n 1, 1) := by decide +kernel
theorem dX8_advance_1 : decode cX8_advance 1 = .ok (.ifCond .ge 10, 3) := by decide +kernel
theorem dX8_advance_4 : decode cX8_advance 4 = .ok (.aload_n 0, 1) := by decide +kernel
theorem dX8_advance_5 : decode cX8_advance 5 = .ok (.bipush (-4), 2) := by decide +kernel
theorem dX8_advance_7 : decode cX8_advance 7 = .ok (.invokevirtual 82, 3) := by decide +kernel
theorem dX8_advance_10 : decode cX8_advance 10 = .ok (.ireturn, 1) := by decide +kernel
theorem dX8_advance_11 : decode cX8_advance 11 = .ok (.iload_n 1, 1) := by decide +kernel
theorem dX8_advance_12 : decode cX8_advance 12 = .ok (.bipush 9, 2) := by decide +kernel
theorem dX8_advance_14 : decode cX8_advance 14 = .ok (.if_icmp .le 10, 3) := by decide +kernel
theorem dX8_advance_17 : decode cX8_advance 17 = .ok (.aload_n 0, 1) := by decide +kernel
theorem dX8_advance_18 : decode cX8_advance 18 = .ok (.bipush (-6), 2) := by decide +kernel
theorem dX8_advance_20 : decode cX8_advance 20 = .ok (.invokevirtual 82, 3) := by decide +kernel
theorem dX8_advance_23 : decode cX8_advance 23 = .ok (.ireturn, 1) := by decide +kernel
theorem dX8_advance_24 : decode cX8_advance 24 = .ok (.aload_n 0, 1) := by decide +kernel
theorem dX8_advance_25 : decode cX8_advance 25 = .ok (.getfield 19, 3) := by decide +kernel
theorem dX8_advance_28 : decode cX8_advance 28 = .ok (.invokevirtual 168, 3) := by decide +kernel
theorem dX8_advance_31 : decode cX8_advance 31 = .ok (.istore_n 2, 1) := by decide +kernel
theorem dX8_advance_32 : decode cX8_advance 32 = .ok (.aload_n 0, 1) := by decide +kernel
theorem dX8_advance_33 : decode cX8_advance 33 = .ok (.getfield 19, 3) := by decide +kernel
theorem dX8_advance_36 : decode cX8_advance 36 = .ok (.iload_n 1, 1) := by decide +kernel
theorem dX8_advance_37 : decode cX8_advance 37 = .ok (.invokevirtual 171, 3) := by decide +kernel
theorem dX8_advance_40 : decode cX8_advance 40 = .ok (.iload_n 2, 1) := by decide +kernel
theorem dX8_advance_41 : decode cX8_advance 41 = .ok (.ireturn, 1) := by decide +kernel
set_option maxRecDepth 20000 in
theorem ggX8_pull_X8_refuse : GoodIn wsX8_pull wsX8_refuse := goodIn_r _ [6, 7, 18, 19, 20, 21, 22, 23, 24, 25, 26, 27, 28] (by decide +kernel) (by decide +kernel)
set_option maxRecDepth 20000 in
theorem gX8_pull_X8_refuse : GoodIn wsX8_pull (wsV RX8 82 RX8 yX8_refuse wsX8_refuse) := goodIn_app (goodIn_of _ (by decide +kernel)) ggX8_pull_X8_refuse
set_option maxRecDepth 20000 in
theorem ggX8_pull_X7_load : GoodIn wsX8_pull wsX7_load := goodIn_r _ [12, 13, 29, 30, 31, 32, 33] (by decide +kernel) (by decide +kernel)
set_option maxRecDepth 20000 in
theorem gX8_pull_X7_load : GoodIn wsX8_pull (wsV RX8 174 RX7 yX7_load wsX7_load) := goodIn_app (goodIn_of _ (by decide +kernel)) ggX8_pull_X7_load
set_option maxRecDepth 20000 in
theorem ggX8_pull_X7_setLoad : GoodIn wsX8_pull wsX7_setLoad := goodIn_r _ [17, 13, 29, 30, 31, 32, 33] (by decide +kernel) (by decide +kernel)
set_option maxRecDepth 20000 in
theorem gX8_pull_X7_setLoad : GoodIn wsX8_pull (wsV RX8 177 RX7 yX7_setLoad wsX7_setLoad) := goodIn_app (goodIn_of _ (by decide +kernel)) ggX8_pull_X7_setLoad
theorem dX8_pull_0 : decode cX8_pull 0 = .ok (.iload_n 1, 1) := by decide +kernel
theorem dX8_pull_1 : decode cX8_pull 1 = .ok (.iconst 1, 1) := by decide +kernel
theorem dX8_pull_2 : decode cX8_pull 2 = .ok (.if_icmp .ge 10, 3) := by decide +kernel
theorem dX8_pull_5 : decode cX8_pull 5 = .ok (.aload_n 0, 1) := by decide +kernel
theorem dX8_pull_6 : decode cX8_pull 6 = .ok (.bipush (-4), 2) := by decide +kernel
theorem dX8_pull_8 : decode cX8_pull 8 = .ok (.invokevirtual 82, 3) := by decide +kernel
theorem dX8_pull_11 : decode cX8_pull 11 = .ok (.ireturn, 1) := by decide +kernel
theorem dX8_pull_12 : decode cX8_pull 12 = .ok (.iload_n 1, 1) := by decide +kernel
theorem dX8_pull_13 : decode cX8_pull 13 = .ok (.bipush 20, 2) := by decide +kernel
theorem dX8_pull_15 : decode cX8_pull 15 = .ok (.if_icmp .le 10, 3) := by decide +kernel
theorem dX8_pull_18 : decode cX8_pull 18 = .ok (.aload_n 0, 1) := by decide +kernel
theorem dX8_pull_19 : decode cX8_pull 19 = .ok (.bipush (-6), 2) := by decide +kernel
theorem dX8_pull_21 : decode cX8_pull 21 = .ok (.invokevirtual 82, 3) := by decide +kernel
theorem dX8_pull_24 : decode cX8_pull 24 = .ok (.ireturn, 1) := by decide +kernel
theorem dX8_pull_25 : decode cX8_pull 25 = .ok (.aload_n 0, 1) := by decide +kernel
theorem dX8_pull_26 : decode cX8_pull 26 = .ok (.getfield 26, 3) := by decide +kernel
theorem dX8_pull_29 : decode cX8_pull 29 = .ok (.invokevirtual 174, 3) := by decide +kernel
theorem dX8_pull_32 : decode cX8_pull 32 = .ok (.istore_n 2, 1) := by decide +kernel
theorem dX8_pull_33 : decode cX8_pull 33 = .ok (.aload_n 0, 1) := by decide +kernel
theorem dX8_pull_34 : decode cX8_pull 34 = .ok (.getfield 26, 3) := by decide +kernel
theorem dX8_pull_37 : decode cX8_pull 37 = .ok (.iload_n 1, 1) := by decide +kernel
theorem dX8_pull_38 : decode cX8_pull 38 = .ok (.invokevirtual 177, 3) := by decide +kernel
theorem dX8_pull_41 : decode cX8_pull 41 = .ok (.iload_n 2, 1) := by decide +kernel
theorem dX8_pull_42 : decode cX8_pull 42 = .ok (.ireturn, 1) := by decide +kernel
set_option maxRecDepth 20000 in
theorem ggX8_wind_X8_refuse : GoodIn wsX8_wind wsX8_refuse := goodIn_r _ [6, 7, 19, 20, 21, 22, 23, 24, 25, 26, 27, 28, 29] (by decide +kernel) (by decide +kernel)
set_option maxRecDepth 20000 in
theorem gX8_wind_X8_refuse : GoodIn wsX8_wind (wsV RX8 82 RX8 yX8_refuse wsX8_refuse) := goodIn_app (goodIn_of _ (by decide +kernel)) ggX8_wind_X8_refuse
set_option maxRecDepth 20000 in
theorem ggX8_wind_X7_tighten : GoodIn wsX8_wind wsX7_tighten := goodIn_r _ [12, 13, 14, 30, 31, 32, 33, 34] (by decide +kernel) (by decide +kernel)
set_option maxRecDepth 20000 in
theorem gX8_wind_X7_tighten : GoodIn wsX8_wind (wsV RX8 180 RX7 yX7_tighten wsX7_tighten) := goodIn_app (goodIn_of _ (by decide +kernel)) ggX8_wind_X7_tighten
set_option maxRecDepth 20000 in
theorem ggX8_wind_X7_power : GoodIn wsX8_wind wsX7_power := goodIn_r _ [18, 13, 30, 31, 32, 33, 34] (by decide +kernel) (by decide +kernel)
set_option maxRecDepth 20000 in
theorem gX8_wind_X7_power : GoodIn wsX8_wind (wsV RX8 183 RX7 yX7_power wsX7_power) := goodIn_app (goodIn_of _ (by decide +kernel)) ggX8_wind_X7_power
theorem dX8_wind_0 : decode cX8_wind 0 = .ok (.iload_n 1, 1) := by decide +kernel
theorem dX8_wind_1 : decode cX8_wind 1 = .ok (.ifCond .ge 10, 3) := by decide +kernel
theorem dX8_wind_4 : decode cX8_wind 4 = .ok (.aload_n 0, 1) := by decide +kernel
theorem dX8_wind_5 : decode cX8_wind 5 = .ok (.bipush (-4), 2) := by decide +kernel
theorem dX8_wind_7 : decode cX8_wind 7 = .ok (.invokevirtual 82, 3) := by decide +kernel
theorem dX8_wind_10 : decode cX8_wind 10 = .ok (.ireturn, 1) := by decide +kernel
theorem dX8_wind_11 : decode cX8_wind 11 = .ok (.iload_n 1, 1) := by decide +kernel
theorem dX8_wind_12 : decode cX8_wind 12 = .ok (.sipush 5000, 3) := by decide +kernel
theorem dX8_wind_15 : decode cX8_wind 15 = .ok (.if_icmp .le 10, 3) := by decide +kernel
theorem dX8_wind_18 : decode cX8_wind 18 = .ok (.aload_n 0, 1) := by decide +kernel
theorem dX8_wind_19 : decode cX8_wind 19 = .ok (.bipush (-6), 2) := by decide +kernel
theorem dX8_wind_21 : decode cX8_wind 21 = .ok (.invokevirtual 82, 3) := by decide +kernel
theorem dX8_wind_24 : decode cX8_wind 24 = .ok (.ireturn, 1) := by decide +kernel
theorem dX8_wind_25 : decode cX8_wind 25 = .ok (.aload_n 0, 1) := by decide +kernel
theorem dX8_wind_26 : decode cX8_wind 26 = .ok (.getfield 26, 3) := by decide +kernel
theorem dX8_wind_29 : decode cX8_wind 29 = .ok (.iload_n 1, 1) := by decide +kernel
theorem dX8_wind_30 : decode cX8_wind 30 = .ok (.invokevirtual 180, 3) := by decide +kernel
theorem dX8_wind_33 : decode cX8_wind 33 = .ok (.aload_n 0, 1) := by decide +kernel
theorem dX8_wind_34 : decode cX8_wind 34 = .ok (.getfield 26, 3) := by decide +kernel
theorem dX8_wind_37 : decode cX8_wind 37 = .ok (.invokevirtual 183, 3) := by decide +kernel
theorem dX8_wind_40 : decode cX8_wind 40 = .ok (.ireturn, 1) := by decide +kernel
set_option maxRecDepth 20000 in
theorem ggX8_show_X5_isWritable : GoodIn wsX8_show wsX5_isWritable := goodIn_r _ [11, 12, 13, 14, 15, 16, 10, 17, 18, 19, 20, 21, 22, 23, 24, 25, 26, 188, 189, 190, 191, 192, 193, 194, 195, 196, 197] (by decide +kernel) (by decide +kernel)
set_option maxRecDepth 20000 in
theorem gX8_show_X5_isWritable : GoodIn wsX8_show (wsV RX8 186 RX5 yX5_isWritable wsX5_isWritable) := goodIn_app (goodIn_of _ (by decide +kernel)) ggX8_show_X5_isWritable
set_option maxRecDepth 20000 in
theorem ggX8_show_X8_refuse : GoodIn wsX8_show wsX8_refuse := goodIn_r _ [31, 32, 177, 178, 179, 180, 181, 182, 183, 184, 185, 186, 187] (by decide +kernel) (by decide +kernel)
set_option maxRecDepth 20000 in
theorem gX8_show_X8_refuse : GoodIn wsX8_show (wsV RX8 82 RX8 yX8_refuse wsX8_refuse) := goodIn_app (goodIn_of _ (by decide +kernel)) ggX8_show_X8_refuse
set_option maxRecDepth 20000 in
theorem ggX8_show_X7_steps : GoodIn wsX8_show wsX7_steps := goodIn_r _ [37, 38, 198, 199, 200, 201, 202] (by decide +kernel) (by decide +kernel)
set_option maxRecDepth 20000 in
theorem gX8_show_X7_steps : GoodIn wsX8_show (wsV RX8 190 RX7 yX7_steps wsX7_steps) := goodIn_app (goodIn_of _ (by decide +kernel)) ggX8_show_X7_steps
set_option maxRecDepth 20000 in
theorem ggX8_show_X6_clear : GoodIn wsX8_show wsX6_clear := goodIn_r _ [43, 44, 45, 46, 47, 48, 203, 204] (by decide +kernel) (by decide +kernel)
set_option maxRecDepth 20000 in
theorem gX8_show_X6_clear : GoodIn wsX8_show (wsV RX8 94 RX6 yX6_clear wsX6_clear) := goodIn_app (goodIn_of _ (by decide +kernel)) ggX8_show_X6_clear
set_option maxRecDepth 20000 in
theorem ggX8_show_X8_perform : GoodIn wsX8_show wsX8_perform := goodIn_r _ [52, 1, 53, 2, 3, 54, 4, 55, 56, 57, 10, 58, 12, 59, 60, 61, 62, 63, 64, 65, 66, 67, 24, 68, 69, 70, 71, 72, 36, 73, 74, 75, 76, 38, 77, 78, 79, 80, 81, 82, 83, 84, 85, 86, 87, 88, 89, 90, 91, 92, 93, 94, 95, 96, 97, 98, 99, 100, 101, 102, 20, 13, 103, 104, 105, 106, 107, 108, 109, 110, 111, 112, 113, 114, 115, 116, 117, 118, 119, 120, 121, 122, 123, 124, 125, 18, 126, 127, 128, 129, 130, 131, 132, 133, 134, 135, 136, 137, 138, 139, 140, 141, 142, 143, 19, 144, 145, 146, 147, 148, 149, 150, 151, 42, 152, 44, 153, 154, 155, 156, 157, 158, 159, 160, 161, 162, 163, 164, 165, 166, 167, 168, 169, 170, 171, 172, 173, 174, 175, 176, 177, 178, 179, 180, 181, 182, 183, 184, 185, 186, 187, 188, 189, 190, 191, 192, 193, 205, 206, 207, 194, 195, 196, 197, 198, 199, 200, 201, 202, 208, 209, 203, 204] (by decide +kernel) (by decide +kernel)
set_option maxRecDepth 20000 in
theorem gX8_show_X8_perform : GoodIn wsX8_show (wsV RX8 191 RX8 yX8_perform wsX8_perform) := goodIn_app (goodIn_of _ (by decide +kernel)) ggX8_show_X8_perform
theorem dX8_show_0 : decode cX8_show 0 = .ok (.aload_n 0, 1) := by decide +kernel
theorem dX8_show_1 : decode cX8_show 1 = .ok (.getfield 19, 3) := by decide +kernel
theorem dX8_show_4 : decode cX8_show 4 = .ok (.aload_n 0, 1) := by decide +kernel
theorem dX8_show_5 : decode cX8_show 5 = .ok (.getfield 10, 3) := by decide +kernel
theorem dX8_show_8 : decode cX8_show 8 = .ok (.invokevirtual 186, 3) := by decide +kernel
theorem dX8_show_11 : decode cX8_show 11 = .ok (.ifCond .ne 10, 3) := by decide +kernel
theorem dX8_show_14 : decode cX8_show 14 = .ok (.aload_n 0, 1) := by decide +kernel
theorem dX8_show_15 : decode cX8_show 15 = .ok (.bipush (-3), 2) := by decide +kernel
theorem dX8_show_17 : decode cX8_show 17 = .ok (.invokevirtual 82, 3) := by decide +kernel
theorem dX8_show_20 : decode cX8_show 20 = .ok (.ireturn, 1) := by decide +kernel
theorem dX8_show_21 : decode cX8_show 21 = .ok (.aload_n 0, 1) := by decide +kernel
theorem dX8_show_22 : decode cX8_show 22 = .ok (.getfield 26, 3) := by decide +kernel
theorem dX8_show_25 : decode cX8_show 25 = .ok (.invokevirtual 190, 3) := by decide +kernel
theorem dX8_show_28 : decode cX8_show 28 = .ok (.istore_n 1, 1) := by decide +kernel
theorem dX8_show_29 : decode cX8_show 29 = .ok (.aload_n 0, 1) := by decide +kernel
theorem dX8_show_30 : decode cX8_show 30 = .ok (.getfield 35, 3) := by decide +kernel
theorem dX8_show_33 : decode cX8_show 33 = .ok (.invokevirtual 94, 3) := by decide +kernel
theorem dX8_show_36 : decode cX8_show 36 = .ok (.aload_n 0, 1) := by decide +kernel
theorem dX8_show_37 : decode cX8_show 37 = .ok (.dup, 1) := by decide +kernel
theorem dX8_show_38 : decode cX8_show 38 = .ok (.getfield 75, 3) := by decide +kernel
theorem dX8_show_41 : decode cX8_show 41 = .ok (.iconst 1, 1) := by decide +kernel
theorem dX8_show_42 : decode cX8_show 42 = .ok (.iadd, 1) := by decide +kernel
theorem dX8_show_43 : decode cX8_show 43 = .ok (.putfield 75, 3) := by decide +kernel
theorem dX8_show_46 : decode cX8_show 46 = .ok (.aload_n 0, 1) := by decide +kernel
theorem dX8_show_47 : decode cX8_show 47 = .ok (.invokevirtual 191, 3) := by decide +kernel
theorem dX8_show_50 : decode cX8_show 50 = .ok (.ifCond .eq 13, 3) := by decide +kernel
theorem dX8_show_53 : decode cX8_show 53 = .ok (.aload_n 0, 1) := by decide +kernel
theorem dX8_show_54 : decode cX8_show 54 = .ok (.dup, 1) := by decide +kernel
theorem dX8_show_55 : decode cX8_show 55 = .ok (.getfield 79, 3) := by decide +kernel
theorem dX8_show_58 : decode cX8_show 58 = .ok (.iconst 1, 1) := by decide +kernel
theorem dX8_show_59 : decode cX8_show 59 = .ok (.iadd, 1) := by decide +kernel
theorem dX8_show_60 : decode cX8_show 60 = .ok (.putfield 79, 3) := by decide +kernel
theorem dX8_show_63 : decode cX8_show 63 = .ok (.aload_n 0, 1) := by decide +kernel
theorem dX8_show_64 : decode cX8_show 64 = .ok (.getfield 26, 3) := by decide +kernel
theorem dX8_show_67 : decode cX8_show 67 = .ok (.invokevirtual 190, 3) := by decide +kernel
theorem dX8_show_70 : decode cX8_show 70 = .ok (.iload_n 1, 1) := by decide +kernel
theorem dX8_show_71 : decode cX8_show 71 = .ok (.isub, 1) := by decide +kernel
theorem dX8_show_72 : decode cX8_show 72 = .ok (.ireturn, 1) := by decide +kernel
set_option maxRecDepth 20000 in
theorem ggX8_marked_X6_hasPlace : GoodIn wsX8_marked wsX6_hasPlace := goodIn_r _ [5] (by decide +kernel) (by decide +kernel)
set_option maxRecDepth 20000 in
theorem gX8_marked_X6_hasPlace : GoodIn wsX8_marked (va_wsS RX8 195 yX6_hasPlace wsX6_hasPlace) := goodIn_app (goodIn_of _ (by decide +kernel)) ggX8_marked_X6_hasPlace
set_option maxRecDepth 20000 in
theorem ggX8_marked_X8_refuse : GoodIn wsX8_marked wsX8_refuse := goodIn_r _ [10, 11, 17, 18, 19, 20, 21, 22, 23, 24, 25, 26, 27] (by decide +kernel) (by decide +kernel)
set_option maxRecDepth 20000 in
theorem gX8_marked_X8_refuse : GoodIn wsX8_marked (wsV RX8 82 RX8 yX8_refuse wsX8_refuse) := goodIn_app (goodIn_of _ (by decide +kernel)) ggX8_marked_X8_refuse
set_option maxRecDepth 20000 in
theorem ggX8_marked_X6_isMarked : GoodIn wsX8_marked wsX6_isMarked := goodIn_r _ [15, 16, 28, 29] (by decide +kernel) (by decide +kernel)
set_option maxRecDepth 20000 in
theorem gX8_marked_X6_isMarked : GoodIn wsX8_marked (wsV RX8 198 RX6 yX6_isMarked wsX6_isMarked) := goodIn_app (goodIn_of _ (by decide +kernel)) ggX8_marked_X6_isMarked
theorem dX8_marked_0 : decode cX8_marked 0 = .ok (.iload_n 1, 1) := by decide +kernel
theorem dX8_marked_1 : decode cX8_marked 1 = .ok (.iload_n 2, 1) := by decide +kernel
theorem dX8_marked_2 : decode cX8_marked 2 = .ok (.invokestatic 195, 3) := by decide +kernel
theorem dX8_marked_5 : decode cX8_marked 5 = .ok (.ifCond .ne 9, 3) := by decide +kernel
theorem dX8_marked_8 : decode cX8_marked 8 = .ok (.aload_n 0, 1) := by decide +kernel
theorem dX8_marked_9 : decode cX8_marked 9 = .ok (.iconst (-1), 1) := by decide +kernel
theorem dX8_marked_10 : decode cX8_marked 10 = .ok (.invokevirtual 82, 3) := by decide +kernel
theorem dX8_marked_13 : decode cX8_marked 13 = .ok (.ireturn, 1) := by decide +kernel
theorem dX8_marked_14 : decode cX8_marked 14 = .ok (.aload_n 0, 1) := by decide +kernel
theorem dX8_marked_15 : decode cX8_marked 15 = .ok (.getfield 35, 3) := by decide +kernel
theorem dX8_marked_18 : decode cX8_marked 18 = .ok (.iload_n 1, 1) := by decide +kernel
theorem dX8_marked_19 : decode cX8_marked 19 = .ok (.iload_n 2, 1) := by decide +kernel
theorem dX8_marked_20 : decode cX8_marked 20 = .ok (.invokevirtual 198, 3) := by decide +kernel
theorem dX8_marked_23 : decode cX8_marked 23 = .ok (.ifCond .eq 7, 3) := by decide +kernel
theorem dX8_marked_26 : decode cX8_marked 26 = .ok (.iconst 1, 1) := by decide +kernel
theorem dX8_marked_27 : decode cX8_marked 27 = .ok (.goto 4, 3) := by decide +kernel
theorem dX8_marked_30 : decode cX8_marked 30 = .ok (.iconst 0, 1) := by decide +kernel
theorem dX8_marked_31 : decode cX8_marked 31 = .ok (.ireturn, 1) := by decide +kernel
set_option maxRecDepth 20000 in
theorem ggX8_first_X6_hasPlace : GoodIn wsX8_first wsX6_hasPlace := goodIn_r _ [5] (by decide +kernel) (by decide +kernel)
set_option maxRecDepth 20000 in
theorem gX8_first_X6_hasPlace : GoodIn wsX8_first (va_wsS RX8 195 yX6_hasPlace wsX6_hasPlace) := goodIn_app (goodIn_of _ (by decide +kernel)) ggX8_first_X6_hasPlace
set_option maxRecDepth 20000 in
theorem ggX8_first_X8_refuse : GoodIn wsX8_first wsX8_refuse := goodIn_r _ [10, 11, 30, 31, 32, 33, 34, 35, 36, 37, 38, 39, 40] (by decide +kernel) (by decide +kernel)
set_option maxRecDepth 20000 in
theorem gX8_first_X8_refuse : GoodIn wsX8_first (wsV RX8 82 RX8 yX8_refuse wsX8_refuse) := goodIn_app (goodIn_of _ (by decide +kernel)) ggX8_first_X8_refuse
set_option maxRecDepth 20000 in
theorem ggX8_first_X6_isMarked : GoodIn wsX8_first wsX6_isMarked := goodIn_r _ [15, 16, 41, 42] (by decide +kernel) (by decide +kernel)
set_option maxRecDepth 20000 in
theorem gX8_first_X6_isMarked : GoodIn wsX8_first (wsV RX8 198 RX6 yX6_isMarked wsX6_isMarked) := goodIn_app (goodIn_of _ (by decide +kernel)) ggX8_first_X6_isMarked
set_option maxRecDepth 20000 in
theorem ggX8_first_X6_pegThatMarked : GoodIn wsX8_first wsX6_pegThatMarked := goodIn_r _ [20, 21, 22, 23, 4, 24, 25, 41, 42] (by decide +kernel) (by decide +kernel)
set_option maxRecDepth 20000 in
theorem gX8_first_X6_pegThatMarked : GoodIn wsX8_first (wsV RX8 201 RX6 yX6_pegThatMarked wsX6_pegThatMarked) := goodIn_app (goodIn_of _ (by decide +kernel)) ggX8_first_X6_pegThatMarked
set_option maxRecDepth 20000 in
theorem ggX8_first_X6_stepThatMarked : GoodIn wsX8_first wsX6_stepThatMarked := goodIn_r _ [29, 21, 22, 23, 4, 24, 25, 41, 42] (by decide +kernel) (by decide +kernel)
set_option maxRecDepth 20000 in
theorem gX8_first_X6_stepThatMarked : GoodIn wsX8_first (wsV RX8 204 RX6 yX6_stepThatMarked wsX6_stepThatMarked) := goodIn_app (goodIn_of _ (by decide +kernel)) ggX8_first_X6_stepThatMarked
theorem dX8_first_0 : decode cX8_first 0 = .ok (.iload_n 1, 1) := by decide +kernel
theorem dX8_first_1 : decode cX8_first 1 = .ok (.iload_n 2, 1) := by decide +kernel
theorem dX8_first_2 : decode cX8_first 2 = .ok (.invokestatic 195, 3) := by decide +kernel
theorem dX8_first_5 : decode cX8_first 5 = .ok (.ifCond .ne 9, 3) := by decide +kernel
theorem dX8_first_8 : decode cX8_first 8 = .ok (.aload_n 0, 1) := by decide +kernel
theorem dX8_first_9 : decode cX8_first 9 = .ok (.iconst (-1), 1) := by decide +kernel
theorem dX8_first_10 : decode cX8_first 10 = .ok (.invokevirtual 82, 3) := by decide +kernel
theorem dX8_first_13 : decode cX8_first 13 = .ok (.ireturn, 1) := by decide +kernel
theorem dX8_first_14 : decode cX8_first 14 = .ok (.iload_n 3, 1) := by decide +kernel
theorem dX8_first_15 : decode cX8_first 15 = .ok (.ifCond .eq 15, 3) := by decide +kernel
theorem dX8_first_18 : decode cX8_first 18 = .ok (.iload_n 3, 1) := by decide +kernel
theorem dX8_first_19 : decode cX8_first 19 = .ok (.iconst 1, 1) := by decide +kernel
theorem dX8_first_20 : decode cX8_first 20 = .ok (.if_icmp .eq 10, 3) := by decide +kernel
theorem dX8_first_23 : decode cX8_first 23 = .ok (.aload_n 0, 1) := by decide +kernel
theorem dX8_first_24 : decode cX8_first 24 = .ok (.bipush (-2), 2) := by decide +kernel
theorem dX8_first_26 : decode cX8_first 26 = .ok (.invokevirtual 82, 3) := by decide +kernel
theorem dX8_first_29 : decode cX8_first 29 = .ok (.ireturn, 1) := by decide +kernel
theorem dX8_first_30 : decode cX8_first 30 = .ok (.aload_n 0, 1) := by decide +kernel
theorem dX8_first_31 : decode cX8_first 31 = .ok (.getfield 35, 3) := by decide +kernel
theorem dX8_first_34 : decode cX8_first 34 = .ok (.iload_n 1, 1) := by decide +kernel
theorem dX8_first_35 : decode cX8_first 35 = .ok (.iload_n 2, 1) := by decide +kernel
theorem dX8_first_36 : decode cX8_first 36 = .ok (.invokevirtual 198, 3) := by decide +kernel
theorem dX8_first_39 : decode cX8_first 39 = .ok (.ifCond .ne 6, 3) := by decide +kernel
theorem dX8_first_42 : decode cX8_first 42 = .ok (.bipush (-9), 2) := by decide +kernel
theorem dX8_first_44 : decode cX8_first 44 = .ok (.ireturn, 1) := by decide +kernel
theorem dX8_first_45 : decode cX8_first 45 = .ok (.iload_n 3, 1) := by decide +kernel
theorem dX8_first_46 : decode cX8_first 46 = .ok (.ifCond .ne 15, 3) := by decide +kernel
theorem dX8_first_49 : decode cX8_first 49 = .ok (.aload_n 0, 1) := by decide +kernel
theorem dX8_first_50 : decode cX8_first 50 = .ok (.getfield 35, 3) := by decide +kernel
theorem dX8_first_53 : decode cX8_first 53 = .ok (.iload_n 1, 1) := by decide +kernel
theorem dX8_first_54 : decode cX8_first 54 = .ok (.iload_n 2, 1) := by decide +kernel
theorem dX8_first_55 : decode cX8_first 55 = .ok (.invokevirtual 201, 3) := by decide +kernel
theorem dX8_first_58 : decode cX8_first 58 = .ok (.goto 12, 3) := by decide +kernel
theorem dX8_first_61 : decode cX8_first 61 = .ok (.aload_n 0, 1) := by decide +kernel
theorem dX8_first_62 : decode cX8_first 62 = .ok (.getfield 35, 3) := by decide +kernel
theorem dX8_first_65 : decode cX8_first 65 = .ok (.iload_n 1, 1) := by decide +kernel
theorem dX8_first_66 : decode cX8_first 66 = .ok (.iload_n 2, 1) := by decide +kernel
theorem dX8_first_67 : decode cX8_first 67 = .ok (.invokevirtual 204, 3) := by decide +kernel
theorem dX8_first_70 : decode cX8_first 70 = .ok (.ireturn, 1) := by decide +kernel
set_option maxRecDepth 20000 in
theorem ggX8_marks_X6_size : GoodIn wsX8_marks wsX6_size := goodIn_r _ [6, 7, 8, 9, 10, 11, 12, 13, 14, 26, 27] (by decide +kernel) (by decide +kernel)
set_option maxRecDepth 20000 in
theorem gX8_marks_X6_size : GoodIn wsX8_marks (wsV RX8 207 RX6 yX6_size wsX6_size) := goodIn_app (goodIn_of _ (by decide +kernel)) ggX8_marks_X6_size
theorem dX8_marks_0 : decode cX8_marks 0 = .ok (.aload_n 0, 1) := by decide +kernel
theorem dX8_marks_1 : decode cX8_marks 1 = .ok (.getfield 35, 3) := by decide +kernel
theorem dX8_marks_4 : decode cX8_marks 4 = .ok (.invokevirtual 207, 3) := by decide +kernel
theorem dX8_marks_7 : decode cX8_marks 7 = .ok (.ireturn, 1) := by decide +kernel
set_option maxRecDepth 20000 in
theorem ggX8_see_X6_hasPlace : GoodIn wsX8_see wsX6_hasPlace := goodIn_r _ [5] (by decide +kernel) (by decide +kernel)
set_option maxRecDepth 20000 in
theorem gX8_see_X6_hasPlace : GoodIn wsX8_see (va_wsS RX8 195 yX6_hasPlace wsX6_hasPlace) := goodIn_app (goodIn_of _ (by decide +kernel)) ggX8_see_X6_hasPlace
set_option maxRecDepth 20000 in
theorem ggX8_see_X8_refuse : GoodIn wsX8_see wsX8_refuse := goodIn_r _ [10, 11, 29, 30, 31, 32, 33, 34, 35, 36, 37, 38, 39] (by decide +kernel) (by decide +kernel)
set_option maxRecDepth 20000 in
theorem gX8_see_X8_refuse : GoodIn wsX8_see (wsV RX8 82 RX8 yX8_refuse wsX8_refuse) := goodIn_app (goodIn_of _ (by decide +kernel)) ggX8_see_X8_refuse
set_option maxRecDepth 20000 in
theorem ggX8_see_X6_isMarked : GoodIn wsX8_see wsX6_isMarked := goodIn_r _ [15, 16, 40, 41] (by decide +kernel) (by decide +kernel)
set_option maxRecDepth 20000 in
theorem gX8_see_X6_isMarked : GoodIn wsX8_see (wsV RX8 198 RX6 yX6_isMarked wsX6_isMarked) := goodIn_app (goodIn_of _ (by decide +kernel)) ggX8_see_X6_isMarked
set_option maxRecDepth 20000 in
theorem ggX8_see_X6_put : GoodIn wsX8_see wsX6_put := goodIn_r _ [20, 16, 21, 22, 3, 4, 5, 23, 13, 14, 15, 40, 41] (by decide +kernel) (by decide +kernel)
set_option maxRecDepth 20000 in
theorem gX8_see_X6_put : GoodIn wsX8_see (wsV RX8 210 RX6 yX6_put wsX6_put) := goodIn_app (goodIn_of _ (by decide +kernel)) ggX8_see_X6_put
set_option maxRecDepth 20000 in
theorem ggX8_see_X6_wipe : GoodIn wsX8_see wsX6_wipe := goodIn_r _ [27, 16, 28, 40, 41] (by decide +kernel) (by decide +kernel)
set_option maxRecDepth 20000 in
theorem gX8_see_X6_wipe : GoodIn wsX8_see (wsV RX8 213 RX6 yX6_wipe wsX6_wipe) := goodIn_app (goodIn_of _ (by decide +kernel)) ggX8_see_X6_wipe
theorem dX8_see_0 : decode cX8_see 0 = .ok (.iload_n 1, 1) := by decide +kernel
theorem dX8_see_1 : decode cX8_see 1 = .ok (.iload_n 2, 1) := by decide +kernel
theorem dX8_see_2 : decode cX8_see 2 = .ok (.invokestatic 195, 3) := by decide +kernel
theorem dX8_see_5 : decode cX8_see 5 = .ok (.ifCond .ne 9, 3) := by decide +kernel
theorem dX8_see_8 : decode cX8_see 8 = .ok (.aload_n 0, 1) := by decide +kernel
theorem dX8_see_9 : decode cX8_see 9 = .ok (.iconst (-1), 1) := by decide +kernel
theorem dX8_see_10 : decode cX8_see 10 = .ok (.invokevirtual 82, 3) := by decide +kernel
theorem dX8_see_13 : decode cX8_see 13 = .ok (.ireturn, 1) := by decide +kernel
theorem dX8_see_14 : decode cX8_see 14 = .ok (.aload_n 0, 1) := by decide +kernel
theorem dX8_see_15 : decode cX8_see 15 = .ok (.getfield 35, 3) := by decide +kernel
theorem dX8_see_18 : decode cX8_see 18 = .ok (.iload_n 1, 1) := by decide +kernel
theorem dX8_see_19 : decode cX8_see 19 = .ok (.iload_n 2, 1) := by decide +kernel
theorem dX8_see_20 : decode cX8_see 20 = .ok (.invokevirtual 198, 3) := by decide +kernel
theorem dX8_see_23 : decode cX8_see 23 = .ok (.iload_n 3, 1) := by decide +kernel
theorem dX8_see_24 : decode cX8_see 24 = .ok (.if_icmp .ne 5, 3) := by decide +kernel
theorem dX8_see_27 : decode cX8_see 27 = .ok (.iconst 0, 1) := by decide +kernel
theorem dX8_see_28 : decode cX8_see 28 = .ok (.ireturn, 1) := by decide +kernel
theorem dX8_see_29 : decode cX8_see 29 = .ok (.iload_n 3, 1) := by decide +kernel
theorem dX8_see_30 : decode cX8_see 30 = .ok (.ifCond .eq 19, 3) := by decide +kernel
theorem dX8_see_33 : decode cX8_see 33 = .ok (.aload_n 0, 1) := by decide +kernel
theorem dX8_see_34 : decode cX8_see 34 = .ok (.getfield 35, 3) := by decide +kernel
theorem dX8_see_37 : decode cX8_see 37 = .ok (.iload_n 1, 1) := by decide +kernel
theorem dX8_see_38 : decode cX8_see 38 = .ok (.iload_n 2, 1) := by decide +kernel
theorem dX8_see_39 : decode cX8_see 39 = .ok (.bipush 99, 2) := by decide +kernel
theorem dX8_see_41 : decode cX8_see 41 = .ok (.bipush 99, 2) := by decide +kernel
theorem dX8_see_43 : decode cX8_see 43 = .ok (.invokevirtual 210, 3) := by decide +kernel
theorem dX8_see_46 : decode cX8_see 46 = .ok (.goto 12, 3) := by decide +kernel
theorem dX8_see_49 : decode cX8_see 49 = .ok (.aload_n 0, 1) := by decide +kernel
theorem dX8_see_50 : decode cX8_see 50 = .ok (.getfield 35, 3) := by decide +kernel
theorem dX8_see_53 : decode cX8_see 53 = .ok (.iload_n 1, 1) := by decide +kernel
theorem dX8_see_54 : decode cX8_see 54 = .ok (.iload_n 2, 1) := by decide +kernel
theorem dX8_see_55 : decode cX8_see 55 = .ok (.invokevirtual 213, 3) := by decide +kernel
theorem dX8_see_58 : decode cX8_see 58 = .ok (.iconst 1, 1) := by decide +kernel
theorem dX8_see_59 : decode cX8_see 59 = .ok (.ireturn, 1) := by decide +kernel
set_option maxRecDepth 20000 in
theorem ggX8_fault_X8_refuse : GoodIn wsX8_fault wsX8_refuse := goodIn_r _ [7, 8, 23, 24, 25, 26, 27, 28, 29, 30, 31, 32, 33] (by decide +kernel) (by decide +kernel)
set_option maxRecDepth 20000 in
theorem gX8_fault_X8_refuse : GoodIn wsX8_fault (wsV RX8 82 RX8 yX8_refuse wsX8_refuse) := goodIn_app (goodIn_of _ (by decide +kernel)) ggX8_fault_X8_refuse
set_option maxRecDepth 20000 in
theorem ggX8_fault_X5_partsOfKind : GoodIn wsX8_fault wsX5_partsOfKind := goodIn_r _ [13, 14, 34, 35, 36, 37, 38, 39] (by decide +kernel) (by decide +kernel)
set_option maxRecDepth 20000 in
theorem gX8_fault_X5_partsOfKind : GoodIn wsX8_fault (wsV RX8 216 RX5 yX5_partsOfKind wsX5_partsOfKind) := goodIn_app (goodIn_of _ (by decide +kernel)) ggX8_fault_X5_partsOfKind
set_option maxRecDepth 20000 in
theorem ggX8_fault_X1_tell : GoodIn wsX8_fault wsX1_tell := goodIn_r _ [19, 20, 21, 22, 40, 41, 42] (by decide +kernel) (by decide +kernel)
set_option maxRecDepth 20000 in
theorem gX8_fault_X1_tell : GoodIn wsX8_fault (wsV RX8 219 RX1 yX1_tell wsX1_tell) := goodIn_app (goodIn_of _ (by decide +kernel)) ggX8_fault_X1_tell
theorem dX8_fault_0 : decode cX8_fault 0 = .ok (.iload_n 1, 1) := by decide +kernel
theorem dX8_fault_1 : decode cX8_fault 1 = .ok (.iconst 1, 1) := by decide +kernel
theorem dX8_fault_2 : decode cX8_fault 2 = .ok (.if_icmp .lt 8, 3) := by decide +kernel
theorem dX8_fault_5 : decode cX8_fault 5 = .ok (.iload_n 1, 1) := by decide +kernel
theorem dX8_fault_6 : decode cX8_fault 6 = .ok (.iconst 3, 1) := by decide +kernel
theorem dX8_fault_7 : decode cX8_fault 7 = .ok (.if_icmp .le 10, 3) := by decide +kernel
theorem dX8_fault_10 : decode cX8_fault 10 = .ok (.aload_n 0, 1) := by decide +kernel
theorem dX8_fault_11 : decode cX8_fault 11 = .ok (.bipush (-2), 2) := by decide +kernel
theorem dX8_fault_13 : decode cX8_fault 13 = .ok (.invokevirtual 82, 3) := by decide +kernel
theorem dX8_fault_16 : decode cX8_fault 16 = .ok (.ireturn, 1) := by decide +kernel
theorem dX8_fault_17 : decode cX8_fault 17 = .ok (.iload_n 2, 1) := by decide +kernel
theorem dX8_fault_18 : decode cX8_fault 18 = .ok (.ifCond .lt 15, 3) := by decide +kernel
theorem dX8_fault_21 : decode cX8_fault 21 = .ok (.iload_n 2, 1) := by decide +kernel
theorem dX8_fault_22 : decode cX8_fault 22 = .ok (.aload_n 0, 1) := by decide +kernel
theorem dX8_fault_23 : decode cX8_fault 23 = .ok (.getfield 19, 3) := by decide +kernel
theorem dX8_fault_26 : decode cX8_fault 26 = .ok (.iload_n 1, 1) := by decide +kernel
theorem dX8_fault_27 : decode cX8_fault 27 = .ok (.invokevirtual 216, 3) := by decide +kernel
theorem dX8_fault_30 : decode cX8_fault 30 = .ok (.if_icmp .lt 9, 3) := by decide +kernel
theorem dX8_fault_33 : decode cX8_fault 33 = .ok (.aload_n 0, 1) := by decide +kernel
theorem dX8_fault_34 : decode cX8_fault 34 = .ok (.iconst (-1), 1) := by decide +kernel
theorem dX8_fault_35 : decode cX8_fault 35 = .ok (.invokevirtual 82, 3) := by decide +kernel
theorem dX8_fault_38 : decode cX8_fault 38 = .ok (.ireturn, 1) := by decide +kernel
theorem dX8_fault_39 : decode cX8_fault 39 = .ok (.aload_n 0, 1) := by decide +kernel
theorem dX8_fault_40 : decode cX8_fault 40 = .ok (.getfield 42, 3) := by decide +kernel
theorem dX8_fault_43 : decode cX8_fault 43 = .ok (.iload_n 1, 1) := by decide +kernel
theorem dX8_fault_44 : decode cX8_fault 44 = .ok (.iload_n 2, 1) := by decide +kernel
theorem dX8_fault_45 : decode cX8_fault 45 = .ok (.invokevirtual 219, 3) := by decide +kernel
theorem dX8_fault_48 : decode cX8_fault 48 = .ok (.iconst 1, 1) := by decide +kernel
theorem dX8_fault_49 : decode cX8_fault 49 = .ok (.ireturn, 1) := by decide +kernel
set_option maxRecDepth 20000 in
theorem ggX8_mend_X1_size : GoodIn wsX8_mend wsX1_size := goodIn_r _ [6, 7, 8, 9, 25, 26, 27] (by decide +kernel) (by decide +kernel)
set_option maxRecDepth 20000 in
theorem gX8_mend_X1_size : GoodIn wsX8_mend (wsV RX8 222 RX1 yX1_size wsX1_size) := goodIn_app (goodIn_of _ (by decide +kernel)) ggX8_mend_X1_size
set_option maxRecDepth 20000 in
theorem ggX8_mend_X1_clear : GoodIn wsX8_mend wsX1_clear := goodIn_r _ [13, 7, 8, 9, 25, 26, 27] (by decide +kernel) (by decide +kernel)
set_option maxRecDepth 20000 in
theorem gX8_mend_X1_clear : GoodIn wsX8_mend (wsV RX8 223 RX1 yX1_clear wsX1_clear) := goodIn_app (goodIn_of _ (by decide +kernel)) ggX8_mend_X1_clear
theorem dX8_mend_0 : decode cX8_mend 0 = .ok (.aload_n 0, 1) := by decide +kernel
theorem dX8_mend_1 : decode cX8_mend 1 = .ok (.getfield 42, 3) := by decide +kernel
theorem dX8_mend_4 : decode cX8_mend 4 = .ok (.invokevirtual 222, 3) := by decide +kernel
theorem dX8_mend_7 : decode cX8_mend 7 = .ok (.istore_n 1, 1) := by decide +kernel
theorem dX8_mend_8 : decode cX8_mend 8 = .ok (.aload_n 0, 1) := by decide +kernel
theorem dX8_mend_9 : decode cX8_mend 9 = .ok (.getfield 42, 3) := by decide +kernel
theorem dX8_mend_12 : decode cX8_mend 12 = .ok (.invokevirtual 223, 3) := by decide +kernel
theorem dX8_mend_15 : decode cX8_mend 15 = .ok (.iload_n 1, 1) := by decide +kernel
theorem dX8_mend_16 : decode cX8_mend 16 = .ok (.ireturn, 1) := by decide +kernel
set_option maxRecDepth 20000 in
theorem ggX8_explained_X8_refuse : GoodIn wsX8_explained wsX8_refuse := goodIn_r _ [9, 10, 188, 189, 190, 191, 192, 193, 194, 195, 196, 197, 198] (by decide +kernel) (by decide +kernel)
set_option maxRecDepth 20000 in
theorem gX8_explained_X8_refuse : GoodIn wsX8_explained (wsV RX8 82 RX8 yX8_refuse wsX8_refuse) := goodIn_app (goodIn_of _ (by decide +kernel)) ggX8_explained_X8_refuse
set_option maxRecDepth 20000 in
theorem ggX8_explained_X5_isWritable : GoodIn wsX8_explained wsX5_isWritable := goodIn_r _ [15, 16, 17, 18, 19, 20, 14, 21, 22, 23, 24, 25, 26, 27, 28, 29, 30, 199, 200, 201, 202, 203, 204, 205, 206, 207, 208] (by decide +kernel) (by decide +kernel)
set_option maxRecDepth 20000 in
theorem gX8_explained_X5_isWritable : GoodIn wsX8_explained (wsV RX8 186 RX5 yX5_isWritable wsX5_isWritable) := goodIn_app (goodIn_of _ (by decide +kernel)) ggX8_explained_X5_isWritable
set_option maxRecDepth 20000 in
theorem ggX8_explained_X2_search : GoodIn wsX8_explained wsX2_search := goodIn_r _ [35, 36, 37, 38, 39, 40, 41, 34, 42, 43, 44, 45, 46, 47, 48, 49, 50, 51, 52, 53, 54, 55, 56, 57, 58, 59, 60, 61, 62, 63, 64, 65, 66, 67, 68, 69, 70, 71, 14, 72, 16, 73, 74, 75, 76, 77, 78, 79, 28, 80, 81, 82, 83, 84, 85, 86, 87, 88, 89, 90, 91, 92, 93, 94, 95, 24, 17, 96, 97, 98, 99, 100, 101, 102, 103, 104, 105, 106, 107, 108, 109, 110, 111, 112, 113, 114, 115, 116, 117, 22, 118, 119, 120, 121, 122, 123, 124, 125, 126, 127, 128, 129, 130, 131, 132, 133, 134, 23, 135, 136, 137, 138, 139, 140, 141, 142, 143, 144, 145, 146, 147, 148, 149, 150, 151, 152, 153, 154, 155, 156, 157, 158, 159, 160, 161, 162, 163, 164, 165, 166, 167, 168, 169, 170, 171, 172, 173, 174, 175, 176, 177, 178, 179, 209, 210, 211, 212, 213, 214, 215, 216, 217, 218, 219, 220, 199, 200, 201, 202, 203, 204, 205, 206, 207, 208, 221, 222] (by decide +kernel) (by decide +kernel)
set_option maxRecDepth 20000 in
theorem gX8_explained_X2_search : GoodIn wsX8_explained (wsV RX8 224 RX2 yX2_search wsX2_search) := goodIn_app (goodIn_of _ (by decide +kernel)) ggX8_explained_X2_search
set_option maxRecDepth 20000 in
theorem ggX8_explained_X2_kind : GoodIn wsX8_explained wsX2_kind := goodIn_r _ [183, 36, 209, 210, 211, 212, 213, 214, 215] (by decide +kernel) (by decide +kernel)
set_option maxRecDepth 20000 in
theorem gX8_explained_X2_kind : GoodIn wsX8_explained (wsV RX8 228 RX2 yX2_kind wsX2_kind) := goodIn_app (goodIn_of _ (by decide +kernel)) ggX8_explained_X2_kind
set_option maxRecDepth 20000 in
theorem ggX8_explained_X2_which : GoodIn wsX8_explained wsX2_which := goodIn_r _ [187, 37, 209, 210, 211, 212, 213, 214, 215] (by decide +kernel) (by decide +kernel)
set_option maxRecDepth 20000 in
theorem gX8_explained_X2_which : GoodIn wsX8_explained (wsV RX8 231 RX2 yX2_which wsX2_which) := goodIn_app (goodIn_of _ (by decide +kernel)) ggX8_explained_X2_which
theorem dX8_explained_0 : decode cX8_explained 0 = .ok (.iload_n 1, 1) := by decide +kernel
theorem dX8_explained_1 : decode cX8_explained 1 = .ok (.ifCond .eq 15, 3) := by decide +kernel
theorem dX8_explained_4 : decode cX8_explained 4 = .ok (.iload_n 1, 1) := by decide +kernel
theorem dX8_explained_5 : decode cX8_explained 5 = .ok (.iconst 1, 1) := by decide +kernel
theorem dX8_explained_6 : decode cX8_explained 6 = .ok (.if_icmp .eq 10, 3) := by decide +kernel
theorem dX8_explained_9 : decode cX8_explained 9 = .ok (.aload_n 0, 1) := by decide +kernel
theorem dX8_explained_10 : decode cX8_explained 10 = .ok (.bipush (-2), 2) := by decide +kernel
theorem dX8_explained_12 : decode cX8_explained 12 = .ok (.invokevirtual 82, 3) := by decide +kernel
theorem dX8_explained_15 : decode cX8_explained 15 = .ok (.ireturn, 1) := by decide +kernel
theorem dX8_explained_16 : decode cX8_explained 16 = .ok (.aload_n 0, 1) := by decide +kernel
theorem dX8_explained_17 : decode cX8_explained 17 = .ok (.getfield 19, 3) := by decide +kernel
theorem dX8_explained_20 : decode cX8_explained 20 = .ok (.aload_n 0, 1) := by decide +kernel
theorem dX8_explained_21 : decode cX8_explained 21 = .ok (.getfield 10, 3) := by decide +kernel
theorem dX8_explained_24 : decode cX8_explained 24 = .ok (.invokevirtual 186, 3) := by decide +kernel
theorem dX8_explained_27 : decode cX8_explained 27 = .ok (.ifCond .ne 10, 3) := by decide +kernel
theorem dX8_explained_30 : decode cX8_explained 30 = .ok (.aload_n 0, 1) := by decide +kernel
theorem dX8_explained_31 : decode cX8_explained 31 = .ok (.bipush (-3), 2) := by decide +kernel
theorem dX8_explained_33 : decode cX8_explained 33 = .ok (.invokevirtual 82, 3) := by decide +kernel
theorem dX8_explained_36 : decode cX8_explained 36 = .ok (.ireturn, 1) := by decide +kernel
theorem dX8_explained_37 : decode cX8_explained 37 = .ok (.aload_n 0, 1) := by decide +kernel
theorem dX8_explained_38 : decode cX8_explained 38 = .ok (.getfield 60, 3) := by decide +kernel
theorem dX8_explained_41 : decode cX8_explained 41 = .ok (.aload_n 0, 1) := by decide +kernel
theorem dX8_explained_42 : decode cX8_explained 42 = .ok (.getfield 35, 3) := by decide +kernel
theorem dX8_explained_45 : decode cX8_explained 45 = .ok (.invokevirtual 224, 3) := by decide +kernel
theorem dX8_explained_48 : decode cX8_explained 48 = .ok (.iload_n 1, 1) := by decide +kernel
theorem dX8_explained_49 : decode cX8_explained 49 = .ok (.ifCond .ne 13, 3) := by decide +kernel
theorem dX8_explained_52 : decode cX8_explained 52 = .ok (.aload_n 0, 1) := by decide +kernel
theorem dX8_explained_53 : decode cX8_explained 53 = .ok (.getfield 60, 3) := by decide +kernel
theorem dX8_explained_56 : decode cX8_explained 56 = .ok (.invokevirtual 228, 3) := by decide +kernel
theorem dX8_explained_59 : decode cX8_explained 59 = .ok (.goto 10, 3) := by decide +kernel
theorem dX8_explained_62 : decode cX8_explained 62 = .ok (.aload_n 0, 1) := by decide +kernel
theorem dX8_explained_63 : decode cX8_explained 63 = .ok (.getfield 60, 3) := by decide +kernel
theorem dX8_explained_66 : decode cX8_explained 66 = .ok (.invokevirtual 231, 3) := by decide +kernel
theorem dX8_explained_69 : decode cX8_explained 69 = .ok (.ireturn, 1) := by decide +kernel
set_option maxRecDepth 20000 in
theorem ggX8_made_X8_refusalOfMaker : GoodIn wsX8_made wsX8_refusalOfMaker := goodIn_r _ [7, 8, 9, 10, 6, 11, 2, 12, 13, 14, 15, 16, 17, 18, 19, 20, 57, 58, 59, 60, 61, 62, 63, 64, 65, 66, 67, 68, 69, 70, 71] (by decide +kernel) (by decide +kernel)
set_option maxRecDepth 20000 in
theorem gX8_made_X8_refusalOfMaker : GoodIn wsX8_made (wsV RX8 234 RX8 yX8_refusalOfMaker wsX8_refusalOfMaker) := goodIn_app (goodIn_of _ (by decide +kernel)) ggX8_made_X8_refusalOfMaker
set_option maxRecDepth 20000 in
theorem ggX8_made_X8_refuse : GoodIn wsX8_made wsX8_refuse := goodIn_r _ [24, 25, 57, 58, 59, 60, 61, 62, 63, 64, 65, 66, 67] (by decide +kernel) (by decide +kernel)
set_option maxRecDepth 20000 in
theorem gX8_made_X8_refuse : GoodIn wsX8_made (wsV RX8 82 RX8 yX8_refuse wsX8_refuse) := goodIn_app (goodIn_of _ (by decide +kernel)) ggX8_made_X8_refuse
set_option maxRecDepth 20000 in
theorem ggX8_made_X4_total : GoodIn wsX8_made wsX4_total := goodIn_r _ [30, 31, 72, 73, 74] (by decide +kernel) (by decide +kernel)
set_option maxRecDepth 20000 in
theorem gX8_made_X4_total : GoodIn wsX8_made (wsV RX8 237 RX4 yX4_total wsX4_total) := goodIn_app (goodIn_of _ (by decide +kernel)) ggX8_made_X4_total
set_option maxRecDepth 20000 in
theorem ggX8_made_X0_steps : GoodIn wsX8_made wsX0_steps := goodIn_r _ [35, 36, 68, 69, 70, 71] (by decide +kernel) (by decide +kernel)
set_option maxRecDepth 20000 in
theorem gX8_made_X0_steps : GoodIn wsX8_made (wsV RX8 86 RX0 yX0_steps wsX0_steps) := goodIn_app (goodIn_of _ (by decide +kernel)) ggX8_made_X0_steps
set_option maxRecDepth 20000 in
theorem ggX8_made_X4_learn : GoodIn wsX8_made wsX4_learn := goodIn_r _ [40, 41, 42, 31, 43, 44, 45, 29, 46, 47, 48, 49, 50, 51, 33, 34, 18, 35, 36, 52, 53, 54, 55, 56, 72, 73, 74, 68, 69, 70, 71] (by decide +kernel) (by decide +kernel)
set_option maxRecDepth 20000 in
theorem gX8_made_X4_learn : GoodIn wsX8_made (wsV RX8 240 RX4 yX4_learn wsX4_learn) := goodIn_app (goodIn_of _ (by decide +kernel)) ggX8_made_X4_learn
theorem dX8_made_0 : decode cX8_made 0 = .ok (.aload_n 0, 1) := by decide +kernel
theorem dX8_made_1 : decode cX8_made 1 = .ok (.iload_n 1, 1) := by decide +kernel
theorem dX8_made_2 : decode cX8_made 2 = .ok (.iload_n 2, 1) := by decide +kernel
theorem dX8_made_3 : decode cX8_made 3 = .ok (.invokevirtual 234, 3) := by decide +kernel
theorem dX8_made_6 : decode cX8_made 6 = .ok (.istore_n 3, 1) := by decide +kernel
theorem dX8_made_7 : decode cX8_made 7 = .ok (.iload_n 3, 1) := by decide +kernel
theorem dX8_made_8 : decode cX8_made 8 = .ok (.ifCond .eq 9, 3) := by decide +kernel
theorem dX8_made_11 : decode cX8_made 11 = .ok (.aload_n 0, 1) := by decide +kernel
theorem dX8_made_12 : decode cX8_made 12 = .ok (.iload_n 3, 1) := by decide +kernel
theorem dX8_made_13 : decode cX8_made 13 = .ok (.invokevirtual 82, 3) := by decide +kernel
theorem dX8_made_16 : decode cX8_made 16 = .ok (.ireturn, 1) := by decide +kernel
theorem dX8_made_17 : decode cX8_made 17 = .ok (.aload_n 0, 1) := by decide +kernel
theorem dX8_made_18 : decode cX8_made 18 = .ok (.getfield 67, 3) := by decide +kernel
theorem dX8_made_21 : decode cX8_made 21 = .ok (.iload_n 2, 1) := by decide +kernel
theorem dX8_made_22 : decode cX8_made 22 = .ok (.invokevirtual 237, 3) := by decide +kernel
theorem dX8_made_25 : decode cX8_made 25 = .ok (.aload_n 0, 1) := by decide +kernel
theorem dX8_made_26 : decode cX8_made 26 = .ok (.getfield 10, 3) := by decide +kernel
theorem dX8_made_29 : decode cX8_made 29 = .ok (.invokevirtual 86, 3) := by decide +kernel
theorem dX8_made_32 : decode cX8_made 32 = .ok (.iadd, 1) := by decide +kernel
theorem dX8_made_33 : decode cX8_made 33 = .ok (.sipush 1000, 3) := by decide +kernel
theorem dX8_made_36 : decode cX8_made 36 = .ok (.if_icmp .le 10, 3) := by decide +kernel
theorem dX8_made_39 : decode cX8_made 39 = .ok (.aload_n 0, 1) := by decide +kernel
theorem dX8_made_40 : decode cX8_made 40 = .ok (.bipush (-6), 2) := by decide +kernel
theorem dX8_made_42 : decode cX8_made 42 = .ok (.invokevirtual 82, 3) := by decide +kernel
theorem dX8_made_45 : decode cX8_made 45 = .ok (.ireturn, 1) := by decide +kernel
theorem dX8_made_46 : decode cX8_made 46 = .ok (.aload_n 0, 1) := by decide +kernel
theorem dX8_made_47 : decode cX8_made 47 = .ok (.getfield 67, 3) := by decide +kernel
theorem dX8_made_50 : decode cX8_made 50 = .ok (.iload_n 2, 1) := by decide +kernel
theorem dX8_made_51 : decode cX8_made 51 = .ok (.aload_n 0, 1) := by decide +kernel
theorem dX8_made_52 : decode cX8_made 52 = .ok (.getfield 10, 3) := by decide +kernel
theorem dX8_made_55 : decode cX8_made 55 = .ok (.iload_n 1, 1) := by decide +kernel
theorem dX8_made_56 : decode cX8_made 56 = .ok (.invokevirtual 240, 3) := by decide +kernel
theorem dX8_made_59 : decode cX8_made 59 = .ok (.aload_n 0, 1) := by decide +kernel
theorem dX8_made_60 : decode cX8_made 60 = .ok (.getfield 67, 3) := by decide +kernel
theorem dX8_made_63 : decode cX8_made 63 = .ok (.iload_n 2, 1) := by decide +kernel
theorem dX8_made_64 : decode cX8_made 64 = .ok (.invokevirtual 237, 3) := by decide +kernel
theorem dX8_made_67 : decode cX8_made 67 = .ok (.ireturn, 1) := by decide +kernel
set_option maxRecDepth 20000 in
theorem ggX8_like_X8_refusalOfMaker : GoodIn wsX8_like wsX8_refusalOfMaker := goodIn_r _ [7, 8, 9, 10, 6, 11, 2, 12, 13, 14, 15, 16, 17, 18, 19, 20, 60, 61, 62, 63, 64, 65, 66, 67, 68, 69, 70, 71, 72, 73, 74] (by decide +kernel) (by decide +kernel)
set_option maxRecDepth 20000 in
theorem gX8_like_X8_refusalOfMaker : GoodIn wsX8_like (wsV RX8 234 RX8 yX8_refusalOfMaker wsX8_refusalOfMaker) := goodIn_app (goodIn_of _ (by decide +kernel)) ggX8_like_X8_refusalOfMaker
set_option maxRecDepth 20000 in
theorem ggX8_like_X8_refuse : GoodIn wsX8_like wsX8_refuse := goodIn_r _ [24, 25, 60, 61, 62, 63, 64, 65, 66, 67, 68, 69, 70] (by decide +kernel) (by decide +kernel)
set_option maxRecDepth 20000 in
theorem gX8_like_X8_refuse : GoodIn wsX8_like (wsV RX8 82 RX8 yX8_refuse wsX8_refuse) := goodIn_app (goodIn_of _ (by decide +kernel)) ggX8_like_X8_refuse
set_option maxRecDepth 20000 in
theorem ggX8_like_X4_total : GoodIn wsX8_like wsX4_total := goodIn_r _ [30, 31, 75, 76, 77] (by decide +kernel) (by decide +kernel)
set_option maxRecDepth 20000 in
theorem gX8_like_X4_total : GoodIn wsX8_like (wsV RX8 237 RX4 yX4_total wsX4_total) := goodIn_app (goodIn_of _ (by decide +kernel)) ggX8_like_X4_total
set_option maxRecDepth 20000 in
theorem ggX8_like_X4_likeness : GoodIn wsX8_like wsX4_likeness := goodIn_r _ [35, 36, 31, 37, 38, 39, 40, 41, 42, 43, 44, 29, 45, 46, 47, 48, 49, 50, 51, 52, 18, 53, 54, 55, 56, 57, 58, 59, 75, 76, 77, 71, 72, 73, 74] (by decide +kernel) (by decide +kernel)
set_option maxRecDepth 20000 in
theorem gX8_like_X4_likeness : GoodIn wsX8_like (wsV RX8 244 RX4 yX4_likeness wsX4_likeness) := goodIn_app (goodIn_of _ (by decide +kernel)) ggX8_like_X4_likeness
theorem dX8_like_0 : decode cX8_like 0 = .ok (.aload_n 0, 1) := by decide +kernel
theorem dX8_like_1 : decode cX8_like 1 = .ok (.iload_n 1, 1) := by decide +kernel
theorem dX8_like_2 : decode cX8_like 2 = .ok (.iload_n 2, 1) := by decide +kernel
theorem dX8_like_3 : decode cX8_like 3 = .ok (.invokevirtual 234, 3) := by decide +kernel
theorem dX8_like_6 : decode cX8_like 6 = .ok (.istore_n 3, 1) := by decide +kernel
theorem dX8_like_7 : decode cX8_like 7 = .ok (.iload_n 3, 1) := by decide +kernel
theorem dX8_like_8 : decode cX8_like 8 = .ok (.ifCond .eq 9, 3) := by decide +kernel
theorem dX8_like_11 : decode cX8_like 11 = .ok (.aload_n 0, 1) := by decide +kernel
theorem dX8_like_12 : decode cX8_like 12 = .ok (.iload_n 3, 1) := by decide +kernel
theorem dX8_like_13 : decode cX8_like 13 = .ok (.invokevirtual 82, 3) := by decide +kernel
theorem dX8_like_16 : decode cX8_like 16 = .ok (.ireturn, 1) := by decide +kernel
theorem dX8_like_17 : decode cX8_like 17 = .ok (.aload_n 0, 1) := by decide +kernel
theorem dX8_like_18 : decode cX8_like 18 = .ok (.getfield 67, 3) := by decide +kernel
theorem dX8_like_21 : decode cX8_like 21 = .ok (.iload_n 2, 1) := by decide +kernel
theorem dX8_like_22 : decode cX8_like 22 = .ok (.invokevirtual 237, 3) := by decide +kernel
theorem dX8_like_25 : decode cX8_like 25 = .ok (.ifCond .gt 10, 3) := by decide +kernel
theorem dX8_like_28 : decode cX8_like 28 = .ok (.aload_n 0, 1) := by decide +kernel
theorem dX8_like_29 : decode cX8_like 29 = .ok (.bipush (-3), 2) := by decide +kernel
theorem dX8_like_31 : decode cX8_like 31 = .ok (.invokevirtual 82, 3) := by decide +kernel
theorem dX8_like_34 : decode cX8_like 34 = .ok (.ireturn, 1) := by decide +kernel
theorem dX8_like_35 : decode cX8_like 35 = .ok (.aload_n 0, 1) := by decide +kernel
theorem dX8_like_36 : decode cX8_like 36 = .ok (.getfield 67, 3) := by decide +kernel
theorem dX8_like_39 : decode cX8_like 39 = .ok (.iload_n 2, 1) := by decide +kernel
theorem dX8_like_40 : decode cX8_like 40 = .ok (.aload_n 0, 1) := by decide +kernel
theorem dX8_like_41 : decode cX8_like 41 = .ok (.getfield 10, 3) := by decide +kernel
theorem dX8_like_44 : decode cX8_like 44 = .ok (.iload_n 1, 1) := by decide +kernel
theorem dX8_like_45 : decode cX8_like 45 = .ok (.invokevirtual 244, 3) := by decide +kernel
theorem dX8_like_48 : decode cX8_like 48 = .ok (.ireturn, 1) := by decide +kernel
set_option maxRecDepth 20000 in
theorem ggX8_whose_X8_refusalOfCam : GoodIn wsX8_whose wsX8_refusalOfCam := goodIn_r _ [7, 2, 8, 9, 6, 10, 11, 12, 13, 14, 15, 16, 56, 57, 58, 59, 60, 61, 62, 63, 64, 65, 66, 67, 68, 69, 70] (by decide +kernel) (by decide +kernel)
set_option maxRecDepth 20000 in
theorem gX8_whose_X8_refusalOfCam : GoodIn wsX8_whose (wsV RX8 107 RX8 yX8_refusalOfCam wsX8_refusalOfCam) := goodIn_app (goodIn_of _ (by decide +kernel)) ggX8_whose_X8_refusalOfCam
set_option maxRecDepth 20000 in
theorem ggX8_whose_X8_refuse : GoodIn wsX8_whose wsX8_refuse := goodIn_r _ [20, 21, 56, 57, 58, 59, 60, 61, 62, 63, 64, 65, 66] (by decide +kernel) (by decide +kernel)
set_option maxRecDepth 20000 in
theorem gX8_whose_X8_refuse : GoodIn wsX8_whose (wsV RX8 82 RX8 yX8_refuse wsX8_refuse) := goodIn_app (goodIn_of _ (by decide +kernel)) ggX8_whose_X8_refuse
set_option maxRecDepth 20000 in
theorem ggX8_whose_X4_nearest : GoodIn wsX8_whose wsX4_nearest := goodIn_r _ [26, 27, 28, 29, 30, 25, 31, 32, 33, 34, 35, 36, 37, 38, 39, 40, 41, 42, 43, 44, 45, 46, 47, 48, 14, 49, 50, 51, 52, 53, 54, 55, 71, 72, 73, 67, 68, 69, 70] (by decide +kernel) (by decide +kernel)
set_option maxRecDepth 20000 in
theorem gX8_whose_X4_nearest : GoodIn wsX8_whose (wsV RX8 248 RX4 yX4_nearest wsX4_nearest) := goodIn_app (goodIn_of _ (by decide +kernel)) ggX8_whose_X4_nearest
theorem dX8_whose_0 : decode cX8_whose 0 = .ok (.aload_n 0, 1) := by decide +kernel
theorem dX8_whose_1 : decode cX8_whose 1 = .ok (.iload_n 1, 1) := by decide +kernel
theorem dX8_whose_2 : decode cX8_whose 2 = .ok (.invokevirtual 107, 3) := by decide +kernel
theorem dX8_whose_5 : decode cX8_whose 5 = .ok (.istore_n 2, 1) := by decide +kernel
theorem dX8_whose_6 : decode cX8_whose 6 = .ok (.iload_n 2, 1) := by decide +kernel
theorem dX8_whose_7 : decode cX8_whose 7 = .ok (.ifCond .eq 9, 3) := by decide +kernel
theorem dX8_whose_10 : decode cX8_whose 10 = .ok (.aload_n 0, 1) := by decide +kernel
theorem dX8_whose_11 : decode cX8_whose 11 = .ok (.iload_n 2, 1) := by decide +kernel
theorem dX8_whose_12 : decode cX8_whose 12 = .ok (.invokevirtual 82, 3) := by decide +kernel
theorem dX8_whose_15 : decode cX8_whose 15 = .ok (.ireturn, 1) := by decide +kernel
theorem dX8_whose_16 : decode cX8_whose 16 = .ok (.aload_n 0, 1) := by decide +kernel
theorem dX8_whose_17 : decode cX8_whose 17 = .ok (.getfield 67, 3) := by decide +kernel
theorem dX8_whose_20 : decode cX8_whose 20 = .ok (.aload_n 0, 1) := by decide +kernel
theorem dX8_whose_21 : decode cX8_whose 21 = .ok (.getfield 10, 3) := by decide +kernel
theorem dX8_whose_24 : decode cX8_whose 24 = .ok (.iload_n 1, 1) := by decide +kernel
theorem dX8_whose_25 : decode cX8_whose 25 = .ok (.invokevirtual 248, 3) := by decide +kernel
theorem dX8_whose_28 : decode cX8_whose 28 = .ok (.ireturn, 1) := by decide +kernel
set_option maxRecDepth 20000 in
theorem ggX8_count_X0_steps : GoodIn wsX8_count wsX0_steps := goodIn_r _ [11, 12, 78, 79, 80, 81] (by decide +kernel) (by decide +kernel)
set_option maxRecDepth 20000 in
theorem gX8_count_X0_steps : GoodIn wsX8_count (wsV RX8 86 RX0 yX0_steps wsX0_steps) := goodIn_app (goodIn_of _ (by decide +kernel)) ggX8_count_X0_steps
set_option maxRecDepth 20000 in
theorem ggX8_count_X0_size : GoodIn wsX8_count wsX0_size := goodIn_r _ [16, 17, 78, 79, 80, 81] (by decide +kernel) (by decide +kernel)
set_option maxRecDepth 20000 in
theorem gX8_count_X0_size : GoodIn wsX8_count (wsV RX8 252 RX0 yX0_size wsX0_size) := goodIn_app (goodIn_of _ (by decide +kernel)) ggX8_count_X0_size
set_option maxRecDepth 20000 in
theorem ggX8_count_X5_pegs : GoodIn wsX8_count wsX5_pegs := goodIn_r _ [22, 23, 82, 83, 84, 85, 86, 87] (by decide +kernel) (by decide +kernel)
set_option maxRecDepth 20000 in
theorem gX8_count_X5_pegs : GoodIn wsX8_count (wsV RX8 159 RX5 yX5_pegs wsX5_pegs) := goodIn_app (goodIn_of _ (by decide +kernel)) ggX8_count_X5_pegs
set_option maxRecDepth 20000 in
theorem ggX8_count_X7_power : GoodIn wsX8_count wsX7_power := goodIn_r _ [28, 29, 88, 89, 90, 91, 92] (by decide +kernel) (by decide +kernel)
set_option maxRecDepth 20000 in
theorem gX8_count_X7_power : GoodIn wsX8_count (wsV RX8 183 RX7 yX7_power wsX7_power) := goodIn_app (goodIn_of _ (by decide +kernel)) ggX8_count_X7_power
set_option maxRecDepth 20000 in
theorem ggX8_count_X7_wear : GoodIn wsX8_count wsX7_wear := goodIn_r _ [33, 34, 35, 36, 37, 38, 88, 89, 90, 91, 92] (by decide +kernel) (by decide +kernel)
set_option maxRecDepth 20000 in
theorem gX8_count_X7_wear : GoodIn wsX8_count (wsV RX8 253 RX7 yX7_wear wsX7_wear) := goodIn_app (goodIn_of _ (by decide +kernel)) ggX8_count_X7_wear
set_option maxRecDepth 20000 in
theorem ggX8_count_X7_strain : GoodIn wsX8_count wsX7_strain := goodIn_r _ [42, 43, 88, 89, 90, 91, 92] (by decide +kernel) (by decide +kernel)
set_option maxRecDepth 20000 in
theorem gX8_count_X7_strain : GoodIn wsX8_count (wsV RX8 256 RX7 yX7_strain wsX7_strain) := goodIn_app (goodIn_of _ (by decide +kernel)) ggX8_count_X7_strain
set_option maxRecDepth 20000 in
theorem ggX8_count_X7_ticks : GoodIn wsX8_count wsX7_ticks := goodIn_r _ [47, 48, 88, 89, 90, 91, 92] (by decide +kernel) (by decide +kernel)
set_option maxRecDepth 20000 in
theorem gX8_count_X7_ticks : GoodIn wsX8_count (wsV RX8 259 RX7 yX7_ticks wsX7_ticks) := goodIn_app (goodIn_of _ (by decide +kernel)) ggX8_count_X7_ticks
set_option maxRecDepth 20000 in
theorem ggX8_count_X7_steps : GoodIn wsX8_count wsX7_steps := goodIn_r _ [52, 34, 88, 89, 90, 91, 92] (by decide +kernel) (by decide +kernel)
set_option maxRecDepth 20000 in
theorem gX8_count_X7_steps : GoodIn wsX8_count (wsV RX8 190 RX7 yX7_steps wsX7_steps) := goodIn_app (goodIn_of _ (by decide +kernel)) ggX8_count_X7_steps
set_option maxRecDepth 20000 in
theorem ggX8_count_X1_size : GoodIn wsX8_count wsX1_size := goodIn_r _ [57, 58, 59, 60, 93, 94, 95] (by decide +kernel) (by decide +kernel)
set_option maxRecDepth 20000 in
theorem gX8_count_X1_size : GoodIn wsX8_count (wsV RX8 222 RX1 yX1_size wsX1_size) := goodIn_app (goodIn_of _ (by decide +kernel)) ggX8_count_X1_size
set_option maxRecDepth 20000 in
theorem ggX8_count_X8_refusalsTold : GoodIn wsX8_count wsX8_refusalsTold := goodIn_r _ [65, 66, 67, 68, 69, 70, 71, 72, 73, 74, 75, 76, 77] (by decide +kernel) (by decide +kernel)
set_option maxRecDepth 20000 in
theorem gX8_count_X8_refusalsTold : GoodIn wsX8_count (wsV RX8 262 RX8 yX8_refusalsTold wsX8_refusalsTold) := goodIn_app (goodIn_of _ (by decide +kernel)) ggX8_count_X8_refusalsTold
theorem dX8_count_0 : decode cX8_count 0 = .ok (.iload_n 1, 1) := by decide +kernel
theorem dX8_count_1 : decode cX8_count 1 = .ok (.tableswitch 141 0 10 #[59, 67, 75, 83, 91, 99, 107, 115, 123, 128, 133], 59) := by decide +kernel
theorem dX8_count_60 : decode cX8_count 60 = .ok (.aload_n 0, 1) := by decide +kernel
theorem dX8_count_61 : decode cX8_count 61 = .ok (.getfield 10, 3) := by decide +kernel
theorem dX8_count_64 : decode cX8_count 64 = .ok (.invokevirtual 86, 3) := by decide +kernel
theorem dX8_count_67 : decode cX8_count 67 = .ok (.ireturn, 1) := by decide +kernel
theorem dX8_count_68 : decode cX8_count 68 = .ok (.aload_n 0, 1) := by decide +kernel
theorem dX8_count_69 : decode cX8_count 69 = .ok (.getfield 10, 3) := by decide +kernel
theorem dX8_count_72 : decode cX8_count 72 = .ok (.invokevirtual 252, 3) := by decide +kernel
theorem dX8_count_75 : decode cX8_count 75 = .ok (.ireturn, 1) := by decide +kernel
theorem dX8_count_76 : decode cX8_count 76 = .ok (.aload_n 0, 1) := by decide +kernel
theorem dX8_count_77 : decode cX8_count 77 = .ok (.getfield 19, 3) := by decide +kernel
theorem dX8_count_80 : decode cX8_count 80 = .ok (.invokevirtual 159, 3) := by decide +kernel
theorem dX8_count_83 : decode cX8_count 83 = .ok (.ireturn, 1) := by decide +kernel
theorem dX8_count_84 : decode cX8_count 84 = .ok (.aload_n 0, 1) := by decide +kernel
theorem dX8_count_85 : decode cX8_count 85 = .ok (.getfield 26, 3) := by decide +kernel
theorem dX8_count_88 : decode cX8_count 88 = .ok (.invokevirtual 183, 3) := by decide +kernel
theorem dX8_count_91 : decode cX8_count 91 = .ok (.ireturn, 1) := by decide +kernel
theorem dX8_count_92 : decode cX8_count 92 = .ok (.aload_n 0, 1) := by decide +kernel
theorem dX8_count_93 : decode cX8_count 93 = .ok (.getfield 26, 3) := by decide +kernel
theorem dX8_count_96 : decode cX8_count 96 = .ok (.invokevirtual 253, 3) := by decide +kernel
theorem dX8_count_99 : decode cX8_count 99 = .ok (.ireturn, 1) := by decide +kernel
theorem dX8_count_100 : decode cX8_count 100 = .ok (.aload_n 0, 1) := by decide +kernel
theorem dX8_count_101 : decode cX8_count 101 = .ok (.getfield 26, 3) := by decide +kernel
theorem dX8_count_104 : decode cX8_count 104 = .ok (.invokevirtual 256, 3) := by decide +kernel
theorem dX8_count_107 : decode cX8_count 107 = .ok (.ireturn, 1) := by decide +kernel
theorem dX8_count_108 : decode cX8_count 108 = .ok (.aload_n 0, 1) := by decide +kernel
theorem dX8_count_109 : decode cX8_count 109 = .ok (.getfield 26, 3) := by decide +kernel
theorem dX8_count_112 : decode cX8_count 112 = .ok (.invokevirtual 259, 3) := by decide +kernel
theorem dX8_count_115 : decode cX8_count 115 = .ok (.ireturn, 1) := by decide +kernel
theorem dX8_count_116 : decode cX8_count 116 = .ok (.aload_n 0, 1) := by decide +kernel
theorem dX8_count_117 : decode cX8_count 117 = .ok (.getfield 26, 3) := by decide +kernel
theorem dX8_count_120 : decode cX8_count 120 = .ok (.invokevirtual 190, 3) := by decide +kernel
theorem dX8_count_123 : decode cX8_count 123 = .ok (.ireturn, 1) := by decide +kernel
theorem dX8_count_124 : decode cX8_count 124 = .ok (.aload_n 0, 1) := by decide +kernel
theorem dX8_count_125 : decode cX8_count 125 = .ok (.getfield 75, 3) := by decide +kernel
theorem dX8_count_128 : decode cX8_count 128 = .ok (.ireturn, 1) := by decide +kernel
theorem dX8_count_129 : decode cX8_count 129 = .ok (.aload_n 0, 1) := by decide +kernel
theorem dX8_count_130 : decode cX8_count 130 = .ok (.getfield 79, 3) := by decide +kernel
theorem dX8_count_133 : decode cX8_count 133 = .ok (.ireturn, 1) := by decide +kernel
theorem dX8_count_134 : decode cX8_count 134 = .ok (.aload_n 0, 1) := by decide +kernel
theorem dX8_count_135 : decode cX8_count 135 = .ok (.getfield 42, 3) := by decide +kernel
theorem dX8_count_138 : decode cX8_count 138 = .ok (.invokevirtual 222, 3) := by decide +kernel
theorem dX8_count_141 : decode cX8_count 141 = .ok (.ireturn, 1) := by decide +kernel
theorem dX8_count_142 : decode cX8_count 142 = .ok (.aload_n 0, 1) := by decide +kernel
theorem dX8_count_143 : decode cX8_count 143 = .ok (.iload_n 1, 1) := by decide +kernel
theorem dX8_count_144 : decode cX8_count 144 = .ok (.bipush 11, 2) := by decide +kernel
theorem dX8_count_146 : decode cX8_count 146 = .ok (.isub, 1) := by decide +kernel
theorem dX8_count_147 : decode cX8_count 147 = .ok (.invokevirtual 262, 3) := by decide +kernel
theorem dX8_count_150 : decode cX8_count 150 = .ok (.ireturn, 1) := by decide +kernel
theorem dX8_refusalsTold_0 : decode cX8_refusalsTold 0 = .ok (.iload_n 1, 1) := by decide +kernel
theorem dX8_refusalsTold_1 : decode cX8_refusalsTold 1 = .ok (.ifCond .lt 21, 3) := by decide +kernel
theorem dX8_refusalsTold_4 : decode cX8_refusalsTold 4 = .ok (.iload_n 1, 1) := by decide +kernel
theorem dX8_refusalsTold_5 : decode cX8_refusalsTold 5 = .ok (.aload_n 0, 1) := by decide +kernel
theorem dX8_refusalsTold_6 : decode cX8_refusalsTold 6 = .ok (.getfield 71, 3) := by decide +kernel
theorem dX8_refusalsTold_9 : decode cX8_refusalsTold 9 = .ok (.arraylength, 1) := by decide +kernel
theorem dX8_refusalsTold_10 : decode cX8_refusalsTold 10 = .ok (.if_icmp .ge 12, 3) := by decide +kernel
theorem dX8_refusalsTold_13 : decode cX8_refusalsTold 13 = .ok (.aload_n 0, 1) := by decide +kernel
theorem dX8_refusalsTold_14 : decode cX8_refusalsTold 14 = .ok (.getfield 71, 3) := by decide +kernel
theorem dX8_refusalsTold_17 : decode cX8_refusalsTold 17 = .ok (.iload_n 1, 1) := by decide +kernel
theorem dX8_refusalsTold_18 : decode cX8_refusalsTold 18 = .ok (.iaload, 1) := by decide +kernel
theorem dX8_refusalsTold_19 : decode cX8_refusalsTold 19 = .ok (.goto 5, 3) := by decide +kernel
theorem dX8_refusalsTold_22 : decode cX8_refusalsTold 22 = .ok (.bipush (-9), 2) := by decide +kernel
theorem dX8_refusalsTold_24 : decode cX8_refusalsTold 24 = .ok (.ireturn, 1) := by decide +kernel
theorem dX8_refuse_0 : decode cX8_refuse 0 = .ok (.iconst (-1), 1) := by decide +kernel
theorem dX8_refuse_1 : decode cX8_refuse 1 = .ok (.iload_n 1, 1) := by decide +kernel
theorem dX8_refuse_2 : decode cX8_refuse 2 = .ok (.isub, 1) := by decide +kernel
theorem dX8_refuse_3 : decode cX8_refuse 3 = .ok (.istore_n 2, 1) := by decide +kernel
theorem dX8_refuse_4 : decode cX8_refuse 4 = .ok (.iload_n 2, 1) := by decide +kernel
theorem dX8_refuse_5 : decode cX8_refuse 5 = .ok (.ifCond .lt 22, 3) := by decide +kernel
theorem dX8_refuse_8 : decode cX8_refuse 8 = .ok (.iload_n 2, 1) := by decide +kernel
theorem dX8_refuse_9 : decode cX8_refuse 9 = .ok (.aload_n 0, 1) := by decide +kernel
theorem dX8_refuse_10 : decode cX8_refuse 10 = .ok (.getfield 71, 3) := by decide +kernel
theorem dX8_refuse_13 : decode cX8_refuse 13 = .ok (.arraylength, 1) := by decide +kernel
theorem dX8_refuse_14 : decode cX8_refuse 14 = .ok (.if_icmp .ge 13, 3) := by decide +kernel
theorem dX8_refuse_17 : decode cX8_refuse 17 = .ok (.aload_n 0, 1) := by decide +kernel
theorem dX8_refuse_18 : decode cX8_refuse 18 = .ok (.getfield 71, 3) := by decide +kernel
theorem dX8_refuse_21 : decode cX8_refuse 21 = .ok (.iload_n 2, 1) := by decide +kernel
theorem dX8_refuse_22 : decode cX8_refuse 22 = .ok (.dup2, 1) := by decide +kernel
theorem dX8_refuse_23 : decode cX8_refuse 23 = .ok (.iaload, 1) := by decide +kernel
theorem dX8_refuse_24 : decode cX8_refuse 24 = .ok (.iconst 1, 1) := by decide +kernel
theorem dX8_refuse_25 : decode cX8_refuse 25 = .ok (.iadd, 1) := by decide +kernel
theorem dX8_refuse_26 : decode cX8_refuse 26 = .ok (.iastore, 1) := by decide +kernel
theorem dX8_refuse_27 : decode cX8_refuse 27 = .ok (.iload_n 1, 1) := by decide +kernel
theorem dX8_refuse_28 : decode cX8_refuse 28 = .ok (.ireturn, 1) := by decide +kernel
theorem dX8_isCam_0 : decode cX8_isCam 0 = .ok (.iload_n 0, 1) := by decide +kernel
theorem dX8_isCam_1 : decode cX8_isCam 1 = .ok (.ifCond .lt 13, 3) := by decide +kernel
theorem dX8_isCam_4 : decode cX8_isCam 4 = .ok (.iload_n 0, 1) := by decide +kernel
theorem dX8_isCam_5 : decode cX8_isCam 5 = .ok (.bipush 12, 2) := by decide +kernel
theorem dX8_isCam_7 : decode cX8_isCam 7 = .ok (.if_icmp .ge 7, 3) := by decide +kernel
theorem dX8_isCam_10 : decode cX8_isCam 10 = .ok (.iconst 1, 1) := by decide +kernel
theorem dX8_isCam_11 : decode cX8_isCam 11 = .ok (.goto 4, 3) := by decide +kernel
theorem dX8_isCam_14 : decode cX8_isCam 14 = .ok (.iconst 0, 1) := by decide +kernel
theorem dX8_isCam_15 : decode cX8_isCam 15 = .ok (.ireturn, 1) := by decide +kernel
theorem dX8_isLetter_0 : decode cX8_isLetter 0 = .ok (.iload_n 0, 1) := by decide +kernel
theorem dX8_isLetter_1 : decode cX8_isLetter 1 = .ok (.ifCond .lt 13, 3) := by decide +kernel
theorem dX8_isLetter_4 : decode cX8_isLetter 4 = .ok (.iload_n 0, 1) := by decide +kernel
theorem dX8_isLetter_5 : decode cX8_isLetter 5 = .ok (.bipush 10, 2) := by decide +kernel
theorem dX8_isLetter_7 : decode cX8_isLetter 7 = .ok (.if_icmp .ge 7, 3) := by decide +kernel
theorem dX8_isLetter_10 : decode cX8_isLetter 10 = .ok (.iconst 1, 1) := by decide +kernel
theorem dX8_isLetter_11 : decode cX8_isLetter 11 = .ok (.goto 4, 3) := by decide +kernel
theorem dX8_isLetter_14 : decode cX8_isLetter 14 = .ok (.iconst 0, 1) := by decide +kernel
theorem dX8_isLetter_15 : decode cX8_isLetter 15 = .ok (.ireturn, 1) := by decide +kernel
set_option maxRecDepth 20000 in
theorem ggX8_refusalOfCam_X8_isCam : GoodIn wsX8_refusalOfCam wsX8_isCam := goodIn_r _ [5] (by decide +kernel) (by decide +kernel)
set_option maxRecDepth 20000 in
theorem gX8_refusalOfCam_X8_isCam : GoodIn wsX8_refusalOfCam (va_wsS RX8 97 yX8_isCam wsX8_isCam) := goodIn_app (goodIn_of _ (by decide +kernel)) ggX8_refusalOfCam_X8_isCam
set_option maxRecDepth 20000 in
theorem ggX8_refusalOfCam_X0_isThere : GoodIn wsX8_refusalOfCam wsX0_isThere := goodIn_r _ [10, 11, 23, 24, 25, 26] (by decide +kernel) (by decide +kernel)
set_option maxRecDepth 20000 in
theorem gX8_refusalOfCam_X0_isThere : GoodIn wsX8_refusalOfCam (wsV RX8 101 RX0 yX0_isThere wsX0_isThere) := goodIn_app (goodIn_of _ (by decide +kernel)) ggX8_refusalOfCam_X0_isThere
theorem dX8_refusalOfCam_0 : decode cX8_refusalOfCam 0 = .ok (.iload_n 1, 1) := by decide +kernel
theorem dX8_refusalOfCam_1 : decode cX8_refusalOfCam 1 = .ok (.invokestatic 97, 3) := by decide +kernel
theorem dX8_refusalOfCam_4 : decode cX8_refusalOfCam 4 = .ok (.ifCond .ne 5, 3) := by decide +kernel
theorem dX8_refusalOfCam_7 : decode cX8_refusalOfCam 7 = .ok (.iconst (-1), 1) := by decide +kernel
theorem dX8_refusalOfCam_8 : decode cX8_refusalOfCam 8 = .ok (.ireturn, 1) := by decide +kernel
theorem dX8_refusalOfCam_9 : decode cX8_refusalOfCam 9 = .ok (.aload_n 0, 1) := by decide +kernel
theorem dX8_refusalOfCam_10 : decode cX8_refusalOfCam 10 = .ok (.getfield 10, 3) := by decide +kernel
theorem dX8_refusalOfCam_13 : decode cX8_refusalOfCam 13 = .ok (.iload_n 1, 1) := by decide +kernel
theorem dX8_refusalOfCam_14 : decode cX8_refusalOfCam 14 = .ok (.invokevirtual 101, 3) := by decide +kernel
theorem dX8_refusalOfCam_17 : decode cX8_refusalOfCam 17 = .ok (.ifCond .eq 7, 3) := by decide +kernel
theorem dX8_refusalOfCam_20 : decode cX8_refusalOfCam 20 = .ok (.iconst 0, 1) := by decide +kernel
theorem dX8_refusalOfCam_21 : decode cX8_refusalOfCam 21 = .ok (.goto 5, 3) := by decide +kernel
theorem dX8_refusalOfCam_24 : decode cX8_refusalOfCam 24 = .ok (.bipush (-5), 2) := by decide +kernel
theorem dX8_refusalOfCam_26 : decode cX8_refusalOfCam 26 = .ok (.ireturn, 1) := by decide +kernel
set_option maxRecDepth 20000 in
theorem ggX8_refusalOfStep_X8_refusalOfCam : GoodIn wsX8_refusalOfStep wsX8_refusalOfCam := goodIn_r _ [6, 1, 7, 8, 5, 9, 10, 11, 12, 13, 14, 15, 21, 22, 23, 24, 25, 26, 27, 28, 29, 30, 31, 32, 33, 34, 35] (by decide +kernel) (by decide +kernel)
set_option maxRecDepth 20000 in
theorem gX8_refusalOfStep_X8_refusalOfCam : GoodIn wsX8_refusalOfStep (wsV RX8 107 RX8 yX8_refusalOfCam wsX8_refusalOfCam) := goodIn_app (goodIn_of _ (by decide +kernel)) ggX8_refusalOfStep_X8_refusalOfCam
set_option maxRecDepth 20000 in
theorem ggX8_refusalOfStep_X0_steps : GoodIn wsX8_refusalOfStep wsX0_steps := goodIn_r _ [19, 20, 32, 33, 34, 35] (by decide +kernel) (by decide +kernel)
set_option maxRecDepth 20000 in
theorem gX8_refusalOfStep_X0_steps : GoodIn wsX8_refusalOfStep (wsV RX8 86 RX0 yX0_steps wsX0_steps) := goodIn_app (goodIn_of _ (by decide +kernel)) ggX8_refusalOfStep_X0_steps
theorem dX8_refusalOfStep_0 : decode cX8_refusalOfStep 0 = .ok (.aload_n 0, 1) := by decide +kernel
theorem dX8_refusalOfStep_1 : decode cX8_refusalOfStep 1 = .ok (.iload_n 1, 1) := by decide +kernel
theorem dX8_refusalOfStep_2 : decode cX8_refusalOfStep 2 = .ok (.invokevirtual 107, 3) := by decide +kernel
theorem dX8_refusalOfStep_5 : decode cX8_refusalOfStep 5 = .ok (.istore_n 3, 1) := by decide +kernel
theorem dX8_refusalOfStep_6 : decode cX8_refusalOfStep 6 = .ok (.iload_n 3, 1) := by decide +kernel
theorem dX8_refusalOfStep_7 : decode cX8_refusalOfStep 7 = .ok (.ifCond .eq 5, 3) := by decide +kernel
theorem dX8_refusalOfStep_10 : decode cX8_refusalOfStep 10 = .ok (.iload_n 3, 1) := by decide +kernel
theorem dX8_refusalOfStep_11 : decode cX8_refusalOfStep 11 = .ok (.ireturn, 1) := by decide +kernel
theorem dX8_refusalOfStep_12 : decode cX8_refusalOfStep 12 = .ok (.iload_n 2, 1) := by decide +kernel
theorem dX8_refusalOfStep_13 : decode cX8_refusalOfStep 13 = .ok (.ifCond .lt 18, 3) := by decide +kernel
theorem dX8_refusalOfStep_16 : decode cX8_refusalOfStep 16 = .ok (.iload_n 2, 1) := by decide +kernel
theorem dX8_refusalOfStep_17 : decode cX8_refusalOfStep 17 = .ok (.aload_n 0, 1) := by decide +kernel
theorem dX8_refusalOfStep_18 : decode cX8_refusalOfStep 18 = .ok (.getfield 10, 3) := by decide +kernel
theorem dX8_refusalOfStep_21 : decode cX8_refusalOfStep 21 = .ok (.invokevirtual 86, 3) := by decide +kernel
theorem dX8_refusalOfStep_24 : decode cX8_refusalOfStep 24 = .ok (.if_icmp .ge 7, 3) := by decide +kernel
theorem dX8_refusalOfStep_27 : decode cX8_refusalOfStep 27 = .ok (.iconst 0, 1) := by decide +kernel
theorem dX8_refusalOfStep_28 : decode cX8_refusalOfStep 28 = .ok (.goto 5, 3) := by decide +kernel
theorem dX8_refusalOfStep_31 : decode cX8_refusalOfStep 31 = .ok (.bipush (-7), 2) := by decide +kernel
theorem dX8_refusalOfStep_33 : decode cX8_refusalOfStep 33 = .ok (.ireturn, 1) := by decide +kernel
set_option maxRecDepth 20000 in
theorem ggX8_refusalOfMaker_X8_refusalOfCam : GoodIn wsX8_refusalOfMaker wsX8_refusalOfCam := goodIn_r _ [5, 6, 7, 8, 4, 9, 10, 11, 12, 13, 14, 15, 16, 17, 18, 19, 20, 21, 22, 23, 24, 25, 26, 27, 28, 29, 30] (by decide +kernel) (by decide +kernel)
set_option maxRecDepth 20000 in
theorem gX8_refusalOfMaker_X8_refusalOfCam : GoodIn wsX8_refusalOfMaker (wsV RX8 107 RX8 yX8_refusalOfCam wsX8_refusalOfCam) := goodIn_app (goodIn_of _ (by decide +kernel)) ggX8_refusalOfMaker_X8_refusalOfCam
theorem dX8_refusalOfMaker_0 : decode cX8_refusalOfMaker 0 = .ok (.iload_n 2, 1) := by decide +kernel
theorem dX8_refusalOfMaker_1 : decode cX8_refusalOfMaker 1 = .ok (.ifCond .lt 8, 3) := by decide +kernel
theorem dX8_refusalOfMaker_4 : decode cX8_refusalOfMaker 4 = .ok (.iload_n 2, 1) := by decide +kernel
theorem dX8_refusalOfMaker_5 : decode cX8_refusalOfMaker 5 = .ok (.iconst 4, 1) := by decide +kernel
theorem dX8_refusalOfMaker_6 : decode cX8_refusalOfMaker 6 = .ok (.if_icmp .lt 5, 3) := by decide +kernel
theorem dX8_refusalOfMaker_9 : decode cX8_refusalOfMaker 9 = .ok (.iconst (-1), 1) := by decide +kernel
theorem dX8_refusalOfMaker_10 : decode cX8_refusalOfMaker 10 = .ok (.ireturn, 1) := by decide +kernel
theorem dX8_refusalOfMaker_11 : decode cX8_refusalOfMaker 11 = .ok (.aload_n 0, 1) := by decide +kernel
theorem dX8_refusalOfMaker_12 : decode cX8_refusalOfMaker 12 = .ok (.iload_n 1, 1) := by decide +kernel
theorem dX8_refusalOfMaker_13 : decode cX8_refusalOfMaker 13 = .ok (.invokevirtual 107, 3) := by decide +kernel
theorem dX8_refusalOfMaker_16 : decode cX8_refusalOfMaker 16 = .ok (.ireturn, 1) := by decide +kernel
set_option maxRecDepth 20000 in
theorem ggX8_perform_X5_pegs : GoodIn wsX8_perform wsX5_pegs := goodIn_r _ [11, 12, 151, 152, 153, 154, 155, 156] (by decide +kernel) (by decide +kernel)
set_option maxRecDepth 20000 in
theorem gX8_perform_X5_pegs : GoodIn wsX8_perform (wsV RX8 159 RX5 yX5_pegs wsX5_pegs) := goodIn_app (goodIn_of _ (by decide +kernel)) ggX8_perform_X5_pegs
set_option maxRecDepth 20000 in
theorem ggX8_perform_X1_isLoose : GoodIn wsX8_perform wsX1_isLoose := goodIn_r _ [17, 18, 157, 158, 159] (by decide +kernel) (by decide +kernel)
set_option maxRecDepth 20000 in
theorem gX8_perform_X1_isLoose : GoodIn wsX8_perform (wsV RX8 265 RX1 yX1_isLoose wsX1_isLoose) := goodIn_app (goodIn_of _ (by decide +kernel)) ggX8_perform_X1_isLoose
set_option maxRecDepth 20000 in
theorem ggX8_perform_X0_steps : GoodIn wsX8_perform wsX0_steps := goodIn_r _ [23, 24, 160, 161, 162, 163] (by decide +kernel) (by decide +kernel)
set_option maxRecDepth 20000 in
theorem gX8_perform_X0_steps : GoodIn wsX8_perform (wsV RX8 86 RX0 yX0_steps wsX0_steps) := goodIn_app (goodIn_of _ (by decide +kernel)) ggX8_perform_X0_steps
set_option maxRecDepth 20000 in
theorem ggX8_perform_X7_makeStep : GoodIn wsX8_perform wsX7_makeStep := goodIn_r _ [29, 30, 31, 32, 33, 34, 35, 36, 28, 37, 38, 39, 40, 41, 42, 43, 44, 45, 164, 165, 166, 167, 168] (by decide +kernel) (by decide +kernel)
set_option maxRecDepth 20000 in
theorem gX8_perform_X7_makeStep : GoodIn wsX8_perform (wsV RX8 268 RX7 yX7_makeStep wsX7_makeStep) := goodIn_app (goodIn_of _ (by decide +kernel)) ggX8_perform_X7_makeStep
set_option maxRecDepth 20000 in
theorem ggX8_perform_X3_writeStep : GoodIn wsX8_perform wsX3_writeStep := goodIn_r _ [50, 51, 52, 53, 49, 54, 55, 56, 57, 58, 10, 59, 60, 61, 62, 63, 64, 65, 66, 67, 68, 69, 22, 70, 71, 72, 73, 74, 16, 75, 76, 77, 78, 79, 80, 81, 82, 83, 84, 85, 86, 87, 88, 89, 90, 91, 92, 93, 94, 95, 96, 97, 98, 99, 100, 101, 102, 103, 104, 105, 106, 107, 108, 109, 39, 40, 41, 110, 111, 112, 113, 114, 115, 116, 117, 118, 119, 120, 121, 122, 123, 124, 125, 126, 127, 128, 129, 130, 131, 132, 133, 134, 135, 136, 137, 138, 139, 169, 170, 151, 152, 153, 154, 155, 156, 160, 161, 162, 163, 157, 158, 159, 171, 172] (by decide +kernel) (by decide +kernel)
set_option maxRecDepth 20000 in
theorem gX8_perform_X3_writeStep : GoodIn wsX8_perform (wsV RX8 271 RX3 yX3_writeStep wsX3_writeStep) := goodIn_app (goodIn_of _ (by decide +kernel)) ggX8_perform_X3_writeStep
theorem dX8_perform_0 : decode cX8_perform 0 = .ok (.iconst 0, 1) := by decide +kernel
theorem dX8_perform_1 : decode cX8_perform 1 = .ok (.istore_n 1, 1) := by decide +kernel
theorem dX8_perform_2 : decode cX8_perform 2 = .ok (.iload_n 1, 1) := by decide +kernel
theorem dX8_perform_3 : decode cX8_perform 3 = .ok (.aload_n 0, 1) := by decide +kernel
theorem dX8_perform_4 : decode cX8_perform 4 = .ok (.getfield 19, 3) := by decide +kernel
theorem dX8_perform_7 : decode cX8_perform 7 = .ok (.invokevirtual 159, 3) := by decide +kernel
theorem dX8_perform_10 : decode cX8_perform 10 = .ok (.if_icmp .ge 71, 3) := by decide +kernel
theorem dX8_perform_13 : decode cX8_perform 13 = .ok (.aload_n 0, 1) := by decide +kernel
theorem dX8_perform_14 : decode cX8_perform 14 = .ok (.getfield 42, 3) := by decide +kernel
theorem dX8_perform_17 : decode cX8_perform 17 = .ok (.iload_n 1, 1) := by decide +kernel
theorem dX8_perform_18 : decode cX8_perform 18 = .ok (.invokevirtual 265, 3) := by decide +kernel
theorem dX8_perform_21 : decode cX8_perform 21 = .ok (.ifCond .eq 6, 3) := by decide +kernel
theorem dX8_perform_24 : decode cX8_perform 24 = .ok (.goto 51, 3) := by decide +kernel
theorem dX8_perform_27 : decode cX8_perform 27 = .ok (.iconst 0, 1) := by decide +kernel
theorem dX8_perform_28 : decode cX8_perform 28 = .ok (.istore_n 2, 1) := by decide +kernel
theorem dX8_perform_29 : decode cX8_perform 29 = .ok (.iload_n 2, 1) := by decide +kernel
theorem dX8_perform_30 : decode cX8_perform 30 = .ok (.aload_n 0, 1) := by decide +kernel
theorem dX8_perform_31 : decode cX8_perform 31 = .ok (.getfield 10, 3) := by decide +kernel
theorem dX8_perform_34 : decode cX8_perform 34 = .ok (.invokevirtual 86, 3) := by decide +kernel
theorem dX8_perform_37 : decode cX8_perform 37 = .ok (.if_icmp .ge 38, 3) := by decide +kernel
theorem dX8_perform_40 : decode cX8_perform 40 = .ok (.aload_n 0, 1) := by decide +kernel
theorem dX8_perform_41 : decode cX8_perform 41 = .ok (.getfield 26, 3) := by decide +kernel
theorem dX8_perform_44 : decode cX8_perform 44 = .ok (.invokevirtual 268, 3) := by decide +kernel
theorem dX8_perform_47 : decode cX8_perform 47 = .ok (.ifCond .ne 5, 3) := by decide +kernel
theorem dX8_perform_50 : decode cX8_perform 50 = .ok (.iconst 0, 1) := by decide +kernel
theorem dX8_perform_51 : decode cX8_perform 51 = .ok (.ireturn, 1) := by decide +kernel
theorem dX8_perform_52 : decode cX8_perform 52 = .ok (.aload_n 0, 1) := by decide +kernel
theorem dX8_perform_53 : decode cX8_perform 53 = .ok (.getfield 51, 3) := by decide +kernel
theorem dX8_perform_56 : decode cX8_perform 56 = .ok (.aload_n 0, 1) := by decide +kernel
theorem dX8_perform_57 : decode cX8_perform 57 = .ok (.getfield 42, 3) := by decide +kernel
theorem dX8_perform_60 : decode cX8_perform 60 = .ok (.aload_n 0, 1) := by decide +kernel
theorem dX8_perform_61 : decode cX8_perform 61 = .ok (.getfield 35, 3) := by decide +kernel
theorem dX8_perform_64 : decode cX8_perform 64 = .ok (.iload_n 1, 1) := by decide +kernel
theorem dX8_perform_65 : decode cX8_perform 65 = .ok (.iload_n 2, 1) := by decide +kernel
theorem dX8_perform_66 : decode cX8_perform 66 = .ok (.invokevirtual 271, 3) := by decide +kernel
theorem dX8_perform_69 : decode cX8_perform 69 = .ok (.iinc 2 1, 3) := by decide +kernel
theorem dX8_perform_72 : decode cX8_perform 72 = .ok (.goto (-43), 3) := by decide +kernel
theorem dX8_perform_75 : decode cX8_perform 75 = .ok (.iinc 1 1, 3) := by decide +kernel
theorem dX8_perform_78 : decode cX8_perform 78 = .ok (.goto (-76), 3) := by decide +kernel
theorem dX8_perform_81 : decode cX8_perform 81 = .ok (.iconst 1, 1) := by decide +kernel
theorem dX8_perform_82 : decode cX8_perform 82 = .ok (.ireturn, 1) := by decide +kernel
set_option maxRecDepth 20000 in
theorem ggX9_init_X9_clearPaper : GoodIn wsX9_init wsX9_clearPaper := goodIn_r _ [30, 15, 16, 31, 32, 33, 34, 35, 36, 37, 38, 39, 40, 41, 42, 43, 44, 45, 46, 47, 48, 49, 50, 51, 52, 53, 54, 55, 56, 57, 58, 59, 60, 61, 62] (by decide +kernel) (by decide +kernel)
set_option maxRecDepth 20000 in
theorem gX9_init_X9_clearPaper : GoodIn wsX9_init (wsV RX9 72 RX9 yX9_clearPaper wsX9_clearPaper) := goodIn_app (goodIn_of _ (by decide +kernel)) ggX9_init_X9_clearPaper
theorem dX9_init_0 : decode cX9_init 0 = .ok (.aload_n 0, 1) := by decide +kernel
theorem dX9_init_1 : decode cX9_init 1 = .ok (.invokespecial 1, 3) := by decide +kernel
theorem dX9_init_4 : decode cX9_init 4 = .ok (.aload_n 0, 1) := by decide +kernel
theorem dX9_init_5 : decode cX9_init 5 = .ok (.bipush 8, 2) := by decide +kernel
theorem dX9_init_7 : decode cX9_init 7 = .ok (.putfield 7, 3) := by decide +kernel
theorem dX9_init_10 : decode cX9_init 10 = .ok (.aload_n 0, 1) := by decide +kernel
theorem dX9_init_11 : decode cX9_init 11 = .ok (.bipush 12, 2) := by decide +kernel
theorem dX9_init_13 : decode cX9_init 13 = .ok (.newarray .boolean, 2) := by decide +kernel
theorem dX9_init_15 : decode cX9_init 15 = .ok (.putfield 13, 3) := by decide +kernel
theorem dX9_init_18 : decode cX9_init 18 = .ok (.aload_n 0, 1) := by decide +kernel
theorem dX9_init_19 : decode cX9_init 19 = .ok (.sipush 192, 3) := by decide +kernel
theorem dX9_init_22 : decode cX9_init 22 = .ok (.newarray .int, 2) := by decide +kernel
theorem dX9_init_24 : decode cX9_init 24 = .ok (.putfield 17, 3) := by decide +kernel
theorem dX9_init_27 : decode cX9_init 27 = .ok (.aload_n 0, 1) := by decide +kernel
theorem dX9_init_28 : decode cX9_init 28 = .ok (.bipush 10, 2) := by decide +kernel
theorem dX9_init_30 : decode cX9_init 30 = .ok (.newarray .int, 2) := by decide +kernel
theorem dX9_init_32 : decode cX9_init 32 = .ok (.putfield 21, 3) := by decide +kernel
theorem dX9_init_35 : decode cX9_init 35 = .ok (.aload_n 0, 1) := by decide +kernel
theorem dX9_init_36 : decode cX9_init 36 = .ok (.bipush 10, 2) := by decide +kernel
theorem dX9_init_38 : decode cX9_init 38 = .ok (.newarray .int, 2) := by decide +kernel
theorem dX9_init_40 : decode cX9_init 40 = .ok (.putfield 24, 3) := by decide +kernel
theorem dX9_init_43 : decode cX9_init 43 = .ok (.aload_n 0, 1) := by decide +kernel
theorem dX9_init_44 : decode cX9_init 44 = .ok (.bipush 10, 2) := by decide +kernel
theorem dX9_init_46 : decode cX9_init 46 = .ok (.newarray .int, 2) := by decide +kernel
theorem dX9_init_48 : decode cX9_init 48 = .ok (.putfield 27, 3) := by decide +kernel
theorem dX9_init_51 : decode cX9_init 51 = .ok (.aload_n 0, 1) := by decide +kernel
theorem dX9_init_52 : decode cX9_init 52 = .ok (.bipush 12, 2) := by decide +kernel
theorem dX9_init_54 : decode cX9_init 54 = .ok (.newarray .int, 2) := by decide +kernel
theorem dX9_init_56 : decode cX9_init 56 = .ok (.putfield 30, 3) := by decide +kernel
theorem dX9_init_59 : decode cX9_init 59 = .ok (.aload_n 0, 1) := by decide +kernel
theorem dX9_init_60 : decode cX9_init 60 = .ok (.iconst 5, 1) := by decide +kernel
theorem dX9_init_61 : decode cX9_init 61 = .ok (.putfield 33, 3) := by decide +kernel
theorem dX9_init_64 : decode cX9_init 64 = .ok (.aload_n 0, 1) := by decide +kernel
theorem dX9_init_65 : decode cX9_init 65 = .ok (.iconst 2, 1) := by decide +kernel
theorem dX9_init_66 : decode cX9_init 66 = .ok (.putfield 36, 3) := by decide +kernel
theorem dX9_init_69 : decode cX9_init 69 = .ok (.aload_n 0, 1) := by decide +kernel
theorem dX9_init_70 : decode cX9_init 70 = .ok (.sipush 1200, 3) := by decide +kernel
theorem dX9_init_73 : decode cX9_init 73 = .ok (.newarray .int, 2) := by decide +kernel
theorem dX9_init_75 : decode cX9_init 75 = .ok (.putfield 39, 3) := by decide +kernel
theorem dX9_init_78 : decode cX9_init 78 = .ok (.aload_n 0, 1) := by decide +kernel
theorem dX9_init_79 : decode cX9_init 79 = .ok (.sipush 1200, 3) := by decide +kernel
theorem dX9_init_82 : decode cX9_init 82 = .ok (.newarray .int, 2) := by decide +kernel
theorem dX9_init_84 : decode cX9_init 84 = .ok (.putfield 42, 3) := by decide +kernel
theorem dX9_init_87 : decode cX9_init 87 = .ok (.aload_n 0, 1) := by decide +kernel
theorem dX9_init_88 : decode cX9_init 88 = .ok (.iconst 4, 1) := by decide +kernel
theorem dX9_init_89 : decode cX9_init 89 = .ok (.newarray .int, 2) := by decide +kernel
theorem dX9_init_91 : decode cX9_init 91 = .ok (.dup, 1) := by decide +kernel
theorem dX9_init_92 : decode cX9_init 92 = .ok (.iconst 0, 1) := by decide +kernel
theorem dX9_init_93 : decode cX9_init 93 = .ok (.iconst (-1), 1) := by decide +kernel
theorem dX9_init_94 : decode cX9_init 94 = .ok (.iastore, 1) := by decide +kernel
theorem dX9_init_95 : decode cX9_init 95 = .ok (.dup, 1) := by decide +kernel
theorem dX9_init_96 : decode cX9_init 96 = .ok (.iconst 1, 1) := by decide +kernel
theorem dX9_init_97 : decode cX9_init 97 = .ok (.iconst (-1), 1) := by decide +kernel
theorem dX9_init_98 : decode cX9_init 98 = .ok (.iastore, 1) := by decide +kernel
theorem dX9_init_99 : decode cX9_init 99 = .ok (.dup, 1) := by decide +kernel
theorem dX9_init_100 : decode cX9_init 100 = .ok (.iconst 2, 1) := by decide +kernel
theorem dX9_init_101 : decode cX9_init 101 = .ok (.iconst (-1), 1) := by decide +kernel
theorem dX9_init_102 : decode cX9_init 102 = .ok (.iastore, 1) := by decide +kernel
theorem dX9_init_103 : decode cX9_init 103 = .ok (.dup, 1) := by decide +kernel
theorem dX9_init_104 : decode cX9_init 104 = .ok (.iconst 3, 1) := by decide +kernel
theorem dX9_init_105 : decode cX9_init 105 = .ok (.iconst (-1), 1) := by decide +kernel
theorem dX9_init_106 : decode cX9_init 106 = .ok (.iastore, 1) := by decide +kernel
theorem dX9_init_107 : decode cX9_init 107 = .ok (.putfield 45, 3) := by decide +kernel
theorem dX9_init_110 : decode cX9_init 110 = .ok (.aload_n 0, 1) := by decide +kernel
theorem dX9_init_111 : decode cX9_init 111 = .ok (.bipush 40, 2) := by decide +kernel
theorem dX9_init_113 : decode cX9_init 113 = .ok (.newarray .int, 2) := by decide +kernel
theorem dX9_init_115 : decode cX9_init 115 = .ok (.putfield 48, 3) := by decide +kernel
theorem dX9_init_118 : decode cX9_init 118 = .ok (.aload_n 0, 1) := by decide +kernel
theorem dX9_init_119 : decode cX9_init 119 = .ok (.iconst 4, 1) := by decide +kernel
theorem dX9_init_120 : decode cX9_init 120 = .ok (.newarray .int, 2) := by decide +kernel
theorem dX9_init_122 : decode cX9_init 122 = .ok (.putfield 51, 3) := by decide +kernel
theorem dX9_init_125 : decode cX9_init 125 = .ok (.aload_n 0, 1) := by decide +kernel
theorem dX9_init_126 : decode cX9_init 126 = .ok (.bipush 8, 2) := by decide +kernel
theorem dX9_init_128 : decode cX9_init 128 = .ok (.newarray .int, 2) := by decide +kernel
theorem dX9_init_130 : decode cX9_init 130 = .ok (.putfield 54, 3) := by decide +kernel
theorem dX9_init_133 : decode cX9_init 133 = .ok (.aload_n 0, 1) := by decide +kernel
theorem dX9_init_134 : decode cX9_init 134 = .ok (.bipush 16, 2) := by decide +kernel
theorem dX9_init_136 : decode cX9_init 136 = .ok (.newarray .int, 2) := by decide +kernel
theorem dX9_init_138 : decode cX9_init 138 = .ok (.putfield 57, 3) := by decide +kernel
theorem dX9_init_141 : decode cX9_init 141 = .ok (.aload_n 0, 1) := by decide +kernel
theorem dX9_init_142 : decode cX9_init 142 = .ok (.bipush 12, 2) := by decide +kernel
theorem dX9_init_144 : decode cX9_init 144 = .ok (.newarray .int, 2) := by decide +kernel
theorem dX9_init_146 : decode cX9_init 146 = .ok (.putfield 60, 3) := by decide +kernel
theorem dX9_init_149 : decode cX9_init 149 = .ok (.aload_n 0, 1) := by decide +kernel
theorem dX9_init_150 : decode cX9_init 150 = .ok (.bipush 12, 2) := by decide +kernel
theorem dX9_init_152 : decode cX9_init 152 = .ok (.newarray .int, 2) := by decide +kernel
theorem dX9_init_154 : decode cX9_init 154 = .ok (.putfield 63, 3) := by decide +kernel
theorem dX9_init_157 : decode cX9_init 157 = .ok (.aload_n 0, 1) := by decide +kernel
theorem dX9_init_158 : decode cX9_init 158 = .ok (.sipush 1200, 3) := by decide +kernel
theorem dX9_init_161 : decode cX9_init 161 = .ok (.newarray .int, 2) := by decide +kernel
theorem dX9_init_163 : decode cX9_init 163 = .ok (.putfield 66, 3) := by decide +kernel
theorem dX9_init_166 : decode cX9_init 166 = .ok (.aload_n 0, 1) := by decide +kernel
theorem dX9_init_167 : decode cX9_init 167 = .ok (.sipush 1200, 3) := by decide +kernel
theorem dX9_init_170 : decode cX9_init 170 = .ok (.newarray .int, 2) := by decide +kernel
theorem dX9_init_172 : decode cX9_init 172 = .ok (.putfield 69, 3) := by decide +kernel
theorem dX9_init_175 : decode cX9_init 175 = .ok (.aload_n 0, 1) := by decide +kernel
theorem dX9_init_176 : decode cX9_init 176 = .ok (.invokevirtual 72, 3) := by decide +kernel
theorem dX9_init_179 : decode cX9_init 179 = .ok (.return_, 1) := by decide +kernel
theorem dX9_in_0 : decode cX9_in 0 = .ok (.iload_n 0, 1) := by decide +kernel
theorem dX9_in_1 : decode cX9_in 1 = .ok (.iload_n 1, 1) := by decide +kernel
theorem dX9_in_2 : decode cX9_in 2 = .ok (.if_icmp .lt 12, 3) := by decide +kernel
theorem dX9_in_5 : decode cX9_in 5 = .ok (.iload_n 0, 1) := by decide +kernel
theorem dX9_in_6 : decode cX9_in 6 = .ok (.iload_n 2, 1) := by decide +kernel
theorem dX9_in_7 : decode cX9_in 7 = .ok (.if_icmp .gt 7, 3) := by decide +kernel
theorem dX9_in_10 : decode cX9_in 10 = .ok (.iconst 1, 1) := by decide +kernel
theorem dX9_in_11 : decode cX9_in 11 = .ok (.goto 4, 3) := by decide +kernel
theorem dX9_in_14 : decode cX9_in 14 = .ok (.iconst 0, 1) := by decide +kernel
theorem dX9_in_15 : decode cX9_in 15 = .ok (.ireturn, 1) := by decide +kernel
theorem dX9_refuse_0 : decode cX9_refuse 0 = .ok (.aload_n 0, 1) := by decide +kernel
theorem dX9_refuse_1 : decode cX9_refuse 1 = .ok (.getfield 54, 3) := by decide +kernel
theorem dX9_refuse_4 : decode cX9_refuse 4 = .ok (.iload_n 1, 1) := by decide +kernel
theorem dX9_refuse_5 : decode cX9_refuse 5 = .ok (.ineg, 1) := by decide +kernel
theorem dX9_refuse_6 : decode cX9_refuse 6 = .ok (.dup2, 1) := by decide +kernel
theorem dX9_refuse_7 : decode cX9_refuse 7 = .ok (.iaload, 1) := by decide +kernel
theorem dX9_refuse_8 : decode cX9_refuse 8 = .ok (.iconst 1, 1) := by decide +kernel
theorem dX9_refuse_9 : decode cX9_refuse 9 = .ok (.iadd, 1) := by decide +kernel
theorem dX9_refuse_10 : decode cX9_refuse 10 = .ok (.iastore, 1) := by decide +kernel
theorem dX9_refuse_11 : decode cX9_refuse 11 = .ok (.iload_n 1, 1) := by decide +kernel
theorem dX9_refuse_12 : decode cX9_refuse 12 = .ok (.ireturn, 1) := by decide +kernel
theorem dX9_clearPaper_0 : decode cX9_clearPaper 0 = .ok (.iconst 0, 1) := by decide +kernel
theorem dX9_clearPaper_1 : decode cX9_clearPaper 1 = .ok (.istore_n 1, 1) := by decide +kernel
theorem dX9_clearPaper_2 : decode cX9_clearPaper 2 = .ok (.iload_n 1, 1) := by decide +kernel
theorem dX9_clearPaper_3 : decode cX9_clearPaper 3 = .ok (.sipush 1200, 3) := by decide +kernel
theorem dX9_clearPaper_6 : decode cX9_clearPaper 6 = .ok (.if_icmp .ge 23, 3) := by decide +kernel
theorem dX9_clearPaper_9 : decode cX9_clearPaper 9 = .ok (.aload_n 0, 1) := by decide +kernel
theorem dX9_clearPaper_10 : decode cX9_clearPaper 10 = .ok (.getfield 39, 3) := by decide +kernel
theorem dX9_clearPaper_13 : decode cX9_clearPaper 13 = .ok (.iload_n 1, 1) := by decide +kernel
theorem dX9_clearPaper_14 : decode cX9_clearPaper 14 = .ok (.iconst (-1), 1) := by decide +kernel
theorem dX9_clearPaper_15 : decode cX9_clearPaper 15 = .ok (.iastore, 1) := by decide +kernel
theorem dX9_clearPaper_16 : decode cX9_clearPaper 16 = .ok (.aload_n 0, 1) := by decide +kernel
theorem dX9_clearPaper_17 : decode cX9_clearPaper 17 = .ok (.getfield 42, 3) := by decide +kernel
theorem dX9_clearPaper_20 : decode cX9_clearPaper 20 = .ok (.iload_n 1, 1) := by decide +kernel
theorem dX9_clearPaper_21 : decode cX9_clearPaper 21 = .ok (.iconst (-1), 1) := by decide +kernel
theorem dX9_clearPaper_22 : decode cX9_clearPaper 22 = .ok (.iastore, 1) := by decide +kernel
theorem dX9_clearPaper_23 : decode cX9_clearPaper 23 = .ok (.iinc 1 1, 3) := by decide +kernel
theorem dX9_clearPaper_26 : decode cX9_clearPaper 26 = .ok (.goto (-24), 3) := by decide +kernel
theorem dX9_clearPaper_29 : decode cX9_clearPaper 29 = .ok (.return_, 1) := by decide +kernel
set_option maxRecDepth 20000 in
theorem ggX9_isCam_X9_in : GoodIn wsX9_isCam wsX9_in := goodIn_r _ [4] (by decide +kernel) (by decide +kernel)
set_option maxRecDepth 20000 in
theorem gX9_isCam_X9_in : GoodIn wsX9_isCam (va_wsS RX9 75 yX9_in wsX9_in) := goodIn_app (goodIn_of _ (by decide +kernel)) ggX9_isCam_X9_in
theorem dX9_isCam_0 : decode cX9_isCam 0 = .ok (.iload_n 0, 1) := by decide +kernel
theorem dX9_isCam_1 : decode cX9_isCam 1 = .ok (.iconst 0, 1) := by decide +kernel
theorem dX9_isCam_2 : decode cX9_isCam 2 = .ok (.bipush 11, 2) := by decide +kernel
theorem dX9_isCam_4 : decode cX9_isCam 4 = .ok (.invokestatic 75, 3) := by decide +kernel
theorem dX9_isCam_7 : decode cX9_isCam 7 = .ok (.ireturn, 1) := by decide +kernel
set_option maxRecDepth 20000 in
theorem ggX9_length_X9_refuse : GoodIn wsX9_length wsX9_refuse := goodIn_r _ [7, 8, 15, 16, 17, 18, 19, 20, 21, 22, 23, 24, 25, 26, 27, 28, 29, 30, 31, 32, 33, 34, 35, 36, 37, 38, 39, 40, 41, 42, 43, 44, 45, 46] (by decide +kernel) (by decide +kernel)
set_option maxRecDepth 20000 in
theorem gX9_length_X9_refuse : GoodIn wsX9_length (wsV RX9 79 RX9 yX9_refuse wsX9_refuse) := goodIn_app (goodIn_of _ (by decide +kernel)) ggX9_length_X9_refuse
set_option maxRecDepth 20000 in
theorem ggX9_length_X9_clearPaper : GoodIn wsX9_length wsX9_clearPaper := goodIn_r _ [12, 13, 14, 15, 16, 17, 18, 19, 20, 21, 22, 23, 24, 25, 26, 27, 28, 29, 30, 31, 32, 33, 34, 35, 36, 37, 38, 39, 40, 41, 42, 43, 44, 45, 46] (by decide +kernel) (by decide +kernel)
set_option maxRecDepth 20000 in
theorem gX9_length_X9_clearPaper : GoodIn wsX9_length (wsV RX9 72 RX9 yX9_clearPaper wsX9_clearPaper) := goodIn_app (goodIn_of _ (by decide +kernel)) ggX9_length_X9_clearPaper
theorem dX9_length_0 : decode cX9_length 0 = .ok (.iload_n 1, 1) := by decide +kernel
theorem dX9_length_1 : decode cX9_length 1 = .ok (.iconst 2, 1) := by decide +kernel
theorem dX9_length_2 : decode cX9_length 2 = .ok (.if_icmp .ge 10, 3) := by decide +kernel
theorem dX9_length_5 : decode cX9_length 5 = .ok (.aload_n 0, 1) := by decide +kernel
theorem dX9_length_6 : decode cX9_length 6 = .ok (.bipush (-4), 2) := by decide +kernel
theorem dX9_length_8 : decode cX9_length 8 = .ok (.invokevirtual 79, 3) := by decide +kernel
theorem dX9_length_11 : decode cX9_length 11 = .ok (.ireturn, 1) := by decide +kernel
theorem dX9_length_12 : decode cX9_length 12 = .ok (.iload_n 1, 1) := by decide +kernel
theorem dX9_length_13 : decode cX9_length 13 = .ok (.bipush 16, 2) := by decide +kernel
theorem dX9_length_15 : decode cX9_length 15 = .ok (.if_icmp .le 10, 3) := by decide +kernel
theorem dX9_length_18 : decode cX9_length 18 = .ok (.aload_n 0, 1) := by decide +kernel
theorem dX9_length_19 : decode cX9_length 19 = .ok (.bipush (-6), 2) := by decide +kernel
theorem dX9_length_21 : decode cX9_length 21 = .ok (.invokevirtual 79, 3) := by decide +kernel
theorem dX9_length_24 : decode cX9_length 24 = .ok (.ireturn, 1) := by decide +kernel
theorem dX9_length_25 : decode cX9_length 25 = .ok (.aload_n 0, 1) := by decide +kernel
theorem dX9_length_26 : decode cX9_length 26 = .ok (.getfield 7, 3) := by decide +kernel
theorem dX9_length_29 : decode cX9_length 29 = .ok (.istore_n 2, 1) := by decide +kernel

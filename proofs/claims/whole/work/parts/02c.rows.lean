theorem dX9_length_30 : decode cX9_length 30 = .ok (.aload_n 0, 1) := by decide +kernel
theorem dX9_length_31 : decode cX9_length 31 = .ok (.iload_n 1, 1) := by decide +kernel
theorem dX9_length_32 : decode cX9_length 32 = .ok (.putfield 7, 3) := by decide +kernel
theorem dX9_length_35 : decode cX9_length 35 = .ok (.iconst 0, 1) := by decide +kernel
theorem dX9_length_36 : decode cX9_length 36 = .ok (.istore_n 3, 1) := by decide +kernel
theorem dX9_length_37 : decode cX9_length 37 = .ok (.iload_n 3, 1) := by decide +kernel
theorem dX9_length_38 : decode cX9_length 38 = .ok (.bipush 12, 2) := by decide +kernel
theorem dX9_length_40 : decode cX9_length 40 = .ok (.if_icmp .ge 16, 3) := by decide +kernel
theorem dX9_length_43 : decode cX9_length 43 = .ok (.aload_n 0, 1) := by decide +kernel
theorem dX9_length_44 : decode cX9_length 44 = .ok (.getfield 13, 3) := by decide +kernel
theorem dX9_length_47 : decode cX9_length 47 = .ok (.iload_n 3, 1) := by decide +kernel
theorem dX9_length_48 : decode cX9_length 48 = .ok (.iconst 0, 1) := by decide +kernel
theorem dX9_length_49 : decode cX9_length 49 = .ok (.bastore, 1) := by decide +kernel
theorem dX9_length_50 : decode cX9_length 50 = .ok (.iinc 3 1, 3) := by decide +kernel
theorem dX9_length_53 : decode cX9_length 53 = .ok (.goto (-16), 3) := by decide +kernel
theorem dX9_length_56 : decode cX9_length 56 = .ok (.aload_n 0, 1) := by decide +kernel
theorem dX9_length_57 : decode cX9_length 57 = .ok (.invokevirtual 72, 3) := by decide +kernel
theorem dX9_length_60 : decode cX9_length 60 = .ok (.iload_n 2, 1) := by decide +kernel
theorem dX9_length_61 : decode cX9_length 61 = .ok (.ireturn, 1) := by decide +kernel
set_option maxRecDepth 20000 in
theorem ggX9_blank_X9_isCam : GoodIn wsX9_blank wsX9_isCam := goodIn_r _ [6, 7, 8, 5, 9] (by decide +kernel) (by decide +kernel)
set_option maxRecDepth 20000 in
theorem gX9_blank_X9_isCam : GoodIn wsX9_blank (va_wsS RX9 83 yX9_isCam wsX9_isCam) := goodIn_app (goodIn_of _ (by decide +kernel)) ggX9_blank_X9_isCam
set_option maxRecDepth 20000 in
theorem ggX9_blank_X9_refuse : GoodIn wsX9_blank wsX9_refuse := goodIn_r _ [13, 14, 15, 16, 17, 18, 19, 20, 21, 22, 23, 24, 25, 26, 27, 28, 29, 30, 31, 32, 33, 34, 35, 36, 37, 38, 39, 40, 41, 42, 43, 44, 45, 46] (by decide +kernel) (by decide +kernel)
set_option maxRecDepth 20000 in
theorem gX9_blank_X9_refuse : GoodIn wsX9_blank (wsV RX9 79 RX9 yX9_refuse wsX9_refuse) := goodIn_app (goodIn_of _ (by decide +kernel)) ggX9_blank_X9_refuse
theorem dX9_blank_0 : decode cX9_blank 0 = .ok (.iload_n 1, 1) := by decide +kernel
theorem dX9_blank_1 : decode cX9_blank 1 = .ok (.invokestatic 83, 3) := by decide +kernel
theorem dX9_blank_4 : decode cX9_blank 4 = .ok (.ifCond .ne 9, 3) := by decide +kernel
theorem dX9_blank_7 : decode cX9_blank 7 = .ok (.aload_n 0, 1) := by decide +kernel
theorem dX9_blank_8 : decode cX9_blank 8 = .ok (.iconst (-1), 1) := by decide +kernel
theorem dX9_blank_9 : decode cX9_blank 9 = .ok (.invokevirtual 79, 3) := by decide +kernel
theorem dX9_blank_12 : decode cX9_blank 12 = .ok (.ireturn, 1) := by decide +kernel
theorem dX9_blank_13 : decode cX9_blank 13 = .ok (.aload_n 0, 1) := by decide +kernel
theorem dX9_blank_14 : decode cX9_blank 14 = .ok (.getfield 13, 3) := by decide +kernel
theorem dX9_blank_17 : decode cX9_blank 17 = .ok (.iload_n 1, 1) := by decide +kernel
theorem dX9_blank_18 : decode cX9_blank 18 = .ok (.baload, 1) := by decide +kernel
theorem dX9_blank_19 : decode cX9_blank 19 = .ok (.istore_n 2, 1) := by decide +kernel
theorem dX9_blank_20 : decode cX9_blank 20 = .ok (.aload_n 0, 1) := by decide +kernel
theorem dX9_blank_21 : decode cX9_blank 21 = .ok (.getfield 13, 3) := by decide +kernel
theorem dX9_blank_24 : decode cX9_blank 24 = .ok (.iload_n 1, 1) := by decide +kernel
theorem dX9_blank_25 : decode cX9_blank 25 = .ok (.iconst 1, 1) := by decide +kernel
theorem dX9_blank_26 : decode cX9_blank 26 = .ok (.bastore, 1) := by decide +kernel
theorem dX9_blank_27 : decode cX9_blank 27 = .ok (.iconst 0, 1) := by decide +kernel
theorem dX9_blank_28 : decode cX9_blank 28 = .ok (.istore_n 3, 1) := by decide +kernel
theorem dX9_blank_29 : decode cX9_blank 29 = .ok (.iload_n 3, 1) := by decide +kernel
theorem dX9_blank_30 : decode cX9_blank 30 = .ok (.bipush 16, 2) := by decide +kernel
theorem dX9_blank_32 : decode cX9_blank 32 = .ok (.if_icmp .ge 21, 3) := by decide +kernel
theorem dX9_blank_35 : decode cX9_blank 35 = .ok (.aload_n 0, 1) := by decide +kernel
theorem dX9_blank_36 : decode cX9_blank 36 = .ok (.getfield 17, 3) := by decide +kernel
theorem dX9_blank_39 : decode cX9_blank 39 = .ok (.bipush 16, 2) := by decide +kernel
theorem dX9_blank_41 : decode cX9_blank 41 = .ok (.iload_n 1, 1) := by decide +kernel
theorem dX9_blank_42 : decode cX9_blank 42 = .ok (.imul, 1) := by decide +kernel
theorem dX9_blank_43 : decode cX9_blank 43 = .ok (.iload_n 3, 1) := by decide +kernel
theorem dX9_blank_44 : decode cX9_blank 44 = .ok (.iadd, 1) := by decide +kernel
theorem dX9_blank_45 : decode cX9_blank 45 = .ok (.iconst 0, 1) := by decide +kernel
theorem dX9_blank_46 : decode cX9_blank 46 = .ok (.iastore, 1) := by decide +kernel
theorem dX9_blank_47 : decode cX9_blank 47 = .ok (.iinc 3 1, 3) := by decide +kernel
theorem dX9_blank_50 : decode cX9_blank 50 = .ok (.goto (-21), 3) := by decide +kernel
theorem dX9_blank_53 : decode cX9_blank 53 = .ok (.iload_n 2, 1) := by decide +kernel
theorem dX9_blank_54 : decode cX9_blank 54 = .ok (.ifCond .eq 7, 3) := by decide +kernel
theorem dX9_blank_57 : decode cX9_blank 57 = .ok (.iconst 0, 1) := by decide +kernel
theorem dX9_blank_58 : decode cX9_blank 58 = .ok (.goto 4, 3) := by decide +kernel
theorem dX9_blank_61 : decode cX9_blank 61 = .ok (.iconst 1, 1) := by decide +kernel
theorem dX9_blank_62 : decode cX9_blank 62 = .ok (.ireturn, 1) := by decide +kernel
set_option maxRecDepth 20000 in
theorem ggX9_lacks_X9_isCam : GoodIn wsX9_lacks wsX9_isCam := goodIn_r _ [5, 6, 7, 4, 8] (by decide +kernel) (by decide +kernel)
set_option maxRecDepth 20000 in
theorem gX9_lacks_X9_isCam : GoodIn wsX9_lacks (va_wsS RX9 83 yX9_isCam wsX9_isCam) := goodIn_app (goodIn_of _ (by decide +kernel)) ggX9_lacks_X9_isCam
theorem dX9_lacks_0 : decode cX9_lacks 0 = .ok (.iload_n 1, 1) := by decide +kernel
theorem dX9_lacks_1 : decode cX9_lacks 1 = .ok (.invokestatic 83, 3) := by decide +kernel
theorem dX9_lacks_4 : decode cX9_lacks 4 = .ok (.ifCond .ne 7, 3) := by decide +kernel
theorem dX9_lacks_7 : decode cX9_lacks 7 = .ok (.iconst (-1), 1) := by decide +kernel
theorem dX9_lacks_8 : decode cX9_lacks 8 = .ok (.goto 18, 3) := by decide +kernel
theorem dX9_lacks_11 : decode cX9_lacks 11 = .ok (.aload_n 0, 1) := by decide +kernel
theorem dX9_lacks_12 : decode cX9_lacks 12 = .ok (.getfield 13, 3) := by decide +kernel
theorem dX9_lacks_15 : decode cX9_lacks 15 = .ok (.iload_n 1, 1) := by decide +kernel
theorem dX9_lacks_16 : decode cX9_lacks 16 = .ok (.baload, 1) := by decide +kernel
theorem dX9_lacks_17 : decode cX9_lacks 17 = .ok (.ifCond .eq 7, 3) := by decide +kernel
theorem dX9_lacks_20 : decode cX9_lacks 20 = .ok (.iconst 0, 1) := by decide +kernel
theorem dX9_lacks_21 : decode cX9_lacks 21 = .ok (.goto 5, 3) := by decide +kernel
theorem dX9_lacks_24 : decode cX9_lacks 24 = .ok (.bipush (-5), 2) := by decide +kernel
theorem dX9_lacks_26 : decode cX9_lacks 26 = .ok (.ireturn, 1) := by decide +kernel
set_option maxRecDepth 20000 in
theorem ggX9_lose_X9_lacks : GoodIn wsX9_lose wsX9_lacks := goodIn_r _ [6, 1, 7, 8, 5, 9, 10, 11, 12, 18, 19, 20, 21, 22, 23, 24, 25, 26, 27, 28, 29, 30, 31, 32, 33, 34, 35, 36, 37, 38, 39, 40, 41, 42, 43, 44, 45, 46, 47, 48, 49] (by decide +kernel) (by decide +kernel)
set_option maxRecDepth 20000 in
theorem gX9_lose_X9_lacks : GoodIn wsX9_lose (wsV RX9 87 RX9 yX9_lacks wsX9_lacks) := goodIn_app (goodIn_of _ (by decide +kernel)) ggX9_lose_X9_lacks
set_option maxRecDepth 20000 in
theorem ggX9_lose_X9_refuse : GoodIn wsX9_lose wsX9_refuse := goodIn_r _ [16, 17, 18, 19, 20, 21, 22, 23, 24, 25, 26, 27, 28, 29, 30, 31, 32, 33, 34, 35, 36, 37, 38, 39, 40, 41, 42, 43, 44, 45, 46, 47, 48, 49] (by decide +kernel) (by decide +kernel)
set_option maxRecDepth 20000 in
theorem gX9_lose_X9_refuse : GoodIn wsX9_lose (wsV RX9 79 RX9 yX9_refuse wsX9_refuse) := goodIn_app (goodIn_of _ (by decide +kernel)) ggX9_lose_X9_refuse
theorem dX9_lose_0 : decode cX9_lose 0 = .ok (.aload_n 0, 1) := by decide +kernel
theorem dX9_lose_1 : decode cX9_lose 1 = .ok (.iload_n 1, 1) := by decide +kernel
theorem dX9_lose_2 : decode cX9_lose 2 = .ok (.invokevirtual 87, 3) := by decide +kernel
theorem dX9_lose_5 : decode cX9_lose 5 = .ok (.istore_n 2, 1) := by decide +kernel
theorem dX9_lose_6 : decode cX9_lose 6 = .ok (.iload_n 2, 1) := by decide +kernel
theorem dX9_lose_7 : decode cX9_lose 7 = .ok (.ifCond .ge 9, 3) := by decide +kernel
theorem dX9_lose_10 : decode cX9_lose 10 = .ok (.aload_n 0, 1) := by decide +kernel
theorem dX9_lose_11 : decode cX9_lose 11 = .ok (.iload_n 2, 1) := by decide +kernel
theorem dX9_lose_12 : decode cX9_lose 12 = .ok (.invokevirtual 79, 3) := by decide +kernel
theorem dX9_lose_15 : decode cX9_lose 15 = .ok (.ireturn, 1) := by decide +kernel
theorem dX9_lose_16 : decode cX9_lose 16 = .ok (.aload_n 0, 1) := by decide +kernel
theorem dX9_lose_17 : decode cX9_lose 17 = .ok (.getfield 13, 3) := by decide +kernel
theorem dX9_lose_20 : decode cX9_lose 20 = .ok (.iload_n 1, 1) := by decide +kernel
theorem dX9_lose_21 : decode cX9_lose 21 = .ok (.iconst 0, 1) := by decide +kernel
theorem dX9_lose_22 : decode cX9_lose 22 = .ok (.bastore, 1) := by decide +kernel
theorem dX9_lose_23 : decode cX9_lose 23 = .ok (.iconst 1, 1) := by decide +kernel
theorem dX9_lose_24 : decode cX9_lose 24 = .ok (.ireturn, 1) := by decide +kernel
set_option maxRecDepth 20000 in
theorem ggX9_cutAt_X9_lacks : GoodIn wsX9_cutAt wsX9_lacks := goodIn_r _ [7, 8, 9, 10, 6, 11, 12, 13, 14, 20, 21, 22, 23, 24, 25, 26, 27, 28, 29, 30, 31, 32, 33, 34, 35, 36, 37, 38, 39, 40, 41, 42, 43, 44, 45, 46, 47, 48, 49, 50, 51] (by decide +kernel) (by decide +kernel)
set_option maxRecDepth 20000 in
theorem gX9_cutAt_X9_lacks : GoodIn wsX9_cutAt (wsV RX9 87 RX9 yX9_lacks wsX9_lacks) := goodIn_app (goodIn_of _ (by decide +kernel)) ggX9_cutAt_X9_lacks
set_option maxRecDepth 20000 in
theorem ggX9_cutAt_X9_refuse : GoodIn wsX9_cutAt wsX9_refuse := goodIn_r _ [18, 19, 20, 21, 22, 23, 24, 25, 26, 27, 28, 29, 30, 31, 32, 33, 34, 35, 36, 37, 38, 39, 40, 41, 42, 43, 44, 45, 46, 47, 48, 49, 50, 51] (by decide +kernel) (by decide +kernel)
set_option maxRecDepth 20000 in
theorem gX9_cutAt_X9_refuse : GoodIn wsX9_cutAt (wsV RX9 79 RX9 yX9_refuse wsX9_refuse) := goodIn_app (goodIn_of _ (by decide +kernel)) ggX9_cutAt_X9_refuse
set_option maxRecDepth 20000 in
theorem ggX9_cutAt_X9_in : GoodIn wsX9_cutAt wsX9_in := goodIn_r _ [14] (by decide +kernel) (by decide +kernel)
set_option maxRecDepth 20000 in
theorem gX9_cutAt_X9_in : GoodIn wsX9_cutAt (va_wsS RX9 75 yX9_in wsX9_in) := goodIn_app (goodIn_of _ (by decide +kernel)) ggX9_cutAt_X9_in
theorem dX9_cutAt_0 : decode cX9_cutAt 0 = .ok (.aload_n 0, 1) := by decide +kernel
theorem dX9_cutAt_1 : decode cX9_cutAt 1 = .ok (.iload_n 1, 1) := by decide +kernel
theorem dX9_cutAt_2 : decode cX9_cutAt 2 = .ok (.invokevirtual 87, 3) := by decide +kernel
theorem dX9_cutAt_5 : decode cX9_cutAt 5 = .ok (.istore 4, 2) := by decide +kernel
theorem dX9_cutAt_7 : decode cX9_cutAt 7 = .ok (.iload 4, 2) := by decide +kernel
theorem dX9_cutAt_9 : decode cX9_cutAt 9 = .ok (.ifCond .ge 10, 3) := by decide +kernel
theorem dX9_cutAt_12 : decode cX9_cutAt 12 = .ok (.aload_n 0, 1) := by decide +kernel
theorem dX9_cutAt_13 : decode cX9_cutAt 13 = .ok (.iload 4, 2) := by decide +kernel
theorem dX9_cutAt_15 : decode cX9_cutAt 15 = .ok (.invokevirtual 79, 3) := by decide +kernel
theorem dX9_cutAt_18 : decode cX9_cutAt 18 = .ok (.ireturn, 1) := by decide +kernel
theorem dX9_cutAt_19 : decode cX9_cutAt 19 = .ok (.iload_n 2, 1) := by decide +kernel
theorem dX9_cutAt_20 : decode cX9_cutAt 20 = .ok (.iconst 0, 1) := by decide +kernel
theorem dX9_cutAt_21 : decode cX9_cutAt 21 = .ok (.aload_n 0, 1) := by decide +kernel
theorem dX9_cutAt_22 : decode cX9_cutAt 22 = .ok (.getfield 7, 3) := by decide +kernel
theorem dX9_cutAt_25 : decode cX9_cutAt 25 = .ok (.iconst 1, 1) := by decide +kernel
theorem dX9_cutAt_26 : decode cX9_cutAt 26 = .ok (.isub, 1) := by decide +kernel
theorem dX9_cutAt_27 : decode cX9_cutAt 27 = .ok (.invokestatic 75, 3) := by decide +kernel
theorem dX9_cutAt_30 : decode cX9_cutAt 30 = .ok (.ifCond .ne 10, 3) := by decide +kernel
theorem dX9_cutAt_33 : decode cX9_cutAt 33 = .ok (.aload_n 0, 1) := by decide +kernel
theorem dX9_cutAt_34 : decode cX9_cutAt 34 = .ok (.bipush (-7), 2) := by decide +kernel
theorem dX9_cutAt_36 : decode cX9_cutAt 36 = .ok (.invokevirtual 79, 3) := by decide +kernel
theorem dX9_cutAt_39 : decode cX9_cutAt 39 = .ok (.ireturn, 1) := by decide +kernel
theorem dX9_cutAt_40 : decode cX9_cutAt 40 = .ok (.iload_n 3, 1) := by decide +kernel
theorem dX9_cutAt_41 : decode cX9_cutAt 41 = .ok (.ifCond .ge 10, 3) := by decide +kernel
theorem dX9_cutAt_44 : decode cX9_cutAt 44 = .ok (.aload_n 0, 1) := by decide +kernel
theorem dX9_cutAt_45 : decode cX9_cutAt 45 = .ok (.bipush (-4), 2) := by decide +kernel
theorem dX9_cutAt_47 : decode cX9_cutAt 47 = .ok (.invokevirtual 79, 3) := by decide +kernel
theorem dX9_cutAt_50 : decode cX9_cutAt 50 = .ok (.ireturn, 1) := by decide +kernel
theorem dX9_cutAt_51 : decode cX9_cutAt 51 = .ok (.iload_n 3, 1) := by decide +kernel
theorem dX9_cutAt_52 : decode cX9_cutAt 52 = .ok (.bipush 9, 2) := by decide +kernel
theorem dX9_cutAt_54 : decode cX9_cutAt 54 = .ok (.if_icmp .le 10, 3) := by decide +kernel
theorem dX9_cutAt_57 : decode cX9_cutAt 57 = .ok (.aload_n 0, 1) := by decide +kernel
theorem dX9_cutAt_58 : decode cX9_cutAt 58 = .ok (.bipush (-6), 2) := by decide +kernel
theorem dX9_cutAt_60 : decode cX9_cutAt 60 = .ok (.invokevirtual 79, 3) := by decide +kernel
theorem dX9_cutAt_63 : decode cX9_cutAt 63 = .ok (.ireturn, 1) := by decide +kernel
theorem dX9_cutAt_64 : decode cX9_cutAt 64 = .ok (.aload_n 0, 1) := by decide +kernel
theorem dX9_cutAt_65 : decode cX9_cutAt 65 = .ok (.getfield 17, 3) := by decide +kernel
theorem dX9_cutAt_68 : decode cX9_cutAt 68 = .ok (.bipush 16, 2) := by decide +kernel
theorem dX9_cutAt_70 : decode cX9_cutAt 70 = .ok (.iload_n 1, 1) := by decide +kernel
theorem dX9_cutAt_71 : decode cX9_cutAt 71 = .ok (.imul, 1) := by decide +kernel
theorem dX9_cutAt_72 : decode cX9_cutAt 72 = .ok (.iload_n 2, 1) := by decide +kernel
theorem dX9_cutAt_73 : decode cX9_cutAt 73 = .ok (.iadd, 1) := by decide +kernel
theorem dX9_cutAt_74 : decode cX9_cutAt 74 = .ok (.iaload, 1) := by decide +kernel
theorem dX9_cutAt_75 : decode cX9_cutAt 75 = .ok (.istore 5, 2) := by decide +kernel
theorem dX9_cutAt_77 : decode cX9_cutAt 77 = .ok (.aload_n 0, 1) := by decide +kernel
theorem dX9_cutAt_78 : decode cX9_cutAt 78 = .ok (.getfield 17, 3) := by decide +kernel
theorem dX9_cutAt_81 : decode cX9_cutAt 81 = .ok (.bipush 16, 2) := by decide +kernel
theorem dX9_cutAt_83 : decode cX9_cutAt 83 = .ok (.iload_n 1, 1) := by decide +kernel
theorem dX9_cutAt_84 : decode cX9_cutAt 84 = .ok (.imul, 1) := by decide +kernel
theorem dX9_cutAt_85 : decode cX9_cutAt 85 = .ok (.iload_n 2, 1) := by decide +kernel
theorem dX9_cutAt_86 : decode cX9_cutAt 86 = .ok (.iadd, 1) := by decide +kernel
theorem dX9_cutAt_87 : decode cX9_cutAt 87 = .ok (.iload_n 3, 1) := by decide +kernel
theorem dX9_cutAt_88 : decode cX9_cutAt 88 = .ok (.iastore, 1) := by decide +kernel
theorem dX9_cutAt_89 : decode cX9_cutAt 89 = .ok (.iload 5, 2) := by decide +kernel
theorem dX9_cutAt_91 : decode cX9_cutAt 91 = .ok (.ireturn, 1) := by decide +kernel
set_option maxRecDepth 20000 in
theorem ggX9_height_X9_lacks : GoodIn wsX9_height wsX9_lacks := goodIn_r _ [7, 8, 9, 10, 6, 11, 12, 13, 14, 20, 21, 22, 23, 24, 25, 26, 27, 28, 29, 30, 31, 32, 33, 34, 35, 36, 37, 38, 39, 40, 41, 42, 43, 44, 45, 46, 47, 48, 49, 50, 51] (by decide +kernel) (by decide +kernel)
set_option maxRecDepth 20000 in
theorem gX9_height_X9_lacks : GoodIn wsX9_height (wsV RX9 87 RX9 yX9_lacks wsX9_lacks) := goodIn_app (goodIn_of _ (by decide +kernel)) ggX9_height_X9_lacks
set_option maxRecDepth 20000 in
theorem ggX9_height_X9_refuse : GoodIn wsX9_height wsX9_refuse := goodIn_r _ [18, 19, 20, 21, 22, 23, 24, 25, 26, 27, 28, 29, 30, 31, 32, 33, 34, 35, 36, 37, 38, 39, 40, 41, 42, 43, 44, 45, 46, 47, 48, 49, 50, 51] (by decide +kernel) (by decide +kernel)
set_option maxRecDepth 20000 in
theorem gX9_height_X9_refuse : GoodIn wsX9_height (wsV RX9 79 RX9 yX9_refuse wsX9_refuse) := goodIn_app (goodIn_of _ (by decide +kernel)) ggX9_height_X9_refuse
set_option maxRecDepth 20000 in
theorem ggX9_height_X9_in : GoodIn wsX9_height wsX9_in := goodIn_r _ [14] (by decide +kernel) (by decide +kernel)
set_option maxRecDepth 20000 in
theorem gX9_height_X9_in : GoodIn wsX9_height (va_wsS RX9 75 yX9_in wsX9_in) := goodIn_app (goodIn_of _ (by decide +kernel)) ggX9_height_X9_in
theorem dX9_height_0 : decode cX9_height 0 = .ok (.aload_n 0, 1) := by decide +kernel
theorem dX9_height_1 : decode cX9_height 1 = .ok (.iload_n 1, 1) := by decide +kernel
theorem dX9_height_2 : decode cX9_height 2 = .ok (.invokevirtual 87, 3) := by decide +kernel
theorem dX9_height_5 : decode cX9_height 5 = .ok (.istore_n 3, 1) := by decide +kernel
theorem dX9_height_6 : decode cX9_height 6 = .ok (.iload_n 3, 1) := by decide +kernel
theorem dX9_height_7 : decode cX9_height 7 = .ok (.ifCond .ge 9, 3) := by decide +kernel
theorem dX9_height_10 : decode cX9_height 10 = .ok (.aload_n 0, 1) := by decide +kernel
theorem dX9_height_11 : decode cX9_height 11 = .ok (.iload_n 3, 1) := by decide +kernel
theorem dX9_height_12 : decode cX9_height 12 = .ok (.invokevirtual 79, 3) := by decide +kernel
theorem dX9_height_15 : decode cX9_height 15 = .ok (.ireturn, 1) := by decide +kernel
theorem dX9_height_16 : decode cX9_height 16 = .ok (.iload_n 2, 1) := by decide +kernel
theorem dX9_height_17 : decode cX9_height 17 = .ok (.iconst 0, 1) := by decide +kernel
theorem dX9_height_18 : decode cX9_height 18 = .ok (.aload_n 0, 1) := by decide +kernel
theorem dX9_height_19 : decode cX9_height 19 = .ok (.getfield 7, 3) := by decide +kernel
theorem dX9_height_22 : decode cX9_height 22 = .ok (.iconst 1, 1) := by decide +kernel
theorem dX9_height_23 : decode cX9_height 23 = .ok (.isub, 1) := by decide +kernel
theorem dX9_height_24 : decode cX9_height 24 = .ok (.invokestatic 75, 3) := by decide +kernel
theorem dX9_height_27 : decode cX9_height 27 = .ok (.ifCond .eq 17, 3) := by decide +kernel
theorem dX9_height_30 : decode cX9_height 30 = .ok (.aload_n 0, 1) := by decide +kernel
theorem dX9_height_31 : decode cX9_height 31 = .ok (.getfield 17, 3) := by decide +kernel
theorem dX9_height_34 : decode cX9_height 34 = .ok (.bipush 16, 2) := by decide +kernel
theorem dX9_height_36 : decode cX9_height 36 = .ok (.iload_n 1, 1) := by decide +kernel
theorem dX9_height_37 : decode cX9_height 37 = .ok (.imul, 1) := by decide +kernel
theorem dX9_height_38 : decode cX9_height 38 = .ok (.iload_n 2, 1) := by decide +kernel
theorem dX9_height_39 : decode cX9_height 39 = .ok (.iadd, 1) := by decide +kernel
theorem dX9_height_40 : decode cX9_height 40 = .ok (.iaload, 1) := by decide +kernel
theorem dX9_height_41 : decode cX9_height 41 = .ok (.goto 9, 3) := by decide +kernel
theorem dX9_height_44 : decode cX9_height 44 = .ok (.aload_n 0, 1) := by decide +kernel
theorem dX9_height_45 : decode cX9_height 45 = .ok (.bipush (-7), 2) := by decide +kernel
theorem dX9_height_47 : decode cX9_height 47 = .ok (.invokevirtual 79, 3) := by decide +kernel
theorem dX9_height_50 : decode cX9_height 50 = .ok (.ireturn, 1) := by decide +kernel
set_option maxRecDepth 20000 in
theorem ggX9_copy_X9_isCam : GoodIn wsX9_copy wsX9_isCam := goodIn_r _ [8, 9, 10, 7, 11] (by decide +kernel) (by decide +kernel)
set_option maxRecDepth 20000 in
theorem gX9_copy_X9_isCam : GoodIn wsX9_copy (va_wsS RX9 83 yX9_isCam wsX9_isCam) := goodIn_app (goodIn_of _ (by decide +kernel)) ggX9_copy_X9_isCam
set_option maxRecDepth 20000 in
theorem ggX9_copy_X9_refuse : GoodIn wsX9_copy wsX9_refuse := goodIn_r _ [15, 16, 17, 18, 19, 20, 21, 22, 23, 24, 25, 26, 27, 28, 29, 30, 31, 32, 33, 34, 35, 36, 37, 38, 39, 40, 41, 42, 43, 44, 45, 46, 47, 48] (by decide +kernel) (by decide +kernel)
set_option maxRecDepth 20000 in
theorem gX9_copy_X9_refuse : GoodIn wsX9_copy (wsV RX9 79 RX9 yX9_refuse wsX9_refuse) := goodIn_app (goodIn_of _ (by decide +kernel)) ggX9_copy_X9_refuse
theorem dX9_copy_0 : decode cX9_copy 0 = .ok (.iload_n 1, 1) := by decide +kernel
theorem dX9_copy_1 : decode cX9_copy 1 = .ok (.invokestatic 83, 3) := by decide +kernel
theorem dX9_copy_4 : decode cX9_copy 4 = .ok (.ifCond .eq 10, 3) := by decide +kernel
theorem dX9_copy_7 : decode cX9_copy 7 = .ok (.iload_n 3, 1) := by decide +kernel
theorem dX9_copy_8 : decode cX9_copy 8 = .ok (.invokestatic 83, 3) := by decide +kernel
theorem dX9_copy_11 : decode cX9_copy 11 = .ok (.ifCond .ne 9, 3) := by decide +kernel
theorem dX9_copy_14 : decode cX9_copy 14 = .ok (.aload_n 0, 1) := by decide +kernel
theorem dX9_copy_15 : decode cX9_copy 15 = .ok (.iconst (-1), 1) := by decide +kernel
theorem dX9_copy_16 : decode cX9_copy 16 = .ok (.invokevirtual 79, 3) := by decide +kernel
theorem dX9_copy_19 : decode cX9_copy 19 = .ok (.ireturn, 1) := by decide +kernel
theorem dX9_copy_20 : decode cX9_copy 20 = .ok (.aload_n 0, 1) := by decide +kernel
theorem dX9_copy_21 : decode cX9_copy 21 = .ok (.getfield 13, 3) := by decide +kernel
theorem dX9_copy_24 : decode cX9_copy 24 = .ok (.iload_n 1, 1) := by decide +kernel
theorem dX9_copy_25 : decode cX9_copy 25 = .ok (.baload, 1) := by decide +kernel
theorem dX9_copy_26 : decode cX9_copy 26 = .ok (.ifCond .eq 12, 3) := by decide +kernel
theorem dX9_copy_29 : decode cX9_copy 29 = .ok (.aload_n 0, 1) := by decide +kernel
theorem dX9_copy_30 : decode cX9_copy 30 = .ok (.getfield 13, 3) := by decide +kernel
theorem dX9_copy_33 : decode cX9_copy 33 = .ok (.iload_n 3, 1) := by decide +kernel
theorem dX9_copy_34 : decode cX9_copy 34 = .ok (.baload, 1) := by decide +kernel
theorem dX9_copy_35 : decode cX9_copy 35 = .ok (.ifCond .ne 10, 3) := by decide +kernel
theorem dX9_copy_38 : decode cX9_copy 38 = .ok (.aload_n 0, 1) := by decide +kernel
theorem dX9_copy_39 : decode cX9_copy 39 = .ok (.bipush (-5), 2) := by decide +kernel
theorem dX9_copy_41 : decode cX9_copy 41 = .ok (.invokevirtual 79, 3) := by decide +kernel
theorem dX9_copy_44 : decode cX9_copy 44 = .ok (.ireturn, 1) := by decide +kernel
theorem dX9_copy_45 : decode cX9_copy 45 = .ok (.iload 5, 2) := by decide +kernel
theorem dX9_copy_47 : decode cX9_copy 47 = .ok (.ifCond .lt 44, 3) := by decide +kernel
theorem dX9_copy_50 : decode cX9_copy 50 = .ok (.iload 5, 2) := by decide +kernel
theorem dX9_copy_52 : decode cX9_copy 52 = .ok (.aload_n 0, 1) := by decide +kernel
theorem dX9_copy_53 : decode cX9_copy 53 = .ok (.getfield 7, 3) := by decide +kernel
theorem dX9_copy_56 : decode cX9_copy 56 = .ok (.if_icmp .gt 35, 3) := by decide +kernel
theorem dX9_copy_59 : decode cX9_copy 59 = .ok (.iload_n 2, 1) := by decide +kernel
theorem dX9_copy_60 : decode cX9_copy 60 = .ok (.ifCond .lt 31, 3) := by decide +kernel
theorem dX9_copy_63 : decode cX9_copy 63 = .ok (.iload 4, 2) := by decide +kernel
theorem dX9_copy_65 : decode cX9_copy 65 = .ok (.ifCond .lt 26, 3) := by decide +kernel
theorem dX9_copy_68 : decode cX9_copy 68 = .ok (.iload_n 2, 1) := by decide +kernel
theorem dX9_copy_69 : decode cX9_copy 69 = .ok (.aload_n 0, 1) := by decide +kernel
theorem dX9_copy_70 : decode cX9_copy 70 = .ok (.getfield 7, 3) := by decide +kernel
theorem dX9_copy_73 : decode cX9_copy 73 = .ok (.iload 5, 2) := by decide +kernel
theorem dX9_copy_75 : decode cX9_copy 75 = .ok (.isub, 1) := by decide +kernel
theorem dX9_copy_76 : decode cX9_copy 76 = .ok (.if_icmp .gt 15, 3) := by decide +kernel
theorem dX9_copy_79 : decode cX9_copy 79 = .ok (.iload 4, 2) := by decide +kernel
theorem dX9_copy_81 : decode cX9_copy 81 = .ok (.aload_n 0, 1) := by decide +kernel
theorem dX9_copy_82 : decode cX9_copy 82 = .ok (.getfield 7, 3) := by decide +kernel
theorem dX9_copy_85 : decode cX9_copy 85 = .ok (.iload 5, 2) := by decide +kernel
theorem dX9_copy_87 : decode cX9_copy 87 = .ok (.isub, 1) := by decide +kernel
theorem dX9_copy_88 : decode cX9_copy 88 = .ok (.if_icmp .le 10, 3) := by decide +kernel
theorem dX9_copy_91 : decode cX9_copy 91 = .ok (.aload_n 0, 1) := by decide +kernel
theorem dX9_copy_92 : decode cX9_copy 92 = .ok (.bipush (-7), 2) := by decide +kernel
theorem dX9_copy_94 : decode cX9_copy 94 = .ok (.invokevirtual 79, 3) := by decide +kernel
theorem dX9_copy_97 : decode cX9_copy 97 = .ok (.ireturn, 1) := by decide +kernel
theorem dX9_copy_98 : decode cX9_copy 98 = .ok (.iconst 0, 1) := by decide +kernel
theorem dX9_copy_99 : decode cX9_copy 99 = .ok (.istore 6, 2) := by decide +kernel
theorem dX9_copy_101 : decode cX9_copy 101 = .ok (.iload 6, 2) := by decide +kernel
theorem dX9_copy_103 : decode cX9_copy 103 = .ok (.iload 5, 2) := by decide +kernel
theorem dX9_copy_105 : decode cX9_copy 105 = .ok (.if_icmp .ge 30, 3) := by decide +kernel
theorem dX9_copy_108 : decode cX9_copy 108 = .ok (.aload_n 0, 1) := by decide +kernel
theorem dX9_copy_109 : decode cX9_copy 109 = .ok (.getfield 57, 3) := by decide +kernel
theorem dX9_copy_112 : decode cX9_copy 112 = .ok (.iload 6, 2) := by decide +kernel
theorem dX9_copy_114 : decode cX9_copy 114 = .ok (.aload_n 0, 1) := by decide +kernel
theorem dX9_copy_115 : decode cX9_copy 115 = .ok (.getfield 17, 3) := by decide +kernel
theorem dX9_copy_118 : decode cX9_copy 118 = .ok (.bipush 16, 2) := by decide +kernel
theorem dX9_copy_120 : decode cX9_copy 120 = .ok (.iload_n 1, 1) := by decide +kernel
theorem dX9_copy_121 : decode cX9_copy 121 = .ok (.imul, 1) := by decide +kernel
theorem dX9_copy_122 : decode cX9_copy 122 = .ok (.iload_n 2, 1) := by decide +kernel
theorem dX9_copy_123 : decode cX9_copy 123 = .ok (.iadd, 1) := by decide +kernel
theorem dX9_copy_124 : decode cX9_copy 124 = .ok (.iload 6, 2) := by decide +kernel
theorem dX9_copy_126 : decode cX9_copy 126 = .ok (.iadd, 1) := by decide +kernel
theorem dX9_copy_127 : decode cX9_copy 127 = .ok (.iaload, 1) := by decide +kernel
theorem dX9_copy_128 : decode cX9_copy 128 = .ok (.iastore, 1) := by decide +kernel
theorem dX9_copy_129 : decode cX9_copy 129 = .ok (.iinc 6 1, 3) := by decide +kernel
theorem dX9_copy_132 : decode cX9_copy 132 = .ok (.goto (-31), 3) := by decide +kernel
theorem dX9_copy_135 : decode cX9_copy 135 = .ok (.iconst 0, 1) := by decide +kernel
theorem dX9_copy_136 : decode cX9_copy 136 = .ok (.istore 6, 2) := by decide +kernel
theorem dX9_copy_138 : decode cX9_copy 138 = .ok (.iload 6, 2) := by decide +kernel
theorem dX9_copy_140 : decode cX9_copy 140 = .ok (.iload 5, 2) := by decide +kernel
theorem dX9_copy_142 : decode cX9_copy 142 = .ok (.if_icmp .ge 31, 3) := by decide +kernel
theorem dX9_copy_145 : decode cX9_copy 145 = .ok (.aload_n 0, 1) := by decide +kernel
theorem dX9_copy_146 : decode cX9_copy 146 = .ok (.getfield 17, 3) := by decide +kernel
theorem dX9_copy_149 : decode cX9_copy 149 = .ok (.bipush 16, 2) := by decide +kernel
theorem dX9_copy_151 : decode cX9_copy 151 = .ok (.iload_n 3, 1) := by decide +kernel
theorem dX9_copy_152 : decode cX9_copy 152 = .ok (.imul, 1) := by decide +kernel
theorem dX9_copy_153 : decode cX9_copy 153 = .ok (.iload 4, 2) := by decide +kernel
theorem dX9_copy_155 : decode cX9_copy 155 = .ok (.iadd, 1) := by decide +kernel
theorem dX9_copy_156 : decode cX9_copy 156 = .ok (.iload 6, 2) := by decide +kernel
theorem dX9_copy_158 : decode cX9_copy 158 = .ok (.iadd, 1) := by decide +kernel
theorem dX9_copy_159 : decode cX9_copy 159 = .ok (.aload_n 0, 1) := by decide +kernel
theorem dX9_copy_160 : decode cX9_copy 160 = .ok (.getfield 57, 3) := by decide +kernel
theorem dX9_copy_163 : decode cX9_copy 163 = .ok (.iload 6, 2) := by decide +kernel
theorem dX9_copy_165 : decode cX9_copy 165 = .ok (.iaload, 1) := by decide +kernel
theorem dX9_copy_166 : decode cX9_copy 166 = .ok (.iastore, 1) := by decide +kernel
theorem dX9_copy_167 : decode cX9_copy 167 = .ok (.iinc 6 1, 3) := by decide +kernel
theorem dX9_copy_170 : decode cX9_copy 170 = .ok (.goto (-32), 3) := by decide +kernel
theorem dX9_copy_173 : decode cX9_copy 173 = .ok (.iload 5, 2) := by decide +kernel
theorem dX9_copy_175 : decode cX9_copy 175 = .ok (.ireturn, 1) := by decide +kernel
set_option maxRecDepth 20000 in
theorem ggX9_turn_X9_lacks : GoodIn wsX9_turn wsX9_lacks := goodIn_r _ [8, 9, 10, 11, 7, 12, 13, 14, 15, 21, 22, 23, 24, 25, 26, 27, 28, 29, 30, 31, 32, 33, 34, 35, 36, 37, 38, 39, 40, 41, 42, 43, 44, 45, 46, 47, 48, 49, 50, 51, 52] (by decide +kernel) (by decide +kernel)
set_option maxRecDepth 20000 in
theorem gX9_turn_X9_lacks : GoodIn wsX9_turn (wsV RX9 87 RX9 yX9_lacks wsX9_lacks) := goodIn_app (goodIn_of _ (by decide +kernel)) ggX9_turn_X9_lacks
set_option maxRecDepth 20000 in
theorem ggX9_turn_X9_refuse : GoodIn wsX9_turn wsX9_refuse := goodIn_r _ [19, 20, 21, 22, 23, 24, 25, 26, 27, 28, 29, 30, 31, 32, 33, 34, 35, 36, 37, 38, 39, 40, 41, 42, 43, 44, 45, 46, 47, 48, 49, 50, 51, 52] (by decide +kernel) (by decide +kernel)
set_option maxRecDepth 20000 in
theorem gX9_turn_X9_refuse : GoodIn wsX9_turn (wsV RX9 79 RX9 yX9_refuse wsX9_refuse) := goodIn_app (goodIn_of _ (by decide +kernel)) ggX9_turn_X9_refuse
set_option maxRecDepth 20000 in
theorem ggX9_turn_X9_in : GoodIn wsX9_turn wsX9_in := goodIn_r _ [15] (by decide +kernel) (by decide +kernel)
set_option maxRecDepth 20000 in
theorem gX9_turn_X9_in : GoodIn wsX9_turn (va_wsS RX9 75 yX9_in wsX9_in) := goodIn_app (goodIn_of _ (by decide +kernel)) ggX9_turn_X9_in
theorem dX9_turn_0 : decode cX9_turn 0 = .ok (.aload_n 0, 1) := by decide +kernel
theorem dX9_turn_1 : decode cX9_turn 1 = .ok (.iload_n 1, 1) := by decide +kernel
theorem dX9_turn_2 : decode cX9_turn 2 = .ok (.invokevirtual 87, 3) := by decide +kernel
theorem dX9_turn_5 : decode cX9_turn 5 = .ok (.istore_n 3, 1) := by decide +kernel
theorem dX9_turn_6 : decode cX9_turn 6 = .ok (.iload_n 3, 1) := by decide +kernel
theorem dX9_turn_7 : decode cX9_turn 7 = .ok (.ifCond .ge 9, 3) := by decide +kernel
theorem dX9_turn_10 : decode cX9_turn 10 = .ok (.aload_n 0, 1) := by decide +kernel
theorem dX9_turn_11 : decode cX9_turn 11 = .ok (.iload_n 3, 1) := by decide +kernel
theorem dX9_turn_12 : decode cX9_turn 12 = .ok (.invokevirtual 79, 3) := by decide +kernel
theorem dX9_turn_15 : decode cX9_turn 15 = .ok (.ireturn, 1) := by decide +kernel
theorem dX9_turn_16 : decode cX9_turn 16 = .ok (.iload_n 2, 1) := by decide +kernel
theorem dX9_turn_17 : decode cX9_turn 17 = .ok (.iconst 0, 1) := by decide +kernel
theorem dX9_turn_18 : decode cX9_turn 18 = .ok (.aload_n 0, 1) := by decide +kernel
theorem dX9_turn_19 : decode cX9_turn 19 = .ok (.getfield 7, 3) := by decide +kernel
theorem dX9_turn_22 : decode cX9_turn 22 = .ok (.iconst 1, 1) := by decide +kernel
theorem dX9_turn_23 : decode cX9_turn 23 = .ok (.isub, 1) := by decide +kernel
theorem dX9_turn_24 : decode cX9_turn 24 = .ok (.invokestatic 75, 3) := by decide +kernel
theorem dX9_turn_27 : decode cX9_turn 27 = .ok (.ifCond .ne 10, 3) := by decide +kernel
theorem dX9_turn_30 : decode cX9_turn 30 = .ok (.aload_n 0, 1) := by decide +kernel
theorem dX9_turn_31 : decode cX9_turn 31 = .ok (.bipush (-7), 2) := by decide +kernel
theorem dX9_turn_33 : decode cX9_turn 33 = .ok (.invokevirtual 79, 3) := by decide +kernel
theorem dX9_turn_36 : decode cX9_turn 36 = .ok (.ireturn, 1) := by decide +kernel
theorem dX9_turn_37 : decode cX9_turn 37 = .ok (.iconst 0, 1) := by decide +kernel
theorem dX9_turn_38 : decode cX9_turn 38 = .ok (.istore 4, 2) := by decide +kernel
theorem dX9_turn_40 : decode cX9_turn 40 = .ok (.iload 4, 2) := by decide +kernel
theorem dX9_turn_42 : decode cX9_turn 42 = .ok (.aload_n 0, 1) := by decide +kernel
theorem dX9_turn_43 : decode cX9_turn 43 = .ok (.getfield 7, 3) := by decide +kernel
theorem dX9_turn_46 : decode cX9_turn 46 = .ok (.if_icmp .ge 35, 3) := by decide +kernel
theorem dX9_turn_49 : decode cX9_turn 49 = .ok (.aload_n 0, 1) := by decide +kernel
theorem dX9_turn_50 : decode cX9_turn 50 = .ok (.getfield 57, 3) := by decide +kernel
theorem dX9_turn_53 : decode cX9_turn 53 = .ok (.iload 4, 2) := by decide +kernel
theorem dX9_turn_55 : decode cX9_turn 55 = .ok (.iload_n 2, 1) := by decide +kernel
theorem dX9_turn_56 : decode cX9_turn 56 = .ok (.iadd, 1) := by decide +kernel
theorem dX9_turn_57 : decode cX9_turn 57 = .ok (.aload_n 0, 1) := by decide +kernel
theorem dX9_turn_58 : decode cX9_turn 58 = .ok (.getfield 7, 3) := by decide +kernel
theorem dX9_turn_61 : decode cX9_turn 61 = .ok (.irem, 1) := by decide +kernel
theorem dX9_turn_62 : decode cX9_turn 62 = .ok (.aload_n 0, 1) := by decide +kernel
theorem dX9_turn_63 : decode cX9_turn 63 = .ok (.getfield 17, 3) := by decide +kernel
theorem dX9_turn_66 : decode cX9_turn 66 = .ok (.bipush 16, 2) := by decide +kernel
theorem dX9_turn_68 : decode cX9_turn 68 = .ok (.iload_n 1, 1) := by decide +kernel
theorem dX9_turn_69 : decode cX9_turn 69 = .ok (.imul, 1) := by decide +kernel
theorem dX9_turn_70 : decode cX9_turn 70 = .ok (.iload 4, 2) := by decide +kernel
theorem dX9_turn_72 : decode cX9_turn 72 = .ok (.iadd, 1) := by decide +kernel
theorem dX9_turn_73 : decode cX9_turn 73 = .ok (.iaload, 1) := by decide +kernel
theorem dX9_turn_74 : decode cX9_turn 74 = .ok (.iastore, 1) := by decide +kernel
theorem dX9_turn_75 : decode cX9_turn 75 = .ok (.iinc 4 1, 3) := by decide +kernel
theorem dX9_turn_78 : decode cX9_turn 78 = .ok (.goto (-38), 3) := by decide +kernel
theorem dX9_turn_81 : decode cX9_turn 81 = .ok (.iconst 0, 1) := by decide +kernel
theorem dX9_turn_82 : decode cX9_turn 82 = .ok (.istore 4, 2) := by decide +kernel
theorem dX9_turn_84 : decode cX9_turn 84 = .ok (.iload 4, 2) := by decide +kernel
theorem dX9_turn_86 : decode cX9_turn 86 = .ok (.aload_n 0, 1) := by decide +kernel
theorem dX9_turn_87 : decode cX9_turn 87 = .ok (.getfield 7, 3) := by decide +kernel
theorem dX9_turn_90 : decode cX9_turn 90 = .ok (.if_icmp .ge 28, 3) := by decide +kernel
theorem dX9_turn_93 : decode cX9_turn 93 = .ok (.aload_n 0, 1) := by decide +kernel
theorem dX9_turn_94 : decode cX9_turn 94 = .ok (.getfield 17, 3) := by decide +kernel
theorem dX9_turn_97 : decode cX9_turn 97 = .ok (.bipush 16, 2) := by decide +kernel
theorem dX9_turn_99 : decode cX9_turn 99 = .ok (.iload_n 1, 1) := by decide +kernel
theorem dX9_turn_100 : decode cX9_turn 100 = .ok (.imul, 1) := by decide +kernel
theorem dX9_turn_101 : decode cX9_turn 101 = .ok (.iload 4, 2) := by decide +kernel
theorem dX9_turn_103 : decode cX9_turn 103 = .ok (.iadd, 1) := by decide +kernel
theorem dX9_turn_104 : decode cX9_turn 104 = .ok (.aload_n 0, 1) := by decide +kernel
theorem dX9_turn_105 : decode cX9_turn 105 = .ok (.getfield 57, 3) := by decide +kernel
theorem dX9_turn_108 : decode cX9_turn 108 = .ok (.iload 4, 2) := by decide +kernel
theorem dX9_turn_110 : decode cX9_turn 110 = .ok (.iaload, 1) := by decide +kernel
theorem dX9_turn_111 : decode cX9_turn 111 = .ok (.iastore, 1) := by decide +kernel
theorem dX9_turn_112 : decode cX9_turn 112 = .ok (.iinc 4 1, 3) := by decide +kernel
theorem dX9_turn_115 : decode cX9_turn 115 = .ok (.goto (-31), 3) := by decide +kernel
theorem dX9_turn_118 : decode cX9_turn 118 = .ok (.iconst 1, 1) := by decide +kernel
theorem dX9_turn_119 : decode cX9_turn 119 = .ok (.ireturn, 1) := by decide +kernel
theorem dX9_turnedBy_0 : decode cX9_turnedBy 0 = .ok (.iconst 0, 1) := by decide +kernel
theorem dX9_turnedBy_1 : decode cX9_turnedBy 1 = .ok (.istore_n 3, 1) := by decide +kernel
theorem dX9_turnedBy_2 : decode cX9_turnedBy 2 = .ok (.iload_n 3, 1) := by decide +kernel
theorem dX9_turnedBy_3 : decode cX9_turnedBy 3 = .ok (.aload_n 0, 1) := by decide +kernel
theorem dX9_turnedBy_4 : decode cX9_turnedBy 4 = .ok (.getfield 7, 3) := by decide +kernel
theorem dX9_turnedBy_7 : decode cX9_turnedBy 7 = .ok (.if_icmp .ge 83, 3) := by decide +kernel
theorem dX9_turnedBy_10 : decode cX9_turnedBy 10 = .ok (.iconst 1, 1) := by decide +kernel
theorem dX9_turnedBy_11 : decode cX9_turnedBy 11 = .ok (.istore 4, 2) := by decide +kernel
theorem dX9_turnedBy_13 : decode cX9_turnedBy 13 = .ok (.iconst 0, 1) := by decide +kernel
theorem dX9_turnedBy_14 : decode cX9_turnedBy 14 = .ok (.istore 5, 2) := by decide +kernel
theorem dX9_turnedBy_16 : decode cX9_turnedBy 16 = .ok (.iload 5, 2) := by decide +kernel
theorem dX9_turnedBy_18 : decode cX9_turnedBy 18 = .ok (.aload_n 0, 1) := by decide +kernel
theorem dX9_turnedBy_19 : decode cX9_turnedBy 19 = .ok (.getfield 7, 3) := by decide +kernel
theorem dX9_turnedBy_22 : decode cX9_turnedBy 22 = .ok (.if_icmp .ge 55, 3) := by decide +kernel
theorem dX9_turnedBy_25 : decode cX9_turnedBy 25 = .ok (.iload 4, 2) := by decide +kernel
theorem dX9_turnedBy_27 : decode cX9_turnedBy 27 = .ok (.ifCond .eq 41, 3) := by decide +kernel
theorem dX9_turnedBy_30 : decode cX9_turnedBy 30 = .ok (.aload_n 0, 1) := by decide +kernel
theorem dX9_turnedBy_31 : decode cX9_turnedBy 31 = .ok (.getfield 17, 3) := by decide +kernel
theorem dX9_turnedBy_34 : decode cX9_turnedBy 34 = .ok (.bipush 16, 2) := by decide +kernel
theorem dX9_turnedBy_36 : decode cX9_turnedBy 36 = .ok (.iload_n 2, 1) := by decide +kernel
theorem dX9_turnedBy_37 : decode cX9_turnedBy 37 = .ok (.imul, 1) := by decide +kernel
theorem dX9_turnedBy_38 : decode cX9_turnedBy 38 = .ok (.iload 5, 2) := by decide +kernel
theorem dX9_turnedBy_40 : decode cX9_turnedBy 40 = .ok (.iload_n 3, 1) := by decide +kernel
theorem dX9_turnedBy_41 : decode cX9_turnedBy 41 = .ok (.iadd, 1) := by decide +kernel
theorem dX9_turnedBy_42 : decode cX9_turnedBy 42 = .ok (.aload_n 0, 1) := by decide +kernel
theorem dX9_turnedBy_43 : decode cX9_turnedBy 43 = .ok (.getfield 7, 3) := by decide +kernel
theorem dX9_turnedBy_46 : decode cX9_turnedBy 46 = .ok (.irem, 1) := by decide +kernel
theorem dX9_turnedBy_47 : decode cX9_turnedBy 47 = .ok (.iadd, 1) := by decide +kernel
theorem dX9_turnedBy_48 : decode cX9_turnedBy 48 = .ok (.iaload, 1) := by decide +kernel
theorem dX9_turnedBy_49 : decode cX9_turnedBy 49 = .ok (.aload_n 0, 1) := by decide +kernel
theorem dX9_turnedBy_50 : decode cX9_turnedBy 50 = .ok (.getfield 17, 3) := by decide +kernel
theorem dX9_turnedBy_53 : decode cX9_turnedBy 53 = .ok (.bipush 16, 2) := by decide +kernel
theorem dX9_turnedBy_55 : decode cX9_turnedBy 55 = .ok (.iload_n 1, 1) := by decide +kernel
theorem dX9_turnedBy_56 : decode cX9_turnedBy 56 = .ok (.imul, 1) := by decide +kernel
theorem dX9_turnedBy_57 : decode cX9_turnedBy 57 = .ok (.iload 5, 2) := by decide +kernel
theorem dX9_turnedBy_59 : decode cX9_turnedBy 59 = .ok (.iadd, 1) := by decide +kernel
theorem dX9_turnedBy_60 : decode cX9_turnedBy 60 = .ok (.iaload, 1) := by decide +kernel
theorem dX9_turnedBy_61 : decode cX9_turnedBy 61 = .ok (.if_icmp .ne 7, 3) := by decide +kernel
theorem dX9_turnedBy_64 : decode cX9_turnedBy 64 = .ok (.iconst 1, 1) := by decide +kernel
theorem dX9_turnedBy_65 : decode cX9_turnedBy 65 = .ok (.goto 4, 3) := by decide +kernel
theorem dX9_turnedBy_68 : decode cX9_turnedBy 68 = .ok (.iconst 0, 1) := by decide +kernel
theorem dX9_turnedBy_69 : decode cX9_turnedBy 69 = .ok (.istore 4, 2) := by decide +kernel
theorem dX9_turnedBy_71 : decode cX9_turnedBy 71 = .ok (.iinc 5 1, 3) := by decide +kernel
theorem dX9_turnedBy_74 : decode cX9_turnedBy 74 = .ok (.goto (-58), 3) := by decide +kernel
theorem dX9_turnedBy_77 : decode cX9_turnedBy 77 = .ok (.iload 4, 2) := by decide +kernel
theorem dX9_turnedBy_79 : decode cX9_turnedBy 79 = .ok (.ifCond .eq 5, 3) := by decide +kernel
theorem dX9_turnedBy_82 : decode cX9_turnedBy 82 = .ok (.iload_n 3, 1) := by decide +kernel
theorem dX9_turnedBy_83 : decode cX9_turnedBy 83 = .ok (.ireturn, 1) := by decide +kernel
theorem dX9_turnedBy_84 : decode cX9_turnedBy 84 = .ok (.iinc 3 1, 3) := by decide +kernel
theorem dX9_turnedBy_87 : decode cX9_turnedBy 87 = .ok (.goto (-85), 3) := by decide +kernel
theorem dX9_turnedBy_90 : decode cX9_turnedBy 90 = .ok (.bipush (-9), 2) := by decide +kernel
theorem dX9_turnedBy_92 : decode cX9_turnedBy 92 = .ok (.ireturn, 1) := by decide +kernel
set_option maxRecDepth 20000 in
theorem ggX9_findBlanks_X9_turnedBy : GoodIn wsX9_findBlanks wsX9_turnedBy := goodIn_r _ [8, 9, 10, 11, 12, 13, 14, 15, 16, 17, 18, 19, 20, 21, 22, 23, 24, 25, 26, 27, 28, 29, 30, 31, 32, 33, 34, 35, 36, 37, 38, 39, 40, 41, 42] (by decide +kernel) (by decide +kernel)
set_option maxRecDepth 20000 in
theorem gX9_findBlanks_X9_turnedBy : GoodIn wsX9_findBlanks (wsV RX9 90 RX9 yX9_turnedBy wsX9_turnedBy) := goodIn_app (goodIn_of _ (by decide +kernel)) ggX9_findBlanks_X9_turnedBy
theorem dX9_findBlanks_0 : decode cX9_findBlanks 0 = .ok (.iconst 0, 1) := by decide +kernel
theorem dX9_findBlanks_1 : decode cX9_findBlanks 1 = .ok (.istore_n 1, 1) := by decide +kernel
theorem dX9_findBlanks_2 : decode cX9_findBlanks 2 = .ok (.iconst 0, 1) := by decide +kernel
theorem dX9_findBlanks_3 : decode cX9_findBlanks 3 = .ok (.istore_n 2, 1) := by decide +kernel
theorem dX9_findBlanks_4 : decode cX9_findBlanks 4 = .ok (.iload_n 2, 1) := by decide +kernel
theorem dX9_findBlanks_5 : decode cX9_findBlanks 5 = .ok (.bipush 12, 2) := by decide +kernel
theorem dX9_findBlanks_7 : decode cX9_findBlanks 7 = .ok (.if_icmp .ge 138, 3) := by decide +kernel
theorem dX9_findBlanks_10 : decode cX9_findBlanks 10 = .ok (.aload_n 0, 1) := by decide +kernel
theorem dX9_findBlanks_11 : decode cX9_findBlanks 11 = .ok (.getfield 60, 3) := by decide +kernel
theorem dX9_findBlanks_14 : decode cX9_findBlanks 14 = .ok (.iload_n 2, 1) := by decide +kernel
theorem dX9_findBlanks_15 : decode cX9_findBlanks 15 = .ok (.bipush (-9), 2) := by decide +kernel
theorem dX9_findBlanks_17 : decode cX9_findBlanks 17 = .ok (.iastore, 1) := by decide +kernel
theorem dX9_findBlanks_18 : decode cX9_findBlanks 18 = .ok (.aload_n 0, 1) := by decide +kernel
theorem dX9_findBlanks_19 : decode cX9_findBlanks 19 = .ok (.getfield 63, 3) := by decide +kernel
theorem dX9_findBlanks_22 : decode cX9_findBlanks 22 = .ok (.iload_n 2, 1) := by decide +kernel
theorem dX9_findBlanks_23 : decode cX9_findBlanks 23 = .ok (.bipush (-9), 2) := by decide +kernel
theorem dX9_findBlanks_25 : decode cX9_findBlanks 25 = .ok (.iastore, 1) := by decide +kernel
theorem dX9_findBlanks_26 : decode cX9_findBlanks 26 = .ok (.iconst 0, 1) := by decide +kernel
theorem dX9_findBlanks_27 : decode cX9_findBlanks 27 = .ok (.istore_n 3, 1) := by decide +kernel
theorem dX9_findBlanks_28 : decode cX9_findBlanks 28 = .ok (.iload_n 3, 1) := by decide +kernel
theorem dX9_findBlanks_29 : decode cX9_findBlanks 29 = .ok (.iload_n 2, 1) := by decide +kernel
theorem dX9_findBlanks_30 : decode cX9_findBlanks 30 = .ok (.if_icmp .ge 74, 3) := by decide +kernel
theorem dX9_findBlanks_33 : decode cX9_findBlanks 33 = .ok (.aload_n 0, 1) := by decide +kernel
theorem dX9_findBlanks_34 : decode cX9_findBlanks 34 = .ok (.getfield 13, 3) := by decide +kernel
theorem dX9_findBlanks_37 : decode cX9_findBlanks 37 = .ok (.iload_n 2, 1) := by decide +kernel
theorem dX9_findBlanks_38 : decode cX9_findBlanks 38 = .ok (.baload, 1) := by decide +kernel
theorem dX9_findBlanks_39 : decode cX9_findBlanks 39 = .ok (.ifCond .eq 65, 3) := by decide +kernel
theorem dX9_findBlanks_42 : decode cX9_findBlanks 42 = .ok (.aload_n 0, 1) := by decide +kernel
theorem dX9_findBlanks_43 : decode cX9_findBlanks 43 = .ok (.getfield 60, 3) := by decide +kernel
theorem dX9_findBlanks_46 : decode cX9_findBlanks 46 = .ok (.iload_n 2, 1) := by decide +kernel
theorem dX9_findBlanks_47 : decode cX9_findBlanks 47 = .ok (.iaload, 1) := by decide +kernel
theorem dX9_findBlanks_48 : decode cX9_findBlanks 48 = .ok (.ifCond .ge 56, 3) := by decide +kernel
theorem dX9_findBlanks_51 : decode cX9_findBlanks 51 = .ok (.aload_n 0, 1) := by decide +kernel
theorem dX9_findBlanks_52 : decode cX9_findBlanks 52 = .ok (.getfield 13, 3) := by decide +kernel
theorem dX9_findBlanks_55 : decode cX9_findBlanks 55 = .ok (.iload_n 3, 1) := by decide +kernel
theorem dX9_findBlanks_56 : decode cX9_findBlanks 56 = .ok (.baload, 1) := by decide +kernel
theorem dX9_findBlanks_57 : decode cX9_findBlanks 57 = .ok (.ifCond .eq 41, 3) := by decide +kernel
theorem dX9_findBlanks_60 : decode cX9_findBlanks 60 = .ok (.aload_n 0, 1) := by decide +kernel
theorem dX9_findBlanks_61 : decode cX9_findBlanks 61 = .ok (.getfield 60, 3) := by decide +kernel
theorem dX9_findBlanks_64 : decode cX9_findBlanks 64 = .ok (.iload_n 3, 1) := by decide +kernel
theorem dX9_findBlanks_65 : decode cX9_findBlanks 65 = .ok (.iaload, 1) := by decide +kernel
theorem dX9_findBlanks_66 : decode cX9_findBlanks 66 = .ok (.iload_n 3, 1) := by decide +kernel
theorem dX9_findBlanks_67 : decode cX9_findBlanks 67 = .ok (.if_icmp .ne 31, 3) := by decide +kernel
theorem dX9_findBlanks_70 : decode cX9_findBlanks 70 = .ok (.aload_n 0, 1) := by decide +kernel
theorem dX9_findBlanks_71 : decode cX9_findBlanks 71 = .ok (.iload_n 3, 1) := by decide +kernel
theorem dX9_findBlanks_72 : decode cX9_findBlanks 72 = .ok (.iload_n 2, 1) := by decide +kernel
theorem dX9_findBlanks_73 : decode cX9_findBlanks 73 = .ok (.invokevirtual 90, 3) := by decide +kernel
theorem dX9_findBlanks_76 : decode cX9_findBlanks 76 = .ok (.ifCond .lt 22, 3) := by decide +kernel
theorem dX9_findBlanks_79 : decode cX9_findBlanks 79 = .ok (.aload_n 0, 1) := by decide +kernel
theorem dX9_findBlanks_80 : decode cX9_findBlanks 80 = .ok (.getfield 60, 3) := by decide +kernel
theorem dX9_findBlanks_83 : decode cX9_findBlanks 83 = .ok (.iload_n 2, 1) := by decide +kernel
theorem dX9_findBlanks_84 : decode cX9_findBlanks 84 = .ok (.iload_n 3, 1) := by decide +kernel
theorem dX9_findBlanks_85 : decode cX9_findBlanks 85 = .ok (.iastore, 1) := by decide +kernel
theorem dX9_findBlanks_86 : decode cX9_findBlanks 86 = .ok (.aload_n 0, 1) := by decide +kernel
theorem dX9_findBlanks_87 : decode cX9_findBlanks 87 = .ok (.getfield 63, 3) := by decide +kernel
theorem dX9_findBlanks_90 : decode cX9_findBlanks 90 = .ok (.iload_n 2, 1) := by decide +kernel
theorem dX9_findBlanks_91 : decode cX9_findBlanks 91 = .ok (.aload_n 0, 1) := by decide +kernel
theorem dX9_findBlanks_92 : decode cX9_findBlanks 92 = .ok (.getfield 63, 3) := by decide +kernel
theorem dX9_findBlanks_95 : decode cX9_findBlanks 95 = .ok (.iload_n 3, 1) := by decide +kernel
theorem dX9_findBlanks_96 : decode cX9_findBlanks 96 = .ok (.iaload, 1) := by decide +kernel
theorem dX9_findBlanks_97 : decode cX9_findBlanks 97 = .ok (.iastore, 1) := by decide +kernel
theorem dX9_findBlanks_98 : decode cX9_findBlanks 98 = .ok (.iinc 3 1, 3) := by decide +kernel
theorem dX9_findBlanks_101 : decode cX9_findBlanks 101 = .ok (.goto (-73), 3) := by decide +kernel
theorem dX9_findBlanks_104 : decode cX9_findBlanks 104 = .ok (.aload_n 0, 1) := by decide +kernel
theorem dX9_findBlanks_105 : decode cX9_findBlanks 105 = .ok (.getfield 13, 3) := by decide +kernel
theorem dX9_findBlanks_108 : decode cX9_findBlanks 108 = .ok (.iload_n 2, 1) := by decide +kernel
theorem dX9_findBlanks_109 : decode cX9_findBlanks 109 = .ok (.baload, 1) := by decide +kernel
theorem dX9_findBlanks_110 : decode cX9_findBlanks 110 = .ok (.ifCond .eq 29, 3) := by decide +kernel
theorem dX9_findBlanks_113 : decode cX9_findBlanks 113 = .ok (.aload_n 0, 1) := by decide +kernel
theorem dX9_findBlanks_114 : decode cX9_findBlanks 114 = .ok (.getfield 60, 3) := by decide +kernel
theorem dX9_findBlanks_117 : decode cX9_findBlanks 117 = .ok (.iload_n 2, 1) := by decide +kernel
theorem dX9_findBlanks_118 : decode cX9_findBlanks 118 = .ok (.iaload, 1) := by decide +kernel
theorem dX9_findBlanks_119 : decode cX9_findBlanks 119 = .ok (.ifCond .ge 20, 3) := by decide +kernel
theorem dX9_findBlanks_122 : decode cX9_findBlanks 122 = .ok (.aload_n 0, 1) := by decide +kernel
theorem dX9_findBlanks_123 : decode cX9_findBlanks 123 = .ok (.getfield 60, 3) := by decide +kernel
theorem dX9_findBlanks_126 : decode cX9_findBlanks 126 = .ok (.iload_n 2, 1) := by decide +kernel
theorem dX9_findBlanks_127 : decode cX9_findBlanks 127 = .ok (.iload_n 2, 1) := by decide +kernel
theorem dX9_findBlanks_128 : decode cX9_findBlanks 128 = .ok (.iastore, 1) := by decide +kernel
theorem dX9_findBlanks_129 : decode cX9_findBlanks 129 = .ok (.aload_n 0, 1) := by decide +kernel
theorem dX9_findBlanks_130 : decode cX9_findBlanks 130 = .ok (.getfield 63, 3) := by decide +kernel
theorem dX9_findBlanks_133 : decode cX9_findBlanks 133 = .ok (.iload_n 2, 1) := by decide +kernel
theorem dX9_findBlanks_134 : decode cX9_findBlanks 134 = .ok (.iload_n 1, 1) := by decide +kernel
theorem dX9_findBlanks_135 : decode cX9_findBlanks 135 = .ok (.iastore, 1) := by decide +kernel
theorem dX9_findBlanks_136 : decode cX9_findBlanks 136 = .ok (.iinc 1 1, 3) := by decide +kernel
theorem dX9_findBlanks_139 : decode cX9_findBlanks 139 = .ok (.iinc 2 1, 3) := by decide +kernel
theorem dX9_findBlanks_142 : decode cX9_findBlanks 142 = .ok (.goto (-138), 3) := by decide +kernel
theorem dX9_findBlanks_145 : decode cX9_findBlanks 145 = .ok (.iload_n 1, 1) := by decide +kernel
theorem dX9_findBlanks_146 : decode cX9_findBlanks 146 = .ok (.ireturn, 1) := by decide +kernel
set_option maxRecDepth 20000 in
theorem ggX9_blanks_X9_findBlanks : GoodIn wsX9_blanks wsX9_findBlanks := goodIn_r _ [5, 6, 7, 8, 9, 10, 11, 4, 12, 13, 14, 15, 16, 17, 18, 19, 20, 21, 22, 23, 24, 25, 26, 27, 28, 29, 30, 31, 32, 33, 34, 35, 36, 37, 38, 39, 40, 41, 42, 43, 44, 45, 46] (by decide +kernel) (by decide +kernel)
set_option maxRecDepth 20000 in
theorem gX9_blanks_X9_findBlanks : GoodIn wsX9_blanks (wsV RX9 94 RX9 yX9_findBlanks wsX9_findBlanks) := goodIn_app (goodIn_of _ (by decide +kernel)) ggX9_blanks_X9_findBlanks
theorem dX9_blanks_0 : decode cX9_blanks 0 = .ok (.aload_n 0, 1) := by decide +kernel
theorem dX9_blanks_1 : decode cX9_blanks 1 = .ok (.invokevirtual 94, 3) := by decide +kernel
theorem dX9_blanks_4 : decode cX9_blanks 4 = .ok (.ireturn, 1) := by decide +kernel
theorem dX9_smoothOf_0 : decode cX9_smoothOf 0 = .ok (.iconst 0, 1) := by decide +kernel
theorem dX9_smoothOf_1 : decode cX9_smoothOf 1 = .ok (.istore_n 2, 1) := by decide +kernel
theorem dX9_smoothOf_2 : decode cX9_smoothOf 2 = .ok (.iconst 0, 1) := by decide +kernel
theorem dX9_smoothOf_3 : decode cX9_smoothOf 3 = .ok (.istore_n 3, 1) := by decide +kernel
theorem dX9_smoothOf_4 : decode cX9_smoothOf 4 = .ok (.iload_n 3, 1) := by decide +kernel
theorem dX9_smoothOf_5 : decode cX9_smoothOf 5 = .ok (.aload_n 0, 1) := by decide +kernel
theorem dX9_smoothOf_6 : decode cX9_smoothOf 6 = .ok (.getfield 7, 3) := by decide +kernel
theorem dX9_smoothOf_9 : decode cX9_smoothOf 9 = .ok (.if_icmp .ge 69, 3) := by decide +kernel
theorem dX9_smoothOf_12 : decode cX9_smoothOf 12 = .ok (.aload_n 0, 1) := by decide +kernel
theorem dX9_smoothOf_13 : decode cX9_smoothOf 13 = .ok (.getfield 17, 3) := by decide +kernel
theorem dX9_smoothOf_16 : decode cX9_smoothOf 16 = .ok (.bipush 16, 2) := by decide +kernel
theorem dX9_smoothOf_18 : decode cX9_smoothOf 18 = .ok (.iload_n 1, 1) := by decide +kernel
theorem dX9_smoothOf_19 : decode cX9_smoothOf 19 = .ok (.imul, 1) := by decide +kernel
theorem dX9_smoothOf_20 : decode cX9_smoothOf 20 = .ok (.iload_n 3, 1) := by decide +kernel
theorem dX9_smoothOf_21 : decode cX9_smoothOf 21 = .ok (.iadd, 1) := by decide +kernel
theorem dX9_smoothOf_22 : decode cX9_smoothOf 22 = .ok (.iaload, 1) := by decide +kernel
theorem dX9_smoothOf_23 : decode cX9_smoothOf 23 = .ok (.aload_n 0, 1) := by decide +kernel
theorem dX9_smoothOf_24 : decode cX9_smoothOf 24 = .ok (.getfield 17, 3) := by decide +kernel
theorem dX9_smoothOf_27 : decode cX9_smoothOf 27 = .ok (.bipush 16, 2) := by decide +kernel
theorem dX9_smoothOf_29 : decode cX9_smoothOf 29 = .ok (.iload_n 1, 1) := by decide +kernel
theorem dX9_smoothOf_30 : decode cX9_smoothOf 30 = .ok (.imul, 1) := by decide +kernel
theorem dX9_smoothOf_31 : decode cX9_smoothOf 31 = .ok (.iload_n 3, 1) := by decide +kernel
theorem dX9_smoothOf_32 : decode cX9_smoothOf 32 = .ok (.iconst 1, 1) := by decide +kernel
theorem dX9_smoothOf_33 : decode cX9_smoothOf 33 = .ok (.iadd, 1) := by decide +kernel
theorem dX9_smoothOf_34 : decode cX9_smoothOf 34 = .ok (.aload_n 0, 1) := by decide +kernel
theorem dX9_smoothOf_35 : decode cX9_smoothOf 35 = .ok (.getfield 7, 3) := by decide +kernel
theorem dX9_smoothOf_38 : decode cX9_smoothOf 38 = .ok (.irem, 1) := by decide +kernel
theorem dX9_smoothOf_39 : decode cX9_smoothOf 39 = .ok (.iadd, 1) := by decide +kernel
theorem dX9_smoothOf_40 : decode cX9_smoothOf 40 = .ok (.iaload, 1) := by decide +kernel
theorem dX9_smoothOf_41 : decode cX9_smoothOf 41 = .ok (.isub, 1) := by decide +kernel
theorem dX9_smoothOf_42 : decode cX9_smoothOf 42 = .ok (.istore 4, 2) := by decide +kernel
theorem dX9_smoothOf_44 : decode cX9_smoothOf 44 = .ok (.iload 4, 2) := by decide +kernel
theorem dX9_smoothOf_46 : decode cX9_smoothOf 46 = .ok (.ifCond .ge 9, 3) := by decide +kernel
theorem dX9_smoothOf_49 : decode cX9_smoothOf 49 = .ok (.iload 4, 2) := by decide +kernel
theorem dX9_smoothOf_51 : decode cX9_smoothOf 51 = .ok (.ineg, 1) := by decide +kernel
theorem dX9_smoothOf_52 : decode cX9_smoothOf 52 = .ok (.goto 5, 3) := by decide +kernel
theorem dX9_smoothOf_55 : decode cX9_smoothOf 55 = .ok (.iload 4, 2) := by decide +kernel
theorem dX9_smoothOf_57 : decode cX9_smoothOf 57 = .ok (.istore 4, 2) := by decide +kernel
theorem dX9_smoothOf_59 : decode cX9_smoothOf 59 = .ok (.iload 4, 2) := by decide +kernel
theorem dX9_smoothOf_61 : decode cX9_smoothOf 61 = .ok (.iload_n 2, 1) := by decide +kernel
theorem dX9_smoothOf_62 : decode cX9_smoothOf 62 = .ok (.if_icmp .le 8, 3) := by decide +kernel
theorem dX9_smoothOf_65 : decode cX9_smoothOf 65 = .ok (.iload 4, 2) := by decide +kernel
theorem dX9_smoothOf_67 : decode cX9_smoothOf 67 = .ok (.goto 4, 3) := by decide +kernel
theorem dX9_smoothOf_70 : decode cX9_smoothOf 70 = .ok (.iload_n 2, 1) := by decide +kernel
theorem dX9_smoothOf_71 : decode cX9_smoothOf 71 = .ok (.istore_n 2, 1) := by decide +kernel
theorem dX9_smoothOf_72 : decode cX9_smoothOf 72 = .ok (.iinc 3 1, 3) := by decide +kernel
theorem dX9_smoothOf_75 : decode cX9_smoothOf 75 = .ok (.goto (-71), 3) := by decide +kernel
theorem dX9_smoothOf_78 : decode cX9_smoothOf 78 = .ok (.iload_n 2, 1) := by decide +kernel
theorem dX9_smoothOf_79 : decode cX9_smoothOf 79 = .ok (.ireturn, 1) := by decide +kernel
set_option maxRecDepth 20000 in
theorem ggX9_camOf_X9_lacks : GoodIn wsX9_camOf wsX9_lacks := goodIn_r _ [7, 8, 9, 10, 6, 11, 12, 13, 14, 34, 35, 36, 37, 38, 39, 40, 41, 42, 43, 44, 45, 46, 47, 48, 49, 50, 51, 52, 53, 54, 55, 56, 57, 58, 59, 60, 61, 62, 63, 64, 65] (by decide +kernel) (by decide +kernel)
set_option maxRecDepth 20000 in
theorem gX9_camOf_X9_lacks : GoodIn wsX9_camOf (wsV RX9 87 RX9 yX9_lacks wsX9_lacks) := goodIn_app (goodIn_of _ (by decide +kernel)) ggX9_camOf_X9_lacks
set_option maxRecDepth 20000 in
theorem ggX9_camOf_X9_refuse : GoodIn wsX9_camOf wsX9_refuse := goodIn_r _ [18, 19, 34, 35, 36, 37, 38, 39, 40, 41, 42, 43, 44, 45, 46, 47, 48, 49, 50, 51, 52, 53, 54, 55, 56, 57, 58, 59, 60, 61, 62, 63, 64, 65] (by decide +kernel) (by decide +kernel)
set_option maxRecDepth 20000 in
theorem gX9_camOf_X9_refuse : GoodIn wsX9_camOf (wsV RX9 79 RX9 yX9_refuse wsX9_refuse) := goodIn_app (goodIn_of _ (by decide +kernel)) ggX9_camOf_X9_refuse
set_option maxRecDepth 20000 in
theorem ggX9_camOf_X9_in : GoodIn wsX9_camOf wsX9_in := goodIn_r _ [14] (by decide +kernel) (by decide +kernel)
set_option maxRecDepth 20000 in
theorem gX9_camOf_X9_in : GoodIn wsX9_camOf (va_wsS RX9 75 yX9_in wsX9_in) := goodIn_app (goodIn_of _ (by decide +kernel)) ggX9_camOf_X9_in
set_option maxRecDepth 20000 in
theorem ggX9_camOf_X9_findBlanks : GoodIn wsX9_camOf wsX9_findBlanks := goodIn_r _ [23, 2, 1, 8, 24, 25, 26, 6, 27, 28, 29, 34, 35, 36, 37, 38, 39, 40, 41, 42, 43, 44, 45, 46, 47, 48, 49, 50, 51, 52, 53, 54, 55, 56, 57, 58, 59, 60, 61, 62, 63, 64, 65] (by decide +kernel) (by decide +kernel)
set_option maxRecDepth 20000 in
theorem gX9_camOf_X9_findBlanks : GoodIn wsX9_camOf (wsV RX9 94 RX9 yX9_findBlanks wsX9_findBlanks) := goodIn_app (goodIn_of _ (by decide +kernel)) ggX9_camOf_X9_findBlanks
set_option maxRecDepth 20000 in
theorem ggX9_camOf_X9_turnedBy : GoodIn wsX9_camOf wsX9_turnedBy := goodIn_r _ [27, 28, 29, 34, 35, 36, 37, 38, 39, 40, 41, 42, 43, 44, 45, 46, 47, 48, 49, 50, 51, 52, 53, 54, 55, 56, 57, 58, 59, 60, 61, 62, 63, 64, 65] (by decide +kernel) (by decide +kernel)
set_option maxRecDepth 20000 in
theorem gX9_camOf_X9_turnedBy : GoodIn wsX9_camOf (wsV RX9 90 RX9 yX9_turnedBy wsX9_turnedBy) := goodIn_app (goodIn_of _ (by decide +kernel)) ggX9_camOf_X9_turnedBy
set_option maxRecDepth 20000 in
theorem ggX9_camOf_X9_smoothOf : GoodIn wsX9_camOf wsX9_smoothOf := goodIn_r _ [33, 28, 29, 34, 35, 36, 37, 38, 39, 40, 41, 42, 43, 44, 45, 46, 47, 48, 49, 50, 51, 52, 53, 54, 55, 56, 57, 58, 59, 60, 61, 62, 63, 64, 65] (by decide +kernel) (by decide +kernel)
set_option maxRecDepth 20000 in
theorem gX9_camOf_X9_smoothOf : GoodIn wsX9_camOf (wsV RX9 98 RX9 yX9_smoothOf wsX9_smoothOf) := goodIn_app (goodIn_of _ (by decide +kernel)) ggX9_camOf_X9_smoothOf
theorem dX9_camOf_0 : decode cX9_camOf 0 = .ok (.aload_n 0, 1) := by decide +kernel
theorem dX9_camOf_1 : decode cX9_camOf 1 = .ok (.iload_n 1, 1) := by decide +kernel
theorem dX9_camOf_2 : decode cX9_camOf 2 = .ok (.invokevirtual 87, 3) := by decide +kernel
theorem dX9_camOf_5 : decode cX9_camOf 5 = .ok (.istore_n 3, 1) := by decide +kernel
theorem dX9_camOf_6 : decode cX9_camOf 6 = .ok (.iload_n 3, 1) := by decide +kernel
theorem dX9_camOf_7 : decode cX9_camOf 7 = .ok (.ifCond .ge 9, 3) := by decide +kernel
theorem dX9_camOf_10 : decode cX9_camOf 10 = .ok (.aload_n 0, 1) := by decide +kernel
theorem dX9_camOf_11 : decode cX9_camOf 11 = .ok (.iload_n 3, 1) := by decide +kernel
theorem dX9_camOf_12 : decode cX9_camOf 12 = .ok (.invokevirtual 79, 3) := by decide +kernel
theorem dX9_camOf_15 : decode cX9_camOf 15 = .ok (.ireturn, 1) := by decide +kernel
theorem dX9_camOf_16 : decode cX9_camOf 16 = .ok (.iload_n 2, 1) := by decide +kernel
theorem dX9_camOf_17 : decode cX9_camOf 17 = .ok (.iconst 0, 1) := by decide +kernel
theorem dX9_camOf_18 : decode cX9_camOf 18 = .ok (.iconst 2, 1) := by decide +kernel
theorem dX9_camOf_19 : decode cX9_camOf 19 = .ok (.invokestatic 75, 3) := by decide +kernel
theorem dX9_camOf_22 : decode cX9_camOf 22 = .ok (.ifCond .ne 10, 3) := by decide +kernel
theorem dX9_camOf_25 : decode cX9_camOf 25 = .ok (.aload_n 0, 1) := by decide +kernel
theorem dX9_camOf_26 : decode cX9_camOf 26 = .ok (.bipush (-2), 2) := by decide +kernel
theorem dX9_camOf_28 : decode cX9_camOf 28 = .ok (.invokevirtual 79, 3) := by decide +kernel
theorem dX9_camOf_31 : decode cX9_camOf 31 = .ok (.ireturn, 1) := by decide +kernel
theorem dX9_camOf_32 : decode cX9_camOf 32 = .ok (.aload_n 0, 1) := by decide +kernel
theorem dX9_camOf_33 : decode cX9_camOf 33 = .ok (.invokevirtual 94, 3) := by decide +kernel
theorem dX9_camOf_36 : decode cX9_camOf 36 = .ok (.istore 4, 2) := by decide +kernel
theorem dX9_camOf_38 : decode cX9_camOf 38 = .ok (.iload_n 2, 1) := by decide +kernel
theorem dX9_camOf_39 : decode cX9_camOf 39 = .ok (.ifCond .ne 12, 3) := by decide +kernel
theorem dX9_camOf_42 : decode cX9_camOf 42 = .ok (.aload_n 0, 1) := by decide +kernel
theorem dX9_camOf_43 : decode cX9_camOf 43 = .ok (.getfield 63, 3) := by decide +kernel
theorem dX9_camOf_46 : decode cX9_camOf 46 = .ok (.iload_n 1, 1) := by decide +kernel
theorem dX9_camOf_47 : decode cX9_camOf 47 = .ok (.iaload, 1) := by decide +kernel
theorem dX9_camOf_48 : decode cX9_camOf 48 = .ok (.goto 27, 3) := by decide +kernel
theorem dX9_camOf_51 : decode cX9_camOf 51 = .ok (.iload_n 2, 1) := by decide +kernel
theorem dX9_camOf_52 : decode cX9_camOf 52 = .ok (.iconst 1, 1) := by decide +kernel
theorem dX9_camOf_53 : decode cX9_camOf 53 = .ok (.if_icmp .ne 17, 3) := by decide +kernel
theorem dX9_camOf_56 : decode cX9_camOf 56 = .ok (.aload_n 0, 1) := by decide +kernel
theorem dX9_camOf_57 : decode cX9_camOf 57 = .ok (.aload_n 0, 1) := by decide +kernel
theorem dX9_camOf_58 : decode cX9_camOf 58 = .ok (.getfield 60, 3) := by decide +kernel
theorem dX9_camOf_61 : decode cX9_camOf 61 = .ok (.iload_n 1, 1) := by decide +kernel
theorem dX9_camOf_62 : decode cX9_camOf 62 = .ok (.iaload, 1) := by decide +kernel
theorem dX9_camOf_63 : decode cX9_camOf 63 = .ok (.iload_n 1, 1) := by decide +kernel
theorem dX9_camOf_64 : decode cX9_camOf 64 = .ok (.invokevirtual 90, 3) := by decide +kernel
theorem dX9_camOf_67 : decode cX9_camOf 67 = .ok (.goto 8, 3) := by decide +kernel
theorem dX9_camOf_70 : decode cX9_camOf 70 = .ok (.aload_n 0, 1) := by decide +kernel
theorem dX9_camOf_71 : decode cX9_camOf 71 = .ok (.iload_n 1, 1) := by decide +kernel
theorem dX9_camOf_72 : decode cX9_camOf 72 = .ok (.invokevirtual 98, 3) := by decide +kernel
theorem dX9_camOf_75 : decode cX9_camOf 75 = .ok (.ireturn, 1) := by decide +kernel
set_option maxRecDepth 20000 in
theorem ggX9_letter_X9_in : GoodIn wsX9_letter wsX9_in := goodIn_r _ [7] (by decide +kernel) (by decide +kernel)
set_option maxRecDepth 20000 in
theorem gX9_letter_X9_in : GoodIn wsX9_letter (va_wsS RX9 75 yX9_in wsX9_in) := goodIn_app (goodIn_of _ (by decide +kernel)) ggX9_letter_X9_in
set_option maxRecDepth 20000 in
theorem ggX9_letter_X9_isCam : GoodIn wsX9_letter wsX9_isCam := goodIn_r _ [10, 4, 5, 6, 7] (by decide +kernel) (by decide +kernel)
set_option maxRecDepth 20000 in
theorem gX9_letter_X9_isCam : GoodIn wsX9_letter (va_wsS RX9 83 yX9_isCam wsX9_isCam) := goodIn_app (goodIn_of _ (by decide +kernel)) ggX9_letter_X9_isCam
set_option maxRecDepth 20000 in
theorem ggX9_letter_X9_refuse : GoodIn wsX9_letter wsX9_refuse := goodIn_r _ [14, 15, 16, 17, 18, 19, 20, 21, 22, 23, 24, 25, 26, 27, 28, 29, 30, 31, 32, 33, 34, 35, 36, 37, 38, 39, 40, 41, 42, 43, 44, 45, 46, 47] (by decide +kernel) (by decide +kernel)
set_option maxRecDepth 20000 in
theorem gX9_letter_X9_refuse : GoodIn wsX9_letter (wsV RX9 79 RX9 yX9_refuse wsX9_refuse) := goodIn_app (goodIn_of _ (by decide +kernel)) ggX9_letter_X9_refuse
theorem dX9_letter_0 : decode cX9_letter 0 = .ok (.iload_n 1, 1) := by decide +kernel
theorem dX9_letter_1 : decode cX9_letter 1 = .ok (.iconst 0, 1) := by decide +kernel
theorem dX9_letter_2 : decode cX9_letter 2 = .ok (.bipush 9, 2) := by decide +kernel
theorem dX9_letter_4 : decode cX9_letter 4 = .ok (.invokestatic 75, 3) := by decide +kernel
theorem dX9_letter_7 : decode cX9_letter 7 = .ok (.ifCond .eq 25, 3) := by decide +kernel
theorem dX9_letter_10 : decode cX9_letter 10 = .ok (.iload_n 2, 1) := by decide +kernel
theorem dX9_letter_11 : decode cX9_letter 11 = .ok (.invokestatic 83, 3) := by decide +kernel
theorem dX9_letter_14 : decode cX9_letter 14 = .ok (.ifCond .eq 18, 3) := by decide +kernel
theorem dX9_letter_17 : decode cX9_letter 17 = .ok (.iload_n 3, 1) := by decide +kernel
theorem dX9_letter_18 : decode cX9_letter 18 = .ok (.invokestatic 83, 3) := by decide +kernel
theorem dX9_letter_21 : decode cX9_letter 21 = .ok (.ifCond .eq 11, 3) := by decide +kernel
theorem dX9_letter_24 : decode cX9_letter 24 = .ok (.iload 4, 2) := by decide +kernel
theorem dX9_letter_26 : decode cX9_letter 26 = .ok (.invokestatic 83, 3) := by decide +kernel
theorem dX9_letter_29 : decode cX9_letter 29 = .ok (.ifCond .ne 9, 3) := by decide +kernel
theorem dX9_letter_32 : decode cX9_letter 32 = .ok (.aload_n 0, 1) := by decide +kernel
theorem dX9_letter_33 : decode cX9_letter 33 = .ok (.iconst (-1), 1) := by decide +kernel
theorem dX9_letter_34 : decode cX9_letter 34 = .ok (.invokevirtual 79, 3) := by decide +kernel
theorem dX9_letter_37 : decode cX9_letter 37 = .ok (.ireturn, 1) := by decide +kernel
theorem dX9_letter_38 : decode cX9_letter 38 = .ok (.aload_n 0, 1) := by decide +kernel
theorem dX9_letter_39 : decode cX9_letter 39 = .ok (.getfield 21, 3) := by decide +kernel
theorem dX9_letter_42 : decode cX9_letter 42 = .ok (.iload_n 1, 1) := by decide +kernel
theorem dX9_letter_43 : decode cX9_letter 43 = .ok (.iload_n 2, 1) := by decide +kernel
theorem dX9_letter_44 : decode cX9_letter 44 = .ok (.iastore, 1) := by decide +kernel
theorem dX9_letter_45 : decode cX9_letter 45 = .ok (.aload_n 0, 1) := by decide +kernel
theorem dX9_letter_46 : decode cX9_letter 46 = .ok (.getfield 24, 3) := by decide +kernel
theorem dX9_letter_49 : decode cX9_letter 49 = .ok (.iload_n 1, 1) := by decide +kernel
theorem dX9_letter_50 : decode cX9_letter 50 = .ok (.iload_n 3, 1) := by decide +kernel
theorem dX9_letter_51 : decode cX9_letter 51 = .ok (.iastore, 1) := by decide +kernel
theorem dX9_letter_52 : decode cX9_letter 52 = .ok (.aload_n 0, 1) := by decide +kernel
theorem dX9_letter_53 : decode cX9_letter 53 = .ok (.getfield 27, 3) := by decide +kernel
theorem dX9_letter_56 : decode cX9_letter 56 = .ok (.iload_n 1, 1) := by decide +kernel
theorem dX9_letter_57 : decode cX9_letter 57 = .ok (.iload 4, 2) := by decide +kernel
theorem dX9_letter_59 : decode cX9_letter 59 = .ok (.iastore, 1) := by decide +kernel
theorem dX9_letter_60 : decode cX9_letter 60 = .ok (.iconst 1, 1) := by decide +kernel
theorem dX9_letter_61 : decode cX9_letter 61 = .ok (.ireturn, 1) := by decide +kernel
theorem dX9_isCutLetter_0 : decode cX9_isCutLetter 0 = .ok (.aload_n 0, 1) := by decide +kernel
theorem dX9_isCutLetter_1 : decode cX9_isCutLetter 1 = .ok (.getfield 13, 3) := by decide +kernel
theorem dX9_isCutLetter_4 : decode cX9_isCutLetter 4 = .ok (.aload_n 0, 1) := by decide +kernel
theorem dX9_isCutLetter_5 : decode cX9_isCutLetter 5 = .ok (.getfield 21, 3) := by decide +kernel
theorem dX9_isCutLetter_8 : decode cX9_isCutLetter 8 = .ok (.iload_n 1, 1) := by decide +kernel
theorem dX9_isCutLetter_9 : decode cX9_isCutLetter 9 = .ok (.iaload, 1) := by decide +kernel
theorem dX9_isCutLetter_10 : decode cX9_isCutLetter 10 = .ok (.baload, 1) := by decide +kernel
theorem dX9_isCutLetter_11 : decode cX9_isCutLetter 11 = .ok (.ifCond .eq 35, 3) := by decide +kernel
theorem dX9_isCutLetter_14 : decode cX9_isCutLetter 14 = .ok (.aload_n 0, 1) := by decide +kernel
theorem dX9_isCutLetter_15 : decode cX9_isCutLetter 15 = .ok (.getfield 13, 3) := by decide +kernel
theorem dX9_isCutLetter_18 : decode cX9_isCutLetter 18 = .ok (.aload_n 0, 1) := by decide +kernel
theorem dX9_isCutLetter_19 : decode cX9_isCutLetter 19 = .ok (.getfield 24, 3) := by decide +kernel
theorem dX9_isCutLetter_22 : decode cX9_isCutLetter 22 = .ok (.iload_n 1, 1) := by decide +kernel
theorem dX9_isCutLetter_23 : decode cX9_isCutLetter 23 = .ok (.iaload, 1) := by decide +kernel
theorem dX9_isCutLetter_24 : decode cX9_isCutLetter 24 = .ok (.baload, 1) := by decide +kernel
theorem dX9_isCutLetter_25 : decode cX9_isCutLetter 25 = .ok (.ifCond .eq 21, 3) := by decide +kernel
theorem dX9_isCutLetter_28 : decode cX9_isCutLetter 28 = .ok (.aload_n 0, 1) := by decide +kernel
theorem dX9_isCutLetter_29 : decode cX9_isCutLetter 29 = .ok (.getfield 13, 3) := by decide +kernel
theorem dX9_isCutLetter_32 : decode cX9_isCutLetter 32 = .ok (.aload_n 0, 1) := by decide +kernel
theorem dX9_isCutLetter_33 : decode cX9_isCutLetter 33 = .ok (.getfield 27, 3) := by decide +kernel
theorem dX9_isCutLetter_36 : decode cX9_isCutLetter 36 = .ok (.iload_n 1, 1) := by decide +kernel
theorem dX9_isCutLetter_37 : decode cX9_isCutLetter 37 = .ok (.iaload, 1) := by decide +kernel
theorem dX9_isCutLetter_38 : decode cX9_isCutLetter 38 = .ok (.baload, 1) := by decide +kernel
theorem dX9_isCutLetter_39 : decode cX9_isCutLetter 39 = .ok (.ifCond .eq 7, 3) := by decide +kernel
theorem dX9_isCutLetter_42 : decode cX9_isCutLetter 42 = .ok (.iconst 1, 1) := by decide +kernel
theorem dX9_isCutLetter_43 : decode cX9_isCutLetter 43 = .ok (.goto 4, 3) := by decide +kernel
theorem dX9_isCutLetter_46 : decode cX9_isCutLetter 46 = .ok (.iconst 0, 1) := by decide +kernel
theorem dX9_isCutLetter_47 : decode cX9_isCutLetter 47 = .ok (.ireturn, 1) := by decide +kernel
set_option maxRecDepth 20000 in
theorem ggX9_isCut_X9_in : GoodIn wsX9_isCut wsX9_in := goodIn_r _ [4] (by decide +kernel) (by decide +kernel)
set_option maxRecDepth 20000 in
theorem gX9_isCut_X9_in : GoodIn wsX9_isCut (va_wsS RX9 75 yX9_in wsX9_in) := goodIn_app (goodIn_of _ (by decide +kernel)) ggX9_isCut_X9_in
set_option maxRecDepth 20000 in
theorem ggX9_isCut_X9_isCutLetter : GoodIn wsX9_isCut wsX9_isCutLetter := goodIn_r _ [8, 9, 10, 11, 12, 18, 19, 20, 21, 22, 23, 24, 25, 26, 27, 28, 29, 30, 31, 32, 33, 34, 35, 36, 37, 38, 39, 40, 41, 42, 43, 44, 45, 46, 47, 48, 49] (by decide +kernel) (by decide +kernel)
set_option maxRecDepth 20000 in
theorem gX9_isCut_X9_isCutLetter : GoodIn wsX9_isCut (wsV RX9 101 RX9 yX9_isCutLetter wsX9_isCutLetter) := goodIn_app (goodIn_of _ (by decide +kernel)) ggX9_isCut_X9_isCutLetter
set_option maxRecDepth 20000 in
theorem ggX9_isCut_X9_refuse : GoodIn wsX9_isCut wsX9_refuse := goodIn_r _ [16, 17, 18, 19, 20, 21, 22, 23, 24, 25, 26, 27, 28, 29, 30, 31, 32, 33, 34, 35, 36, 37, 38, 39, 40, 41, 42, 43, 44, 45, 46, 47, 48, 49] (by decide +kernel) (by decide +kernel)
set_option maxRecDepth 20000 in
theorem gX9_isCut_X9_refuse : GoodIn wsX9_isCut (wsV RX9 79 RX9 yX9_refuse wsX9_refuse) := goodIn_app (goodIn_of _ (by decide +kernel)) ggX9_isCut_X9_refuse
theorem dX9_isCut_0 : decode cX9_isCut 0 = .ok (.iload_n 1, 1) := by decide +kernel
theorem dX9_isCut_1 : decode cX9_isCut 1 = .ok (.iconst 0, 1) := by decide +kernel
theorem dX9_isCut_2 : decode cX9_isCut 2 = .ok (.bipush 9, 2) := by decide +kernel
theorem dX9_isCut_4 : decode cX9_isCut 4 = .ok (.invokestatic 75, 3) := by decide +kernel
theorem dX9_isCut_7 : decode cX9_isCut 7 = .ok (.ifCond .eq 19, 3) := by decide +kernel
theorem dX9_isCut_10 : decode cX9_isCut 10 = .ok (.aload_n 0, 1) := by decide +kernel
theorem dX9_isCut_11 : decode cX9_isCut 11 = .ok (.iload_n 1, 1) := by decide +kernel
theorem dX9_isCut_12 : decode cX9_isCut 12 = .ok (.invokevirtual 101, 3) := by decide +kernel
theorem dX9_isCut_15 : decode cX9_isCut 15 = .ok (.ifCond .eq 7, 3) := by decide +kernel
theorem dX9_isCut_18 : decode cX9_isCut 18 = .ok (.iconst 1, 1) := by decide +kernel
theorem dX9_isCut_19 : decode cX9_isCut 19 = .ok (.goto 12, 3) := by decide +kernel
theorem dX9_isCut_22 : decode cX9_isCut 22 = .ok (.iconst 0, 1) := by decide +kernel
theorem dX9_isCut_23 : decode cX9_isCut 23 = .ok (.goto 8, 3) := by decide +kernel
theorem dX9_isCut_26 : decode cX9_isCut 26 = .ok (.aload_n 0, 1) := by decide +kernel
theorem dX9_isCut_27 : decode cX9_isCut 27 = .ok (.iconst (-1), 1) := by decide +kernel
theorem dX9_isCut_28 : decode cX9_isCut 28 = .ok (.invokevirtual 79, 3) := by decide +kernel
theorem dX9_isCut_31 : decode cX9_isCut 31 = .ok (.ireturn, 1) := by decide +kernel
set_option maxRecDepth 20000 in
theorem ggX9_peg_X9_in : GoodIn wsX9_peg wsX9_in := goodIn_r _ [6] (by decide +kernel) (by decide +kernel)
set_option maxRecDepth 20000 in
theorem gX9_peg_X9_in : GoodIn wsX9_peg (va_wsS RX9 75 yX9_in wsX9_in) := goodIn_app (goodIn_of _ (by decide +kernel)) ggX9_peg_X9_in
set_option maxRecDepth 20000 in
theorem ggX9_peg_X9_refuse : GoodIn wsX9_peg wsX9_refuse := goodIn_r _ [10, 11, 12, 13, 14, 15, 16, 17, 18, 19, 20, 21, 22, 23, 24, 25, 26, 27, 28, 29, 30, 31, 32, 33, 34, 35, 36, 37, 38, 39, 40, 41, 42, 43] (by decide +kernel) (by decide +kernel)
set_option maxRecDepth 20000 in
theorem gX9_peg_X9_refuse : GoodIn wsX9_peg (wsV RX9 79 RX9 yX9_refuse wsX9_refuse) := goodIn_app (goodIn_of _ (by decide +kernel)) ggX9_peg_X9_refuse
theorem dX9_peg_0 : decode cX9_peg 0 = .ok (.iload_n 1, 1) := by decide +kernel
theorem dX9_peg_1 : decode cX9_peg 1 = .ok (.iconst 0, 1) := by decide +kernel
theorem dX9_peg_2 : decode cX9_peg 2 = .ok (.bipush 9, 2) := by decide +kernel
theorem dX9_peg_4 : decode cX9_peg 4 = .ok (.invokestatic 75, 3) := by decide +kernel
theorem dX9_peg_7 : decode cX9_peg 7 = .ok (.ifCond .ne 9, 3) := by decide +kernel
theorem dX9_peg_10 : decode cX9_peg 10 = .ok (.aload_n 0, 1) := by decide +kernel
theorem dX9_peg_11 : decode cX9_peg 11 = .ok (.iconst (-1), 1) := by decide +kernel
theorem dX9_peg_12 : decode cX9_peg 12 = .ok (.invokevirtual 79, 3) := by decide +kernel
theorem dX9_peg_15 : decode cX9_peg 15 = .ok (.ireturn, 1) := by decide +kernel
theorem dX9_peg_16 : decode cX9_peg 16 = .ok (.aload_n 0, 1) := by decide +kernel
theorem dX9_peg_17 : decode cX9_peg 17 = .ok (.getfield 104, 3) := by decide +kernel
theorem dX9_peg_20 : decode cX9_peg 20 = .ok (.bipush 12, 2) := by decide +kernel
theorem dX9_peg_22 : decode cX9_peg 22 = .ok (.if_icmp .ne 10, 3) := by decide +kernel
theorem dX9_peg_25 : decode cX9_peg 25 = .ok (.aload_n 0, 1) := by decide +kernel
theorem dX9_peg_26 : decode cX9_peg 26 = .ok (.bipush (-6), 2) := by decide +kernel
theorem dX9_peg_28 : decode cX9_peg 28 = .ok (.invokevirtual 79, 3) := by decide +kernel
theorem dX9_peg_31 : decode cX9_peg 31 = .ok (.ireturn, 1) := by decide +kernel
theorem dX9_peg_32 : decode cX9_peg 32 = .ok (.aload_n 0, 1) := by decide +kernel
theorem dX9_peg_33 : decode cX9_peg 33 = .ok (.getfield 30, 3) := by decide +kernel
theorem dX9_peg_36 : decode cX9_peg 36 = .ok (.aload_n 0, 1) := by decide +kernel
theorem dX9_peg_37 : decode cX9_peg 37 = .ok (.getfield 104, 3) := by decide +kernel
theorem dX9_peg_40 : decode cX9_peg 40 = .ok (.iload_n 1, 1) := by decide +kernel
theorem dX9_peg_41 : decode cX9_peg 41 = .ok (.iastore, 1) := by decide +kernel
theorem dX9_peg_42 : decode cX9_peg 42 = .ok (.aload_n 0, 1) := by decide +kernel
theorem dX9_peg_43 : decode cX9_peg 43 = .ok (.dup, 1) := by decide +kernel
theorem dX9_peg_44 : decode cX9_peg 44 = .ok (.getfield 104, 3) := by decide +kernel
theorem dX9_peg_47 : decode cX9_peg 47 = .ok (.iconst 1, 1) := by decide +kernel
theorem dX9_peg_48 : decode cX9_peg 48 = .ok (.iadd, 1) := by decide +kernel
theorem dX9_peg_49 : decode cX9_peg 49 = .ok (.putfield 104, 3) := by decide +kernel
theorem dX9_peg_52 : decode cX9_peg 52 = .ok (.aload_n 0, 1) := by decide +kernel
theorem dX9_peg_53 : decode cX9_peg 53 = .ok (.getfield 104, 3) := by decide +kernel
theorem dX9_peg_56 : decode cX9_peg 56 = .ok (.ireturn, 1) := by decide +kernel
set_option maxRecDepth 20000 in
theorem ggX9_unpeg_X9_refuse : GoodIn wsX9_unpeg wsX9_refuse := goodIn_r _ [6, 7, 8, 9, 10, 11, 12, 13, 14, 15, 16, 17, 18, 19, 20, 21, 22, 23, 24, 25, 26, 27, 28, 29, 30, 31, 32, 33, 34, 35, 36, 37, 38, 39] (by decide +kernel) (by decide +kernel)
set_option maxRecDepth 20000 in
theorem gX9_unpeg_X9_refuse : GoodIn wsX9_unpeg (wsV RX9 79 RX9 yX9_refuse wsX9_refuse) := goodIn_app (goodIn_of _ (by decide +kernel)) ggX9_unpeg_X9_refuse
theorem dX9_unpeg_0 : decode cX9_unpeg 0 = .ok (.aload_n 0, 1) := by decide +kernel
theorem dX9_unpeg_1 : decode cX9_unpeg 1 = .ok (.getfield 104, 3) := by decide +kernel
theorem dX9_unpeg_4 : decode cX9_unpeg 4 = .ok (.ifCond .ne 10, 3) := by decide +kernel
theorem dX9_unpeg_7 : decode cX9_unpeg 7 = .ok (.aload_n 0, 1) := by decide +kernel
theorem dX9_unpeg_8 : decode cX9_unpeg 8 = .ok (.bipush (-3), 2) := by decide +kernel
theorem dX9_unpeg_10 : decode cX9_unpeg 10 = .ok (.invokevirtual 79, 3) := by decide +kernel
theorem dX9_unpeg_13 : decode cX9_unpeg 13 = .ok (.ireturn, 1) := by decide +kernel
theorem dX9_unpeg_14 : decode cX9_unpeg 14 = .ok (.aload_n 0, 1) := by decide +kernel
theorem dX9_unpeg_15 : decode cX9_unpeg 15 = .ok (.dup, 1) := by decide +kernel
theorem dX9_unpeg_16 : decode cX9_unpeg 16 = .ok (.getfield 104, 3) := by decide +kernel
theorem dX9_unpeg_19 : decode cX9_unpeg 19 = .ok (.iconst 1, 1) := by decide +kernel
theorem dX9_unpeg_20 : decode cX9_unpeg 20 = .ok (.isub, 1) := by decide +kernel
theorem dX9_unpeg_21 : decode cX9_unpeg 21 = .ok (.putfield 104, 3) := by decide +kernel
theorem dX9_unpeg_24 : decode cX9_unpeg 24 = .ok (.aload_n 0, 1) := by decide +kernel
theorem dX9_unpeg_25 : decode cX9_unpeg 25 = .ok (.getfield 104, 3) := by decide +kernel
theorem dX9_unpeg_28 : decode cX9_unpeg 28 = .ok (.ireturn, 1) := by decide +kernel
set_option maxRecDepth 20000 in
theorem ggX9_advance_X9_refuse : GoodIn wsX9_advance wsX9_refuse := goodIn_r _ [6, 7, 8, 9, 10, 11, 12, 13, 14, 15, 16, 17, 18, 19, 20, 21, 22, 23, 24, 25, 26, 27, 28, 29, 30, 31, 32, 33, 34, 35, 36, 37, 38, 39] (by decide +kernel) (by decide +kernel)
set_option maxRecDepth 20000 in
theorem gX9_advance_X9_refuse : GoodIn wsX9_advance (wsV RX9 79 RX9 yX9_refuse wsX9_refuse) := goodIn_app (goodIn_of _ (by decide +kernel)) ggX9_advance_X9_refuse
theorem dX9_advance_0 : decode cX9_advance 0 = .ok (.iload_n 1, 1) := by decide +kernel
theorem dX9_advance_1 : decode cX9_advance 1 = .ok (.ifCond .ge 10, 3) := by decide +kernel
theorem dX9_advance_4 : decode cX9_advance 4 = .ok (.aload_n 0, 1) := by decide +kernel
theorem dX9_advance_5 : decode cX9_advance 5 = .ok (.bipush (-4), 2) := by decide +kernel
theorem dX9_advance_7 : decode cX9_advance 7 = .ok (.invokevirtual 79, 3) := by decide +kernel
theorem dX9_advance_10 : decode cX9_advance 10 = .ok (.ireturn, 1) := by decide +kernel
theorem dX9_advance_11 : decode cX9_advance 11 = .ok (.iload_n 1, 1) := by decide +kernel
theorem dX9_advance_12 : decode cX9_advance 12 = .ok (.bipush 9, 2) := by decide +kernel
theorem dX9_advance_14 : decode cX9_advance 14 = .ok (.if_icmp .le 10, 3) := by decide +kernel
theorem dX9_advance_17 : decode cX9_advance 17 = .ok (.aload_n 0, 1) := by decide +kernel
theorem dX9_advance_18 : decode cX9_advance 18 = .ok (.bipush (-6), 2) := by decide +kernel
theorem dX9_advance_20 : decode cX9_advance 20 = .ok (.invokevirtual 79, 3) := by decide +kernel
theorem dX9_advance_23 : decode cX9_advance 23 = .ok (.ireturn, 1) := by decide +kernel
theorem dX9_advance_24 : decode cX9_advance 24 = .ok (.aload_n 0, 1) := by decide +kernel
theorem dX9_advance_25 : decode cX9_advance 25 = .ok (.getfield 33, 3) := by decide +kernel
theorem dX9_advance_28 : decode cX9_advance 28 = .ok (.istore_n 2, 1) := by decide +kernel
theorem dX9_advance_29 : decode cX9_advance 29 = .ok (.aload_n 0, 1) := by decide +kernel
theorem dX9_advance_30 : decode cX9_advance 30 = .ok (.iload_n 1, 1) := by decide +kernel
theorem dX9_advance_31 : decode cX9_advance 31 = .ok (.putfield 33, 3) := by decide +kernel
theorem dX9_advance_34 : decode cX9_advance 34 = .ok (.iload_n 2, 1) := by decide +kernel
theorem dX9_advance_35 : decode cX9_advance 35 = .ok (.ireturn, 1) := by decide +kernel
set_option maxRecDepth 20000 in
theorem ggX9_pull_X9_refuse : GoodIn wsX9_pull wsX9_refuse := goodIn_r _ [6, 7, 8, 9, 10, 11, 12, 13, 14, 15, 16, 17, 18, 19, 20, 21, 22, 23, 24, 25, 26, 27, 28, 29, 30, 31, 32, 33, 34, 35, 36, 37, 38, 39] (by decide +kernel) (by decide +kernel)
set_option maxRecDepth 20000 in
theorem gX9_pull_X9_refuse : GoodIn wsX9_pull (wsV RX9 79 RX9 yX9_refuse wsX9_refuse) := goodIn_app (goodIn_of _ (by decide +kernel)) ggX9_pull_X9_refuse
theorem dX9_pull_0 : decode cX9_pull 0 = .ok (.iload_n 1, 1) := by decide +kernel
theorem dX9_pull_1 : decode cX9_pull 1 = .ok (.iconst 1, 1) := by decide +kernel
theorem dX9_pull_2 : decode cX9_pull 2 = .ok (.if_icmp .ge 10, 3) := by decide +kernel
theorem dX9_pull_5 : decode cX9_pull 5 = .ok (.aload_n 0, 1) := by decide +kernel
theorem dX9_pull_6 : decode cX9_pull 6 = .ok (.bipush (-4), 2) := by decide +kernel
theorem dX9_pull_8 : decode cX9_pull 8 = .ok (.invokevirtual 79, 3) := by decide +kernel
theorem dX9_pull_11 : decode cX9_pull 11 = .ok (.ireturn, 1) := by decide +kernel
theorem dX9_pull_12 : decode cX9_pull 12 = .ok (.iload_n 1, 1) := by decide +kernel
theorem dX9_pull_13 : decode cX9_pull 13 = .ok (.bipush 20, 2) := by decide +kernel
theorem dX9_pull_15 : decode cX9_pull 15 = .ok (.if_icmp .le 10, 3) := by decide +kernel
theorem dX9_pull_18 : decode cX9_pull 18 = .ok (.aload_n 0, 1) := by decide +kernel
theorem dX9_pull_19 : decode cX9_pull 19 = .ok (.bipush (-6), 2) := by decide +kernel
theorem dX9_pull_21 : decode cX9_pull 21 = .ok (.invokevirtual 79, 3) := by decide +kernel
theorem dX9_pull_24 : decode cX9_pull 24 = .ok (.ireturn, 1) := by decide +kernel
theorem dX9_pull_25 : decode cX9_pull 25 = .ok (.aload_n 0, 1) := by decide +kernel
theorem dX9_pull_26 : decode cX9_pull 26 = .ok (.getfield 36, 3) := by decide +kernel
theorem dX9_pull_29 : decode cX9_pull 29 = .ok (.istore_n 2, 1) := by decide +kernel
theorem dX9_pull_30 : decode cX9_pull 30 = .ok (.aload_n 0, 1) := by decide +kernel
theorem dX9_pull_31 : decode cX9_pull 31 = .ok (.iload_n 1, 1) := by decide +kernel
theorem dX9_pull_32 : decode cX9_pull 32 = .ok (.putfield 36, 3) := by decide +kernel
theorem dX9_pull_35 : decode cX9_pull 35 = .ok (.iload_n 2, 1) := by decide +kernel
theorem dX9_pull_36 : decode cX9_pull 36 = .ok (.ireturn, 1) := by decide +kernel
set_option maxRecDepth 20000 in
theorem ggX9_wind_X9_refuse : GoodIn wsX9_wind wsX9_refuse := goodIn_r _ [7, 8, 9, 10, 11, 12, 13, 14, 15, 16, 17, 18, 19, 20, 21, 22, 23, 24, 25, 26, 27, 28, 29, 30, 31, 32, 33, 34, 35, 36, 37, 38, 39, 40] (by decide +kernel) (by decide +kernel)
set_option maxRecDepth 20000 in
theorem gX9_wind_X9_refuse : GoodIn wsX9_wind (wsV RX9 79 RX9 yX9_refuse wsX9_refuse) := goodIn_app (goodIn_of _ (by decide +kernel)) ggX9_wind_X9_refuse
theorem dX9_wind_0 : decode cX9_wind 0 = .ok (.iload_n 1, 1) := by decide +kernel
theorem dX9_wind_1 : decode cX9_wind 1 = .ok (.ifCond .ge 10, 3) := by decide +kernel
theorem dX9_wind_4 : decode cX9_wind 4 = .ok (.aload_n 0, 1) := by decide +kernel
theorem dX9_wind_5 : decode cX9_wind 5 = .ok (.bipush (-4), 2) := by decide +kernel
theorem dX9_wind_7 : decode cX9_wind 7 = .ok (.invokevirtual 79, 3) := by decide +kernel
theorem dX9_wind_10 : decode cX9_wind 10 = .ok (.ireturn, 1) := by decide +kernel
theorem dX9_wind_11 : decode cX9_wind 11 = .ok (.iload_n 1, 1) := by decide +kernel
theorem dX9_wind_12 : decode cX9_wind 12 = .ok (.sipush 5000, 3) := by decide +kernel
theorem dX9_wind_15 : decode cX9_wind 15 = .ok (.if_icmp .le 10, 3) := by decide +kernel
theorem dX9_wind_18 : decode cX9_wind 18 = .ok (.aload_n 0, 1) := by decide +kernel
theorem dX9_wind_19 : decode cX9_wind 19 = .ok (.bipush (-6), 2) := by decide +kernel
theorem dX9_wind_21 : decode cX9_wind 21 = .ok (.invokevirtual 79, 3) := by decide +kernel
theorem dX9_wind_24 : decode cX9_wind 24 = .ok (.ireturn, 1) := by decide +kernel
theorem dX9_wind_25 : decode cX9_wind 25 = .ok (.aload_n 0, 1) := by decide +kernel
theorem dX9_wind_26 : decode cX9_wind 26 = .ok (.dup, 1) := by decide +kernel
theorem dX9_wind_27 : decode cX9_wind 27 = .ok (.getfield 107, 3) := by decide +kernel
theorem dX9_wind_30 : decode cX9_wind 30 = .ok (.iload_n 1, 1) := by decide +kernel
theorem dX9_wind_31 : decode cX9_wind 31 = .ok (.sipush 1000, 3) := by decide +kernel
theorem dX9_wind_34 : decode cX9_wind 34 = .ok (.aload_n 0, 1) := by decide +kernel
theorem dX9_wind_35 : decode cX9_wind 35 = .ok (.getfield 110, 3) := by decide +kernel
theorem dX9_wind_38 : decode cX9_wind 38 = .ok (.isub, 1) := by decide +kernel
theorem dX9_wind_39 : decode cX9_wind 39 = .ok (.if_icmp .le 7, 3) := by decide +kernel
theorem dX9_wind_42 : decode cX9_wind 42 = .ok (.iconst 1, 1) := by decide +kernel
theorem dX9_wind_43 : decode cX9_wind 43 = .ok (.goto 4, 3) := by decide +kernel
theorem dX9_wind_46 : decode cX9_wind 46 = .ok (.iconst 0, 1) := by decide +kernel
theorem dX9_wind_47 : decode cX9_wind 47 = .ok (.iadd, 1) := by decide +kernel
theorem dX9_wind_48 : decode cX9_wind 48 = .ok (.putfield 107, 3) := by decide +kernel
theorem dX9_wind_51 : decode cX9_wind 51 = .ok (.aload_n 0, 1) := by decide +kernel
theorem dX9_wind_52 : decode cX9_wind 52 = .ok (.iload_n 1, 1) := by decide +kernel
theorem dX9_wind_53 : decode cX9_wind 53 = .ok (.sipush 1000, 3) := by decide +kernel
theorem dX9_wind_56 : decode cX9_wind 56 = .ok (.aload_n 0, 1) := by decide +kernel
theorem dX9_wind_57 : decode cX9_wind 57 = .ok (.getfield 110, 3) := by decide +kernel
theorem dX9_wind_60 : decode cX9_wind 60 = .ok (.isub, 1) := by decide +kernel
theorem dX9_wind_61 : decode cX9_wind 61 = .ok (.if_icmp .le 9, 3) := by decide +kernel
theorem dX9_wind_64 : decode cX9_wind 64 = .ok (.sipush 1000, 3) := by decide +kernel
theorem dX9_wind_67 : decode cX9_wind 67 = .ok (.goto 9, 3) := by decide +kernel
theorem dX9_wind_70 : decode cX9_wind 70 = .ok (.aload_n 0, 1) := by decide +kernel
theorem dX9_wind_71 : decode cX9_wind 71 = .ok (.getfield 110, 3) := by decide +kernel
theorem dX9_wind_74 : decode cX9_wind 74 = .ok (.iload_n 1, 1) := by decide +kernel
theorem dX9_wind_75 : decode cX9_wind 75 = .ok (.iadd, 1) := by decide +kernel
theorem dX9_wind_76 : decode cX9_wind 76 = .ok (.putfield 110, 3) := by decide +kernel
theorem dX9_wind_79 : decode cX9_wind 79 = .ok (.aload_n 0, 1) := by decide +kernel
theorem dX9_wind_80 : decode cX9_wind 80 = .ok (.getfield 110, 3) := by decide +kernel
theorem dX9_wind_83 : decode cX9_wind 83 = .ok (.ireturn, 1) := by decide +kernel
theorem dX9_holdFaults_0 : decode cX9_holdFaults 0 = .ok (.aload_n 0, 1) := by decide +kernel
theorem dX9_holdFaults_1 : decode cX9_holdFaults 1 = .ok (.iload_n 1, 1) := by decide +kernel
theorem dX9_holdFaults_2 : decode cX9_holdFaults 2 = .ok (.putfield 113, 3) := by decide +kernel
theorem dX9_holdFaults_5 : decode cX9_holdFaults 5 = .ok (.aload_n 0, 1) := by decide +kernel
theorem dX9_holdFaults_6 : decode cX9_holdFaults 6 = .ok (.iload_n 2, 1) := by decide +kernel
theorem dX9_holdFaults_7 : decode cX9_holdFaults 7 = .ok (.putfield 116, 3) := by decide +kernel
theorem dX9_holdFaults_10 : decode cX9_holdFaults 10 = .ok (.aload_n 0, 1) := by decide +kernel
theorem dX9_holdFaults_11 : decode cX9_holdFaults 11 = .ok (.iload_n 3, 1) := by decide +kernel
theorem dX9_holdFaults_12 : decode cX9_holdFaults 12 = .ok (.putfield 119, 3) := by decide +kernel
theorem dX9_holdFaults_15 : decode cX9_holdFaults 15 = .ok (.return_, 1) := by decide +kernel
theorem dX9_heightOf_0 : decode cX9_heightOf 0 = .ok (.aload_n 0, 1) := by decide +kernel
theorem dX9_heightOf_1 : decode cX9_heightOf 1 = .ok (.getfield 17, 3) := by decide +kernel
theorem dX9_heightOf_4 : decode cX9_heightOf 4 = .ok (.bipush 16, 2) := by decide +kernel
theorem dX9_heightOf_6 : decode cX9_heightOf 6 = .ok (.iload_n 1, 1) := by decide +kernel
theorem dX9_heightOf_7 : decode cX9_heightOf 7 = .ok (.imul, 1) := by decide +kernel
theorem dX9_heightOf_8 : decode cX9_heightOf 8 = .ok (.iload_n 2, 1) := by decide +kernel
theorem dX9_heightOf_9 : decode cX9_heightOf 9 = .ok (.iadd, 1) := by decide +kernel
theorem dX9_heightOf_10 : decode cX9_heightOf 10 = .ok (.iaload, 1) := by decide +kernel
theorem dX9_heightOf_11 : decode cX9_heightOf 11 = .ok (.istore_n 3, 1) := by decide +kernel
theorem dX9_heightOf_12 : decode cX9_heightOf 12 = .ok (.iload_n 1, 1) := by decide +kernel
theorem dX9_heightOf_13 : decode cX9_heightOf 13 = .ok (.aload_n 0, 1) := by decide +kernel
theorem dX9_heightOf_14 : decode cX9_heightOf 14 = .ok (.getfield 113, 3) := by decide +kernel
theorem dX9_heightOf_17 : decode cX9_heightOf 17 = .ok (.if_icmp .ne 13, 3) := by decide +kernel
theorem dX9_heightOf_20 : decode cX9_heightOf 20 = .ok (.iload_n 3, 1) := by decide +kernel
theorem dX9_heightOf_21 : decode cX9_heightOf 21 = .ok (.ifCond .le 9, 3) := by decide +kernel
theorem dX9_heightOf_24 : decode cX9_heightOf 24 = .ok (.iload_n 3, 1) := by decide +kernel
theorem dX9_heightOf_25 : decode cX9_heightOf 25 = .ok (.iconst 1, 1) := by decide +kernel
theorem dX9_heightOf_26 : decode cX9_heightOf 26 = .ok (.isub, 1) := by decide +kernel
theorem dX9_heightOf_27 : decode cX9_heightOf 27 = .ok (.goto 4, 3) := by decide +kernel
theorem dX9_heightOf_30 : decode cX9_heightOf 30 = .ok (.iload_n 3, 1) := by decide +kernel
theorem dX9_heightOf_31 : decode cX9_heightOf 31 = .ok (.ireturn, 1) := by decide +kernel
set_option maxRecDepth 20000 in
theorem ggX9_xAt_X9_heightOf : GoodIn wsX9_xAt wsX9_heightOf := goodIn_r _ [9, 10, 11, 12, 13, 14, 15, 16, 17, 18, 19, 20, 21, 22, 23, 24, 25, 26, 27, 28, 29, 30, 31, 32, 33, 34, 35, 36, 37, 38, 39, 40, 41, 42, 43] (by decide +kernel) (by decide +kernel)
set_option maxRecDepth 20000 in
theorem gX9_xAt_X9_heightOf : GoodIn wsX9_xAt (wsV RX9 122 RX9 yX9_heightOf wsX9_heightOf) := goodIn_app (goodIn_of _ (by decide +kernel)) ggX9_xAt_X9_heightOf
theorem dX9_xAt_0 : decode cX9_xAt 0 = .ok (.iload_n 1, 1) := by decide +kernel
theorem dX9_xAt_1 : decode cX9_xAt 1 = .ok (.aload_n 0, 1) := by decide +kernel
theorem dX9_xAt_2 : decode cX9_xAt 2 = .ok (.getfield 33, 3) := by decide +kernel
theorem dX9_xAt_5 : decode cX9_xAt 5 = .ok (.imul, 1) := by decide +kernel
theorem dX9_xAt_6 : decode cX9_xAt 6 = .ok (.aload_n 0, 1) := by decide +kernel
theorem dX9_xAt_7 : decode cX9_xAt 7 = .ok (.aload_n 0, 1) := by decide +kernel
theorem dX9_xAt_8 : decode cX9_xAt 8 = .ok (.getfield 21, 3) := by decide +kernel
theorem dX9_xAt_11 : decode cX9_xAt 11 = .ok (.aload_n 0, 1) := by decide +kernel
theorem dX9_xAt_12 : decode cX9_xAt 12 = .ok (.getfield 30, 3) := by decide +kernel
theorem dX9_xAt_15 : decode cX9_xAt 15 = .ok (.iload_n 1, 1) := by decide +kernel
theorem dX9_xAt_16 : decode cX9_xAt 16 = .ok (.iaload, 1) := by decide +kernel
theorem dX9_xAt_17 : decode cX9_xAt 17 = .ok (.iaload, 1) := by decide +kernel
theorem dX9_xAt_18 : decode cX9_xAt 18 = .ok (.iload_n 2, 1) := by decide +kernel
theorem dX9_xAt_19 : decode cX9_xAt 19 = .ok (.invokevirtual 122, 3) := by decide +kernel
theorem dX9_xAt_22 : decode cX9_xAt 22 = .ok (.iadd, 1) := by decide +kernel
theorem dX9_xAt_23 : decode cX9_xAt 23 = .ok (.aload_n 0, 1) := by decide +kernel
theorem dX9_xAt_24 : decode cX9_xAt 24 = .ok (.getfield 119, 3) := by decide +kernel
theorem dX9_xAt_27 : decode cX9_xAt 27 = .ok (.ifCond .ne 7, 3) := by decide +kernel
theorem dX9_xAt_30 : decode cX9_xAt 30 = .ok (.iconst 1, 1) := by decide +kernel
theorem dX9_xAt_31 : decode cX9_xAt 31 = .ok (.goto 4, 3) := by decide +kernel
theorem dX9_xAt_34 : decode cX9_xAt 34 = .ok (.iconst 0, 1) := by decide +kernel
theorem dX9_xAt_35 : decode cX9_xAt 35 = .ok (.iadd, 1) := by decide +kernel
theorem dX9_xAt_36 : decode cX9_xAt 36 = .ok (.ireturn, 1) := by decide +kernel
set_option maxRecDepth 20000 in
theorem ggX9_yAt_X9_heightOf : GoodIn wsX9_yAt wsX9_heightOf := goodIn_r _ [8, 9, 10, 11, 12, 13, 14, 15, 16, 17, 18, 19, 20, 21, 22, 23, 24, 25, 26, 27, 28, 29, 30, 31, 32, 33, 34, 35, 36, 37, 38, 39, 40, 41, 42] (by decide +kernel) (by decide +kernel)
set_option maxRecDepth 20000 in
theorem gX9_yAt_X9_heightOf : GoodIn wsX9_yAt (wsV RX9 122 RX9 yX9_heightOf wsX9_heightOf) := goodIn_app (goodIn_of _ (by decide +kernel)) ggX9_yAt_X9_heightOf
theorem dX9_yAt_0 : decode cX9_yAt 0 = .ok (.aload_n 0, 1) := by decide +kernel
theorem dX9_yAt_1 : decode cX9_yAt 1 = .ok (.aload_n 0, 1) := by decide +kernel
theorem dX9_yAt_2 : decode cX9_yAt 2 = .ok (.getfield 24, 3) := by decide +kernel
theorem dX9_yAt_5 : decode cX9_yAt 5 = .ok (.aload_n 0, 1) := by decide +kernel
theorem dX9_yAt_6 : decode cX9_yAt 6 = .ok (.getfield 30, 3) := by decide +kernel
theorem dX9_yAt_9 : decode cX9_yAt 9 = .ok (.iload_n 1, 1) := by decide +kernel
theorem dX9_yAt_10 : decode cX9_yAt 10 = .ok (.iaload, 1) := by decide +kernel
theorem dX9_yAt_11 : decode cX9_yAt 11 = .ok (.iaload, 1) := by decide +kernel
theorem dX9_yAt_12 : decode cX9_yAt 12 = .ok (.iload_n 2, 1) := by decide +kernel
theorem dX9_yAt_13 : decode cX9_yAt 13 = .ok (.invokevirtual 122, 3) := by decide +kernel
theorem dX9_yAt_16 : decode cX9_yAt 16 = .ok (.aload_n 0, 1) := by decide +kernel
theorem dX9_yAt_17 : decode cX9_yAt 17 = .ok (.getfield 119, 3) := by decide +kernel
theorem dX9_yAt_20 : decode cX9_yAt 20 = .ok (.iconst 1, 1) := by decide +kernel
theorem dX9_yAt_21 : decode cX9_yAt 21 = .ok (.if_icmp .ne 7, 3) := by decide +kernel
theorem dX9_yAt_24 : decode cX9_yAt 24 = .ok (.iconst 1, 1) := by decide +kernel
theorem dX9_yAt_25 : decode cX9_yAt 25 = .ok (.goto 4, 3) := by decide +kernel
theorem dX9_yAt_28 : decode cX9_yAt 28 = .ok (.iconst 0, 1) := by decide +kernel
theorem dX9_yAt_29 : decode cX9_yAt 29 = .ok (.iadd, 1) := by decide +kernel
theorem dX9_yAt_30 : decode cX9_yAt 30 = .ok (.istore_n 3, 1) := by decide +kernel
theorem dX9_yAt_31 : decode cX9_yAt 31 = .ok (.iload_n 3, 1) := by decide +kernel
theorem dX9_yAt_32 : decode cX9_yAt 32 = .ok (.bipush 9, 2) := by decide +kernel
theorem dX9_yAt_34 : decode cX9_yAt 34 = .ok (.if_icmp .le 8, 3) := by decide +kernel
theorem dX9_yAt_37 : decode cX9_yAt 37 = .ok (.bipush 9, 2) := by decide +kernel
theorem dX9_yAt_39 : decode cX9_yAt 39 = .ok (.goto 4, 3) := by decide +kernel
theorem dX9_yAt_42 : decode cX9_yAt 42 = .ok (.iload_n 3, 1) := by decide +kernel
theorem dX9_yAt_43 : decode cX9_yAt 43 = .ok (.ireturn, 1) := by decide +kernel
set_option maxRecDepth 20000 in
theorem ggX9_isDown_X9_heightOf : GoodIn wsX9_isDown wsX9_heightOf := goodIn_r _ [7, 8, 9, 10, 11, 12, 13, 14, 15, 16, 17, 18, 19, 20, 21, 22, 23, 24, 25, 26, 27, 28, 29, 30, 31, 32, 33, 34, 35, 36, 37, 38, 39, 40, 41] (by decide +kernel) (by decide +kernel)
set_option maxRecDepth 20000 in
theorem gX9_isDown_X9_heightOf : GoodIn wsX9_isDown (wsV RX9 122 RX9 yX9_heightOf wsX9_heightOf) := goodIn_app (goodIn_of _ (by decide +kernel)) ggX9_isDown_X9_heightOf
theorem dX9_isDown_0 : decode cX9_isDown 0 = .ok (.aload_n 0, 1) := by decide +kernel
theorem dX9_isDown_1 : decode cX9_isDown 1 = .ok (.aload_n 0, 1) := by decide +kernel
theorem dX9_isDown_2 : decode cX9_isDown 2 = .ok (.getfield 27, 3) := by decide +kernel
theorem dX9_isDown_5 : decode cX9_isDown 5 = .ok (.aload_n 0, 1) := by decide +kernel
theorem dX9_isDown_6 : decode cX9_isDown 6 = .ok (.getfield 30, 3) := by decide +kernel
theorem dX9_isDown_9 : decode cX9_isDown 9 = .ok (.iload_n 1, 1) := by decide +kernel
theorem dX9_isDown_10 : decode cX9_isDown 10 = .ok (.iaload, 1) := by decide +kernel
theorem dX9_isDown_11 : decode cX9_isDown 11 = .ok (.iaload, 1) := by decide +kernel
theorem dX9_isDown_12 : decode cX9_isDown 12 = .ok (.iload_n 2, 1) := by decide +kernel
theorem dX9_isDown_13 : decode cX9_isDown 13 = .ok (.invokevirtual 122, 3) := by decide +kernel
theorem dX9_isDown_16 : decode cX9_isDown 16 = .ok (.ifCond .ne 7, 3) := by decide +kernel
theorem dX9_isDown_19 : decode cX9_isDown 19 = .ok (.iconst 1, 1) := by decide +kernel
theorem dX9_isDown_20 : decode cX9_isDown 20 = .ok (.goto 4, 3) := by decide +kernel
theorem dX9_isDown_23 : decode cX9_isDown 23 = .ok (.iconst 0, 1) := by decide +kernel
theorem dX9_isDown_24 : decode cX9_isDown 24 = .ok (.ireturn, 1) := by decide +kernel
theorem dX9_newMarks_0 : decode cX9_newMarks 0 = .ok (.iconst 0, 1) := by decide +kernel
theorem dX9_newMarks_1 : decode cX9_newMarks 1 = .ok (.istore_n 1, 1) := by decide +kernel
theorem dX9_newMarks_2 : decode cX9_newMarks 2 = .ok (.iload_n 1, 1) := by decide +kernel
theorem dX9_newMarks_3 : decode cX9_newMarks 3 = .ok (.sipush 1200, 3) := by decide +kernel
theorem dX9_newMarks_6 : decode cX9_newMarks 6 = .ok (.if_icmp .ge 23, 3) := by decide +kernel
theorem dX9_newMarks_9 : decode cX9_newMarks 9 = .ok (.aload_n 0, 1) := by decide +kernel
theorem dX9_newMarks_10 : decode cX9_newMarks 10 = .ok (.getfield 66, 3) := by decide +kernel
theorem dX9_newMarks_13 : decode cX9_newMarks 13 = .ok (.iload_n 1, 1) := by decide +kernel
theorem dX9_newMarks_14 : decode cX9_newMarks 14 = .ok (.iconst (-1), 1) := by decide +kernel
theorem dX9_newMarks_15 : decode cX9_newMarks 15 = .ok (.iastore, 1) := by decide +kernel
theorem dX9_newMarks_16 : decode cX9_newMarks 16 = .ok (.aload_n 0, 1) := by decide +kernel
theorem dX9_newMarks_17 : decode cX9_newMarks 17 = .ok (.getfield 69, 3) := by decide +kernel
theorem dX9_newMarks_20 : decode cX9_newMarks 20 = .ok (.iload_n 1, 1) := by decide +kernel
theorem dX9_newMarks_21 : decode cX9_newMarks 21 = .ok (.iconst (-1), 1) := by decide +kernel
theorem dX9_newMarks_22 : decode cX9_newMarks 22 = .ok (.iastore, 1) := by decide +kernel
theorem dX9_newMarks_23 : decode cX9_newMarks 23 = .ok (.iinc 1 1, 3) := by decide +kernel
theorem dX9_newMarks_26 : decode cX9_newMarks 26 = .ok (.goto (-24), 3) := by decide +kernel
theorem dX9_newMarks_29 : decode cX9_newMarks 29 = .ok (.return_, 1) := by decide +kernel
theorem dX9_mark_0 : decode cX9_mark 0 = .ok (.bipush 10, 2) := by decide +kernel
theorem dX9_mark_2 : decode cX9_mark 2 = .ok (.iload_n 1, 1) := by decide +kernel
theorem dX9_mark_3 : decode cX9_mark 3 = .ok (.imul, 1) := by decide +kernel
theorem dX9_mark_4 : decode cX9_mark 4 = .ok (.iload_n 2, 1) := by decide +kernel
theorem dX9_mark_5 : decode cX9_mark 5 = .ok (.iadd, 1) := by decide +kernel
theorem dX9_mark_6 : decode cX9_mark 6 = .ok (.istore 5, 2) := by decide +kernel
theorem dX9_mark_8 : decode cX9_mark 8 = .ok (.aload_n 0, 1) := by decide +kernel
theorem dX9_mark_9 : decode cX9_mark 9 = .ok (.getfield 66, 3) := by decide +kernel
theorem dX9_mark_12 : decode cX9_mark 12 = .ok (.iload 5, 2) := by decide +kernel
theorem dX9_mark_14 : decode cX9_mark 14 = .ok (.iaload, 1) := by decide +kernel
theorem dX9_mark_15 : decode cX9_mark 15 = .ok (.ifCond .ge 20, 3) := by decide +kernel
theorem dX9_mark_18 : decode cX9_mark 18 = .ok (.aload_n 0, 1) := by decide +kernel
theorem dX9_mark_19 : decode cX9_mark 19 = .ok (.getfield 66, 3) := by decide +kernel
theorem dX9_mark_22 : decode cX9_mark 22 = .ok (.iload 5, 2) := by decide +kernel
theorem dX9_mark_24 : decode cX9_mark 24 = .ok (.iload_n 3, 1) := by decide +kernel
theorem dX9_mark_25 : decode cX9_mark 25 = .ok (.iastore, 1) := by decide +kernel
theorem dX9_mark_26 : decode cX9_mark 26 = .ok (.aload_n 0, 1) := by decide +kernel
theorem dX9_mark_27 : decode cX9_mark 27 = .ok (.getfield 69, 3) := by decide +kernel
theorem dX9_mark_30 : decode cX9_mark 30 = .ok (.iload 5, 2) := by decide +kernel
theorem dX9_mark_32 : decode cX9_mark 32 = .ok (.iload 4, 2) := by decide +kernel
theorem dX9_mark_34 : decode cX9_mark 34 = .ok (.iastore, 1) := by decide +kernel
theorem dX9_mark_35 : decode cX9_mark 35 = .ok (.return_, 1) := by decide +kernel
theorem dX9_lower_0 : decode cX9_lower 0 = .ok (.iload_n 0, 1) := by decide +kernel
theorem dX9_lower_1 : decode cX9_lower 1 = .ok (.iload_n 1, 1) := by decide +kernel
theorem dX9_lower_2 : decode cX9_lower 2 = .ok (.idiv, 1) := by decide +kernel
theorem dX9_lower_3 : decode cX9_lower 3 = .ok (.istore_n 2, 1) := by decide +kernel
theorem dX9_lower_4 : decode cX9_lower 4 = .ok (.iload_n 0, 1) := by decide +kernel
theorem dX9_lower_5 : decode cX9_lower 5 = .ok (.iload_n 1, 1) := by decide +kernel
theorem dX9_lower_6 : decode cX9_lower 6 = .ok (.irem, 1) := by decide +kernel
theorem dX9_lower_7 : decode cX9_lower 7 = .ok (.ifCond .ge 9, 3) := by decide +kernel
theorem dX9_lower_10 : decode cX9_lower 10 = .ok (.iload_n 2, 1) := by decide +kernel
theorem dX9_lower_11 : decode cX9_lower 11 = .ok (.iconst 1, 1) := by decide +kernel
theorem dX9_lower_12 : decode cX9_lower 12 = .ok (.isub, 1) := by decide +kernel
theorem dX9_lower_13 : decode cX9_lower 13 = .ok (.goto 4, 3) := by decide +kernel
theorem dX9_lower_16 : decode cX9_lower 16 = .ok (.iload_n 2, 1) := by decide +kernel
theorem dX9_lower_17 : decode cX9_lower 17 = .ok (.ireturn, 1) := by decide +kernel
set_option maxRecDepth 20000 in
theorem ggX9_write_X9_isDown : GoodIn wsX9_write wsX9_isDown := goodIn_r _ [5, 6, 7, 8, 9, 10, 4, 11, 12, 13, 35, 36, 37, 38, 39, 40, 41, 42, 43, 44, 45, 46, 47, 48, 49, 50, 51, 52, 53, 54, 55, 56, 57, 58, 59, 60, 61, 62, 63, 64, 65, 66] (by decide +kernel) (by decide +kernel)
set_option maxRecDepth 20000 in
theorem gX9_write_X9_isDown : GoodIn wsX9_write (wsV RX9 125 RX9 yX9_isDown wsX9_isDown) := goodIn_app (goodIn_of _ (by decide +kernel)) ggX9_write_X9_isDown
set_option maxRecDepth 20000 in
theorem ggX9_write_X9_xAt : GoodIn wsX9_write wsX9_xAt := goodIn_r _ [17, 18, 19, 7, 20, 8, 9, 10, 4, 11, 12, 13, 35, 36, 37, 38, 39, 40, 41, 42, 43, 44, 45, 46, 47, 48, 49, 50, 51, 52, 53, 54, 55, 56, 57, 58, 59, 60, 61, 62, 63, 64, 65, 66] (by decide +kernel) (by decide +kernel)
set_option maxRecDepth 20000 in
theorem gX9_write_X9_xAt : GoodIn wsX9_write (wsV RX9 129 RX9 yX9_xAt wsX9_xAt) := goodIn_app (goodIn_of _ (by decide +kernel)) ggX9_write_X9_xAt
set_option maxRecDepth 20000 in
theorem ggX9_write_X9_yAt : GoodIn wsX9_write wsX9_yAt := goodIn_r _ [24, 25, 7, 20, 8, 9, 10, 4, 11, 12, 13, 35, 36, 37, 38, 39, 40, 41, 42, 43, 44, 45, 46, 47, 48, 49, 50, 51, 52, 53, 54, 55, 56, 57, 58, 59, 60, 61, 62, 63, 64, 65, 66] (by decide +kernel) (by decide +kernel)
set_option maxRecDepth 20000 in
theorem gX9_write_X9_yAt : GoodIn wsX9_write (wsV RX9 132 RX9 yX9_yAt wsX9_yAt) := goodIn_app (goodIn_of _ (by decide +kernel)) ggX9_write_X9_yAt
set_option maxRecDepth 20000 in
theorem ggX9_write_X9_mark : GoodIn wsX9_write wsX9_mark := goodIn_r _ [29, 30, 31, 35, 36, 37, 38, 39, 40, 41, 42, 43, 44, 45, 46, 47, 48, 49, 50, 51, 52, 53, 54, 55, 56, 57, 58, 59, 60, 61, 62, 63, 64, 65, 66] (by decide +kernel) (by decide +kernel)
set_option maxRecDepth 20000 in
theorem gX9_write_X9_mark : GoodIn wsX9_write (wsV RX9 135 RX9 yX9_mark wsX9_mark) := goodIn_app (goodIn_of _ (by decide +kernel)) ggX9_write_X9_mark
set_option maxRecDepth 20000 in
theorem ggX9_write_X9_lower : GoodIn wsX9_write wsX9_lower := goodIn_r _ [34] (by decide +kernel) (by decide +kernel)
set_option maxRecDepth 20000 in
theorem gX9_write_X9_lower : GoodIn wsX9_write (va_wsS RX9 139 yX9_lower wsX9_lower) := goodIn_app (goodIn_of _ (by decide +kernel)) ggX9_write_X9_lower
theorem dX9_write_0 : decode cX9_write 0 = .ok (.aload_n 0, 1) := by decide +kernel
theorem dX9_write_1 : decode cX9_write 1 = .ok (.iload_n 1, 1) := by decide +kernel
theorem dX9_write_2 : decode cX9_write 2 = .ok (.iload_n 2, 1) := by decide +kernel
theorem dX9_write_3 : decode cX9_write 3 = .ok (.invokevirtual 125, 3) := by decide +kernel
theorem dX9_write_6 : decode cX9_write 6 = .ok (.ifCond .ne 4, 3) := by decide +kernel
theorem dX9_write_9 : decode cX9_write 9 = .ok (.return_, 1) := by decide +kernel
theorem dX9_write_10 : decode cX9_write 10 = .ok (.aload_n 0, 1) := by decide +kernel
theorem dX9_write_11 : decode cX9_write 11 = .ok (.iload_n 1, 1) := by decide +kernel
theorem dX9_write_12 : decode cX9_write 12 = .ok (.iload_n 2, 1) := by decide +kernel
theorem dX9_write_13 : decode cX9_write 13 = .ok (.invokevirtual 129, 3) := by decide +kernel
theorem dX9_write_16 : decode cX9_write 16 = .ok (.istore_n 3, 1) := by decide +kernel
theorem dX9_write_17 : decode cX9_write 17 = .ok (.aload_n 0, 1) := by decide +kernel
theorem dX9_write_18 : decode cX9_write 18 = .ok (.iload_n 1, 1) := by decide +kernel
theorem dX9_write_19 : decode cX9_write 19 = .ok (.iload_n 2, 1) := by decide +kernel
theorem dX9_write_20 : decode cX9_write 20 = .ok (.invokevirtual 132, 3) := by decide +kernel
theorem dX9_write_23 : decode cX9_write 23 = .ok (.istore 4, 2) := by decide +kernel
theorem dX9_write_25 : decode cX9_write 25 = .ok (.aload_n 0, 1) := by decide +kernel
theorem dX9_write_26 : decode cX9_write 26 = .ok (.iload_n 3, 1) := by decide +kernel
theorem dX9_write_27 : decode cX9_write 27 = .ok (.iload 4, 2) := by decide +kernel
theorem dX9_write_29 : decode cX9_write 29 = .ok (.iload_n 1, 1) := by decide +kernel
theorem dX9_write_30 : decode cX9_write 30 = .ok (.iload_n 2, 1) := by decide +kernel
theorem dX9_write_31 : decode cX9_write 31 = .ok (.invokevirtual 135, 3) := by decide +kernel
theorem dX9_write_34 : decode cX9_write 34 = .ok (.iload_n 2, 1) := by decide +kernel
theorem dX9_write_35 : decode cX9_write 35 = .ok (.ifCond .le 155, 3) := by decide +kernel
theorem dX9_write_38 : decode cX9_write 38 = .ok (.aload_n 0, 1) := by decide +kernel
theorem dX9_write_39 : decode cX9_write 39 = .ok (.iload_n 1, 1) := by decide +kernel
theorem dX9_write_40 : decode cX9_write 40 = .ok (.iload_n 2, 1) := by decide +kernel
theorem dX9_write_41 : decode cX9_write 41 = .ok (.iconst 1, 1) := by decide +kernel
theorem dX9_write_42 : decode cX9_write 42 = .ok (.isub, 1) := by decide +kernel
theorem dX9_write_43 : decode cX9_write 43 = .ok (.invokevirtual 125, 3) := by decide +kernel
theorem dX9_write_46 : decode cX9_write 46 = .ok (.ifCond .eq 144, 3) := by decide +kernel
theorem dX9_write_49 : decode cX9_write 49 = .ok (.aload_n 0, 1) := by decide +kernel
theorem dX9_write_50 : decode cX9_write 50 = .ok (.iload_n 1, 1) := by decide +kernel
theorem dX9_write_51 : decode cX9_write 51 = .ok (.iload_n 2, 1) := by decide +kernel
theorem dX9_write_52 : decode cX9_write 52 = .ok (.iconst 1, 1) := by decide +kernel
theorem dX9_write_53 : decode cX9_write 53 = .ok (.isub, 1) := by decide +kernel
theorem dX9_write_54 : decode cX9_write 54 = .ok (.invokevirtual 129, 3) := by decide +kernel
theorem dX9_write_57 : decode cX9_write 57 = .ok (.istore 5, 2) := by decide +kernel
theorem dX9_write_59 : decode cX9_write 59 = .ok (.aload_n 0, 1) := by decide +kernel
theorem dX9_write_60 : decode cX9_write 60 = .ok (.iload_n 1, 1) := by decide +kernel
theorem dX9_write_61 : decode cX9_write 61 = .ok (.iload_n 2, 1) := by decide +kernel
theorem dX9_write_62 : decode cX9_write 62 = .ok (.iconst 1, 1) := by decide +kernel
theorem dX9_write_63 : decode cX9_write 63 = .ok (.isub, 1) := by decide +kernel
theorem dX9_write_64 : decode cX9_write 64 = .ok (.invokevirtual 132, 3) := by decide +kernel
theorem dX9_write_67 : decode cX9_write 67 = .ok (.istore 6, 2) := by decide +kernel
theorem dX9_write_69 : decode cX9_write 69 = .ok (.iload_n 3, 1) := by decide +kernel
theorem dX9_write_70 : decode cX9_write 70 = .ok (.iload 5, 2) := by decide +kernel
theorem dX9_write_72 : decode cX9_write 72 = .ok (.isub, 1) := by decide +kernel
theorem dX9_write_73 : decode cX9_write 73 = .ok (.istore 7, 2) := by decide +kernel
theorem dX9_write_75 : decode cX9_write 75 = .ok (.iload 4, 2) := by decide +kernel
theorem dX9_write_77 : decode cX9_write 77 = .ok (.iload 6, 2) := by decide +kernel
theorem dX9_write_79 : decode cX9_write 79 = .ok (.isub, 1) := by decide +kernel
theorem dX9_write_80 : decode cX9_write 80 = .ok (.istore 8, 2) := by decide +kernel
theorem dX9_write_82 : decode cX9_write 82 = .ok (.iload 7, 2) := by decide +kernel
theorem dX9_write_84 : decode cX9_write 84 = .ok (.ifCond .ge 9, 3) := by decide +kernel
theorem dX9_write_87 : decode cX9_write 87 = .ok (.iload 7, 2) := by decide +kernel
theorem dX9_write_89 : decode cX9_write 89 = .ok (.ineg, 1) := by decide +kernel
theorem dX9_write_90 : decode cX9_write 90 = .ok (.goto 5, 3) := by decide +kernel
theorem dX9_write_93 : decode cX9_write 93 = .ok (.iload 7, 2) := by decide +kernel
theorem dX9_write_95 : decode cX9_write 95 = .ok (.istore 9, 2) := by decide +kernel
theorem dX9_write_97 : decode cX9_write 97 = .ok (.iload 8, 2) := by decide +kernel
theorem dX9_write_99 : decode cX9_write 99 = .ok (.ifCond .ge 9, 3) := by decide +kernel
theorem dX9_write_102 : decode cX9_write 102 = .ok (.iload 8, 2) := by decide +kernel
theorem dX9_write_104 : decode cX9_write 104 = .ok (.ineg, 1) := by decide +kernel
theorem dX9_write_105 : decode cX9_write 105 = .ok (.goto 5, 3) := by decide +kernel
theorem dX9_write_108 : decode cX9_write 108 = .ok (.iload 8, 2) := by decide +kernel
theorem dX9_write_110 : decode cX9_write 110 = .ok (.istore 10, 2) := by decide +kernel
theorem dX9_write_112 : decode cX9_write 112 = .ok (.iload 9, 2) := by decide +kernel
theorem dX9_write_114 : decode cX9_write 114 = .ok (.iload 10, 2) := by decide +kernel
theorem dX9_write_116 : decode cX9_write 116 = .ok (.if_icmp .le 8, 3) := by decide +kernel
theorem dX9_write_119 : decode cX9_write 119 = .ok (.iload 9, 2) := by decide +kernel
theorem dX9_write_121 : decode cX9_write 121 = .ok (.goto 5, 3) := by decide +kernel
theorem dX9_write_124 : decode cX9_write 124 = .ok (.iload 10, 2) := by decide +kernel
theorem dX9_write_126 : decode cX9_write 126 = .ok (.istore 11, 2) := by decide +kernel
theorem dX9_write_128 : decode cX9_write 128 = .ok (.iconst 1, 1) := by decide +kernel
theorem dX9_write_129 : decode cX9_write 129 = .ok (.istore 12, 2) := by decide +kernel
theorem dX9_write_131 : decode cX9_write 131 = .ok (.iload 12, 2) := by decide +kernel
theorem dX9_write_133 : decode cX9_write 133 = .ok (.iload 11, 2) := by decide +kernel
theorem dX9_write_135 : decode cX9_write 135 = .ok (.if_icmp .ge 55, 3) := by decide +kernel
theorem dX9_write_138 : decode cX9_write 138 = .ok (.aload_n 0, 1) := by decide +kernel
theorem dX9_write_139 : decode cX9_write 139 = .ok (.iload 5, 2) := by decide +kernel
theorem dX9_write_141 : decode cX9_write 141 = .ok (.iconst 2, 1) := by decide +kernel
theorem dX9_write_142 : decode cX9_write 142 = .ok (.iload 12, 2) := by decide +kernel
theorem dX9_write_144 : decode cX9_write 144 = .ok (.imul, 1) := by decide +kernel
theorem dX9_write_145 : decode cX9_write 145 = .ok (.iload 7, 2) := by decide +kernel
theorem dX9_write_147 : decode cX9_write 147 = .ok (.imul, 1) := by decide +kernel
theorem dX9_write_148 : decode cX9_write 148 = .ok (.iload 11, 2) := by decide +kernel
theorem dX9_write_150 : decode cX9_write 150 = .ok (.iadd, 1) := by decide +kernel
theorem dX9_write_151 : decode cX9_write 151 = .ok (.iconst 2, 1) := by decide +kernel
theorem dX9_write_152 : decode cX9_write 152 = .ok (.iload 11, 2) := by decide +kernel
theorem dX9_write_154 : decode cX9_write 154 = .ok (.imul, 1) := by decide +kernel
theorem dX9_write_155 : decode cX9_write 155 = .ok (.invokestatic 139, 3) := by decide +kernel
theorem dX9_write_158 : decode cX9_write 158 = .ok (.iadd, 1) := by decide +kernel
theorem dX9_write_159 : decode cX9_write 159 = .ok (.iload 6, 2) := by decide +kernel
theorem dX9_write_161 : decode cX9_write 161 = .ok (.iconst 2, 1) := by decide +kernel
theorem dX9_write_162 : decode cX9_write 162 = .ok (.iload 12, 2) := by decide +kernel
theorem dX9_write_164 : decode cX9_write 164 = .ok (.imul, 1) := by decide +kernel
theorem dX9_write_165 : decode cX9_write 165 = .ok (.iload 8, 2) := by decide +kernel
theorem dX9_write_167 : decode cX9_write 167 = .ok (.imul, 1) := by decide +kernel
theorem dX9_write_168 : decode cX9_write 168 = .ok (.iload 11, 2) := by decide +kernel
theorem dX9_write_170 : decode cX9_write 170 = .ok (.iadd, 1) := by decide +kernel
theorem dX9_write_171 : decode cX9_write 171 = .ok (.iconst 2, 1) := by decide +kernel
theorem dX9_write_172 : decode cX9_write 172 = .ok (.iload 11, 2) := by decide +kernel
theorem dX9_write_174 : decode cX9_write 174 = .ok (.imul, 1) := by decide +kernel
theorem dX9_write_175 : decode cX9_write 175 = .ok (.invokestatic 139, 3) := by decide +kernel
theorem dX9_write_178 : decode cX9_write 178 = .ok (.iadd, 1) := by decide +kernel
theorem dX9_write_179 : decode cX9_write 179 = .ok (.iload_n 1, 1) := by decide +kernel
theorem dX9_write_180 : decode cX9_write 180 = .ok (.iload_n 2, 1) := by decide +kernel
theorem dX9_write_181 : decode cX9_write 181 = .ok (.invokevirtual 135, 3) := by decide +kernel
theorem dX9_write_184 : decode cX9_write 184 = .ok (.iinc 12 1, 3) := by decide +kernel
theorem dX9_write_187 : decode cX9_write 187 = .ok (.goto (-56), 3) := by decide +kernel
theorem dX9_write_190 : decode cX9_write 190 = .ok (.return_, 1) := by decide +kernel
set_option maxRecDepth 20000 in
theorem ggX9_areCut_X9_isCutLetter : GoodIn wsX9_areCut wsX9_isCutLetter := goodIn_r _ [7, 8, 9, 10, 11, 12, 13, 14, 15, 16, 17, 18, 19, 20, 21, 22, 23, 24, 25, 26, 27, 28, 29, 30, 31, 32, 33, 34, 35, 36, 37, 38, 39, 40, 41, 42, 43] (by decide +kernel) (by decide +kernel)
set_option maxRecDepth 20000 in
theorem gX9_areCut_X9_isCutLetter : GoodIn wsX9_areCut (wsV RX9 101 RX9 yX9_isCutLetter wsX9_isCutLetter) := goodIn_app (goodIn_of _ (by decide +kernel)) ggX9_areCut_X9_isCutLetter
theorem dX9_areCut_0 : decode cX9_areCut 0 = .ok (.iconst 1, 1) := by decide +kernel
theorem dX9_areCut_1 : decode cX9_areCut 1 = .ok (.istore_n 1, 1) := by decide +kernel
theorem dX9_areCut_2 : decode cX9_areCut 2 = .ok (.iconst 0, 1) := by decide +kernel
theorem dX9_areCut_3 : decode cX9_areCut 3 = .ok (.istore_n 2, 1) := by decide +kernel
theorem dX9_areCut_4 : decode cX9_areCut 4 = .ok (.iload_n 2, 1) := by decide +kernel
theorem dX9_areCut_5 : decode cX9_areCut 5 = .ok (.aload_n 0, 1) := by decide +kernel
theorem dX9_areCut_6 : decode cX9_areCut 6 = .ok (.getfield 104, 3) := by decide +kernel
theorem dX9_areCut_9 : decode cX9_areCut 9 = .ok (.if_icmp .ge 32, 3) := by decide +kernel
theorem dX9_areCut_12 : decode cX9_areCut 12 = .ok (.iload_n 1, 1) := by decide +kernel
theorem dX9_areCut_13 : decode cX9_areCut 13 = .ok (.ifCond .eq 20, 3) := by decide +kernel
theorem dX9_areCut_16 : decode cX9_areCut 16 = .ok (.aload_n 0, 1) := by decide +kernel
theorem dX9_areCut_17 : decode cX9_areCut 17 = .ok (.aload_n 0, 1) := by decide +kernel
theorem dX9_areCut_18 : decode cX9_areCut 18 = .ok (.getfield 30, 3) := by decide +kernel
theorem dX9_areCut_21 : decode cX9_areCut 21 = .ok (.iload_n 2, 1) := by decide +kernel
theorem dX9_areCut_22 : decode cX9_areCut 22 = .ok (.iaload, 1) := by decide +kernel
theorem dX9_areCut_23 : decode cX9_areCut 23 = .ok (.invokevirtual 101, 3) := by decide +kernel
theorem dX9_areCut_26 : decode cX9_areCut 26 = .ok (.ifCond .eq 7, 3) := by decide +kernel
theorem dX9_areCut_29 : decode cX9_areCut 29 = .ok (.iconst 1, 1) := by decide +kernel
theorem dX9_areCut_30 : decode cX9_areCut 30 = .ok (.goto 4, 3) := by decide +kernel
theorem dX9_areCut_33 : decode cX9_areCut 33 = .ok (.iconst 0, 1) := by decide +kernel
theorem dX9_areCut_34 : decode cX9_areCut 34 = .ok (.istore_n 1, 1) := by decide +kernel
theorem dX9_areCut_35 : decode cX9_areCut 35 = .ok (.iinc 2 1, 3) := by decide +kernel
theorem dX9_areCut_38 : decode cX9_areCut 38 = .ok (.goto (-34), 3) := by decide +kernel
theorem dX9_areCut_41 : decode cX9_areCut 41 = .ok (.iload_n 1, 1) := by decide +kernel
theorem dX9_areCut_42 : decode cX9_areCut 42 = .ok (.ireturn, 1) := by decide +kernel
set_option maxRecDepth 20000 in
theorem ggX9_show_X9_areCut : GoodIn wsX9_show wsX9_areCut := goodIn_r _ [20, 3, 21, 22, 23, 24, 19, 25, 26, 27, 28, 29, 74, 75, 76, 77, 78, 79, 80, 81, 82, 83, 84, 85, 86, 87, 88, 89, 90, 91, 92, 93, 94, 95, 96, 97, 98, 99, 100, 101, 102, 103, 104, 105] (by decide +kernel) (by decide +kernel)
set_option maxRecDepth 20000 in
theorem gX9_show_X9_areCut : GoodIn wsX9_show (wsV RX9 142 RX9 yX9_areCut wsX9_areCut) := goodIn_app (goodIn_of _ (by decide +kernel)) ggX9_show_X9_areCut
set_option maxRecDepth 20000 in
theorem ggX9_show_X9_refuse : GoodIn wsX9_show wsX9_refuse := goodIn_r _ [33, 34, 74, 75, 76, 77, 78, 79, 80, 81, 82, 83, 84, 85, 86, 87, 88, 89, 90, 91, 92, 93, 94, 95, 96, 97, 98, 99, 100, 101, 102, 103, 104, 105] (by decide +kernel) (by decide +kernel)
set_option maxRecDepth 20000 in
theorem gX9_show_X9_refuse : GoodIn wsX9_show (wsV RX9 79 RX9 yX9_refuse wsX9_refuse) := goodIn_app (goodIn_of _ (by decide +kernel)) ggX9_show_X9_refuse
set_option maxRecDepth 20000 in
theorem ggX9_show_X9_holdFaults : GoodIn wsX9_show wsX9_holdFaults := goodIn_r _ [38, 39, 5, 40, 74, 75, 76, 77, 78, 79, 80, 81, 82, 83, 84, 85, 86, 87, 88, 89, 90, 91, 92, 93, 94, 95, 96, 97, 98, 99, 100, 101, 102, 103, 104, 105] (by decide +kernel) (by decide +kernel)
set_option maxRecDepth 20000 in
theorem gX9_show_X9_holdFaults : GoodIn wsX9_show (wsV RX9 146 RX9 yX9_holdFaults wsX9_holdFaults) := goodIn_app (goodIn_of _ (by decide +kernel)) ggX9_show_X9_holdFaults
set_option maxRecDepth 20000 in
theorem ggX9_show_X9_newMarks : GoodIn wsX9_show wsX9_newMarks := goodIn_r _ [44, 13, 15, 74, 75, 76, 77, 78, 79, 80, 81, 82, 83, 84, 85, 86, 87, 88, 89, 90, 91, 92, 93, 94, 95, 96, 97, 98, 99, 100, 101, 102, 103, 104, 105] (by decide +kernel) (by decide +kernel)
set_option maxRecDepth 20000 in
theorem gX9_show_X9_newMarks : GoodIn wsX9_show (wsV RX9 150 RX9 yX9_newMarks wsX9_newMarks) := goodIn_app (goodIn_of _ (by decide +kernel)) ggX9_show_X9_newMarks
set_option maxRecDepth 20000 in
theorem ggX9_show_X9_write : GoodIn wsX9_show wsX9_write := goodIn_r _ [48, 49, 50, 51, 19, 52, 29, 21, 53, 54, 55, 56, 57, 39, 58, 59, 60, 61, 62, 27, 40, 63, 64, 65, 66, 28, 67, 68, 69, 70, 13, 15, 71, 72, 73, 74, 75, 76, 77, 78, 79, 80, 81, 82, 83, 84, 85, 86, 87, 88, 89, 90, 91, 92, 93, 94, 95, 96, 97, 98, 99, 100, 101, 102, 103, 104, 105] (by decide +kernel) (by decide +kernel)
set_option maxRecDepth 20000 in
theorem gX9_show_X9_write : GoodIn wsX9_show (wsV RX9 162 RX9 yX9_write wsX9_write) := goodIn_app (goodIn_of _ (by decide +kernel)) ggX9_show_X9_write
theorem dX9_show_0 : decode cX9_show 0 = .ok (.aload_n 0, 1) := by decide +kernel
theorem dX9_show_1 : decode cX9_show 1 = .ok (.invokevirtual 142, 3) := by decide +kernel
theorem dX9_show_4 : decode cX9_show 4 = .ok (.ifCond .ne 10, 3) := by decide +kernel
theorem dX9_show_7 : decode cX9_show 7 = .ok (.aload_n 0, 1) := by decide +kernel
theorem dX9_show_8 : decode cX9_show 8 = .ok (.bipush (-3), 2) := by decide +kernel
theorem dX9_show_10 : decode cX9_show 10 = .ok (.invokevirtual 79, 3) := by decide +kernel
theorem dX9_show_13 : decode cX9_show 13 = .ok (.ireturn, 1) := by decide +kernel
theorem dX9_show_14 : decode cX9_show 14 = .ok (.aload_n 0, 1) := by decide +kernel
theorem dX9_show_15 : decode cX9_show 15 = .ok (.aload_n 0, 1) := by decide +kernel
theorem dX9_show_16 : decode cX9_show 16 = .ok (.getfield 45, 3) := by decide +kernel
theorem dX9_show_19 : decode cX9_show 19 = .ok (.iconst 1, 1) := by decide +kernel
theorem dX9_show_20 : decode cX9_show 20 = .ok (.iaload, 1) := by decide +kernel
theorem dX9_show_21 : decode cX9_show 21 = .ok (.aload_n 0, 1) := by decide +kernel
theorem dX9_show_22 : decode cX9_show 22 = .ok (.getfield 45, 3) := by decide +kernel
theorem dX9_show_25 : decode cX9_show 25 = .ok (.iconst 2, 1) := by decide +kernel
theorem dX9_show_26 : decode cX9_show 26 = .ok (.iaload, 1) := by decide +kernel
theorem dX9_show_27 : decode cX9_show 27 = .ok (.aload_n 0, 1) := by decide +kernel
theorem dX9_show_28 : decode cX9_show 28 = .ok (.getfield 45, 3) := by decide +kernel
theorem dX9_show_31 : decode cX9_show 31 = .ok (.iconst 3, 1) := by decide +kernel
theorem dX9_show_32 : decode cX9_show 32 = .ok (.iaload, 1) := by decide +kernel
theorem dX9_show_33 : decode cX9_show 33 = .ok (.invokevirtual 146, 3) := by decide +kernel
theorem dX9_show_36 : decode cX9_show 36 = .ok (.aload_n 0, 1) := by decide +kernel
theorem dX9_show_37 : decode cX9_show 37 = .ok (.invokevirtual 150, 3) := by decide +kernel
theorem dX9_show_40 : decode cX9_show 40 = .ok (.aload_n 0, 1) := by decide +kernel
theorem dX9_show_41 : decode cX9_show 41 = .ok (.dup, 1) := by decide +kernel
theorem dX9_show_42 : decode cX9_show 42 = .ok (.getfield 153, 3) := by decide +kernel
theorem dX9_show_45 : decode cX9_show 45 = .ok (.iconst 1, 1) := by decide +kernel
theorem dX9_show_46 : decode cX9_show 46 = .ok (.iadd, 1) := by decide +kernel
theorem dX9_show_47 : decode cX9_show 47 = .ok (.putfield 153, 3) := by decide +kernel
theorem dX9_show_50 : decode cX9_show 50 = .ok (.iconst 0, 1) := by decide +kernel
theorem dX9_show_51 : decode cX9_show 51 = .ok (.istore_n 1, 1) := by decide +kernel
theorem dX9_show_52 : decode cX9_show 52 = .ok (.iconst 0, 1) := by decide +kernel
theorem dX9_show_53 : decode cX9_show 53 = .ok (.istore_n 2, 1) := by decide +kernel
theorem dX9_show_54 : decode cX9_show 54 = .ok (.iconst 0, 1) := by decide +kernel
theorem dX9_show_55 : decode cX9_show 55 = .ok (.istore_n 3, 1) := by decide +kernel
theorem dX9_show_56 : decode cX9_show 56 = .ok (.iload_n 3, 1) := by decide +kernel
theorem dX9_show_57 : decode cX9_show 57 = .ok (.aload_n 0, 1) := by decide +kernel
theorem dX9_show_58 : decode cX9_show 58 = .ok (.getfield 104, 3) := by decide +kernel
theorem dX9_show_61 : decode cX9_show 61 = .ok (.if_icmp .ge 169, 3) := by decide +kernel
theorem dX9_show_64 : decode cX9_show 64 = .ok (.iconst 0, 1) := by decide +kernel
theorem dX9_show_65 : decode cX9_show 65 = .ok (.istore 4, 2) := by decide +kernel
theorem dX9_show_67 : decode cX9_show 67 = .ok (.iload 4, 2) := by decide +kernel
theorem dX9_show_69 : decode cX9_show 69 = .ok (.aload_n 0, 1) := by decide +kernel
theorem dX9_show_70 : decode cX9_show 70 = .ok (.getfield 7, 3) := by decide +kernel
theorem dX9_show_73 : decode cX9_show 73 = .ok (.if_icmp .ge 151, 3) := by decide +kernel
theorem dX9_show_76 : decode cX9_show 76 = .ok (.iload_n 3, 1) := by decide +kernel
theorem dX9_show_77 : decode cX9_show 77 = .ok (.aload_n 0, 1) := by decide +kernel
theorem dX9_show_78 : decode cX9_show 78 = .ok (.getfield 116, 3) := by decide +kernel
theorem dX9_show_81 : decode cX9_show 81 = .ok (.if_icmp .eq 143, 3) := by decide +kernel
theorem dX9_show_84 : decode cX9_show 84 = .ok (.iload_n 2, 1) := by decide +kernel
theorem dX9_show_85 : decode cX9_show 85 = .ok (.ifCond .ne 139, 3) := by decide +kernel
theorem dX9_show_88 : decode cX9_show 88 = .ok (.aload_n 0, 1) := by decide +kernel
theorem dX9_show_89 : decode cX9_show 89 = .ok (.getfield 110, 3) := by decide +kernel
theorem dX9_show_92 : decode cX9_show 92 = .ok (.aload_n 0, 1) := by decide +kernel
theorem dX9_show_93 : decode cX9_show 93 = .ok (.getfield 36, 3) := by decide +kernel
theorem dX9_show_96 : decode cX9_show 96 = .ok (.aload_n 0, 1) := by decide +kernel
theorem dX9_show_97 : decode cX9_show 97 = .ok (.getfield 156, 3) := by decide +kernel
theorem dX9_show_100 : decode cX9_show 100 = .ok (.iadd, 1) := by decide +kernel
theorem dX9_show_101 : decode cX9_show 101 = .ok (.if_icmp .ge 8, 3) := by decide +kernel
theorem dX9_show_104 : decode cX9_show 104 = .ok (.iconst 1, 1) := by decide +kernel
theorem dX9_show_105 : decode cX9_show 105 = .ok (.istore_n 2, 1) := by decide +kernel
theorem dX9_show_106 : decode cX9_show 106 = .ok (.goto 112, 3) := by decide +kernel
theorem dX9_show_109 : decode cX9_show 109 = .ok (.aload_n 0, 1) := by decide +kernel
theorem dX9_show_110 : decode cX9_show 110 = .ok (.dup, 1) := by decide +kernel
theorem dX9_show_111 : decode cX9_show 111 = .ok (.getfield 159, 3) := by decide +kernel
theorem dX9_show_114 : decode cX9_show 114 = .ok (.aload_n 0, 1) := by decide +kernel
theorem dX9_show_115 : decode cX9_show 115 = .ok (.getfield 110, 3) := by decide +kernel
theorem dX9_show_118 : decode cX9_show 118 = .ok (.sipush 500, 3) := by decide +kernel
theorem dX9_show_121 : decode cX9_show 121 = .ok (.if_icmp .lt 7, 3) := by decide +kernel
theorem dX9_show_124 : decode cX9_show 124 = .ok (.iconst 1, 1) := by decide +kernel
theorem dX9_show_125 : decode cX9_show 125 = .ok (.goto 18, 3) := by decide +kernel
theorem dX9_show_128 : decode cX9_show 128 = .ok (.aload_n 0, 1) := by decide +kernel
theorem dX9_show_129 : decode cX9_show 129 = .ok (.getfield 110, 3) := by decide +kernel
theorem dX9_show_132 : decode cX9_show 132 = .ok (.sipush 200, 3) := by decide +kernel
theorem dX9_show_135 : decode cX9_show 135 = .ok (.if_icmp .lt 7, 3) := by decide +kernel
theorem dX9_show_138 : decode cX9_show 138 = .ok (.iconst 2, 1) := by decide +kernel
theorem dX9_show_139 : decode cX9_show 139 = .ok (.goto 4, 3) := by decide +kernel
theorem dX9_show_142 : decode cX9_show 142 = .ok (.iconst 4, 1) := by decide +kernel
theorem dX9_show_143 : decode cX9_show 143 = .ok (.iadd, 1) := by decide +kernel
theorem dX9_show_144 : decode cX9_show 144 = .ok (.putfield 159, 3) := by decide +kernel
theorem dX9_show_147 : decode cX9_show 147 = .ok (.aload_n 0, 1) := by decide +kernel
theorem dX9_show_148 : decode cX9_show 148 = .ok (.dup, 1) := by decide +kernel
theorem dX9_show_149 : decode cX9_show 149 = .ok (.getfield 110, 3) := by decide +kernel
theorem dX9_show_152 : decode cX9_show 152 = .ok (.aload_n 0, 1) := by decide +kernel
theorem dX9_show_153 : decode cX9_show 153 = .ok (.getfield 36, 3) := by decide +kernel
theorem dX9_show_156 : decode cX9_show 156 = .ok (.aload_n 0, 1) := by decide +kernel
theorem dX9_show_157 : decode cX9_show 157 = .ok (.getfield 156, 3) := by decide +kernel
theorem dX9_show_160 : decode cX9_show 160 = .ok (.iadd, 1) := by decide +kernel
theorem dX9_show_161 : decode cX9_show 161 = .ok (.isub, 1) := by decide +kernel
theorem dX9_show_162 : decode cX9_show 162 = .ok (.putfield 110, 3) := by decide +kernel
theorem dX9_show_165 : decode cX9_show 165 = .ok (.aload_n 0, 1) := by decide +kernel
theorem dX9_show_166 : decode cX9_show 166 = .ok (.iload_n 3, 1) := by decide +kernel
theorem dX9_show_167 : decode cX9_show 167 = .ok (.iload 4, 2) := by decide +kernel
theorem dX9_show_169 : decode cX9_show 169 = .ok (.invokevirtual 162, 3) := by decide +kernel
theorem dX9_show_172 : decode cX9_show 172 = .ok (.iinc 1 1, 3) := by decide +kernel
theorem dX9_show_175 : decode cX9_show 175 = .ok (.aload_n 0, 1) := by decide +kernel
theorem dX9_show_176 : decode cX9_show 176 = .ok (.dup, 1) := by decide +kernel
theorem dX9_show_177 : decode cX9_show 177 = .ok (.getfield 166, 3) := by decide +kernel
theorem dX9_show_180 : decode cX9_show 180 = .ok (.iconst 1, 1) := by decide +kernel
theorem dX9_show_181 : decode cX9_show 181 = .ok (.iadd, 1) := by decide +kernel
theorem dX9_show_182 : decode cX9_show 182 = .ok (.putfield 166, 3) := by decide +kernel
theorem dX9_show_185 : decode cX9_show 185 = .ok (.aload_n 0, 1) := by decide +kernel
theorem dX9_show_186 : decode cX9_show 186 = .ok (.dup, 1) := by decide +kernel
theorem dX9_show_187 : decode cX9_show 187 = .ok (.getfield 156, 3) := by decide +kernel
theorem dX9_show_190 : decode cX9_show 190 = .ok (.aload_n 0, 1) := by decide +kernel
theorem dX9_show_191 : decode cX9_show 191 = .ok (.getfield 166, 3) := by decide +kernel
theorem dX9_show_194 : decode cX9_show 194 = .ok (.bipush 100, 2) := by decide +kernel
theorem dX9_show_196 : decode cX9_show 196 = .ok (.irem, 1) := by decide +kernel
theorem dX9_show_197 : decode cX9_show 197 = .ok (.ifCond .ne 16, 3) := by decide +kernel
theorem dX9_show_200 : decode cX9_show 200 = .ok (.aload_n 0, 1) := by decide +kernel
theorem dX9_show_201 : decode cX9_show 201 = .ok (.getfield 156, 3) := by decide +kernel
theorem dX9_show_204 : decode cX9_show 204 = .ok (.bipush 20, 2) := by decide +kernel
theorem dX9_show_206 : decode cX9_show 206 = .ok (.if_icmp .ge 7, 3) := by decide +kernel
theorem dX9_show_209 : decode cX9_show 209 = .ok (.iconst 1, 1) := by decide +kernel
theorem dX9_show_210 : decode cX9_show 210 = .ok (.goto 4, 3) := by decide +kernel
theorem dX9_show_213 : decode cX9_show 213 = .ok (.iconst 0, 1) := by decide +kernel
theorem dX9_show_214 : decode cX9_show 214 = .ok (.iadd, 1) := by decide +kernel
theorem dX9_show_215 : decode cX9_show 215 = .ok (.putfield 156, 3) := by decide +kernel
theorem dX9_show_218 : decode cX9_show 218 = .ok (.iinc 4 1, 3) := by decide +kernel
theorem dX9_show_221 : decode cX9_show 221 = .ok (.goto (-154), 3) := by decide +kernel
theorem dX9_show_224 : decode cX9_show 224 = .ok (.iinc 3 1, 3) := by decide +kernel
theorem dX9_show_227 : decode cX9_show 227 = .ok (.goto (-171), 3) := by decide +kernel
theorem dX9_show_230 : decode cX9_show 230 = .ok (.aload_n 0, 1) := by decide +kernel
theorem dX9_show_231 : decode cX9_show 231 = .ok (.dup, 1) := by decide +kernel
theorem dX9_show_232 : decode cX9_show 232 = .ok (.getfield 169, 3) := by decide +kernel
theorem dX9_show_235 : decode cX9_show 235 = .ok (.iload_n 2, 1) := by decide +kernel
theorem dX9_show_236 : decode cX9_show 236 = .ok (.ifCond .eq 7, 3) := by decide +kernel
theorem dX9_show_239 : decode cX9_show 239 = .ok (.iconst 0, 1) := by decide +kernel
theorem dX9_show_240 : decode cX9_show 240 = .ok (.goto 4, 3) := by decide +kernel
theorem dX9_show_243 : decode cX9_show 243 = .ok (.iconst 1, 1) := by decide +kernel
theorem dX9_show_244 : decode cX9_show 244 = .ok (.iadd, 1) := by decide +kernel
theorem dX9_show_245 : decode cX9_show 245 = .ok (.putfield 169, 3) := by decide +kernel
theorem dX9_show_248 : decode cX9_show 248 = .ok (.iconst 0, 1) := by decide +kernel
theorem dX9_show_249 : decode cX9_show 249 = .ok (.istore_n 3, 1) := by decide +kernel
theorem dX9_show_250 : decode cX9_show 250 = .ok (.iload_n 3, 1) := by decide +kernel
theorem dX9_show_251 : decode cX9_show 251 = .ok (.sipush 1200, 3) := by decide +kernel
theorem dX9_show_254 : decode cX9_show 254 = .ok (.if_icmp .ge 33, 3) := by decide +kernel
theorem dX9_show_257 : decode cX9_show 257 = .ok (.aload_n 0, 1) := by decide +kernel
theorem dX9_show_258 : decode cX9_show 258 = .ok (.getfield 39, 3) := by decide +kernel
theorem dX9_show_261 : decode cX9_show 261 = .ok (.iload_n 3, 1) := by decide +kernel
theorem dX9_show_262 : decode cX9_show 262 = .ok (.aload_n 0, 1) := by decide +kernel
theorem dX9_show_263 : decode cX9_show 263 = .ok (.getfield 66, 3) := by decide +kernel
theorem dX9_show_266 : decode cX9_show 266 = .ok (.iload_n 3, 1) := by decide +kernel
theorem dX9_show_267 : decode cX9_show 267 = .ok (.iaload, 1) := by decide +kernel
theorem dX9_show_268 : decode cX9_show 268 = .ok (.iastore, 1) := by decide +kernel
theorem dX9_show_269 : decode cX9_show 269 = .ok (.aload_n 0, 1) := by decide +kernel
theorem dX9_show_270 : decode cX9_show 270 = .ok (.getfield 42, 3) := by decide +kernel
theorem dX9_show_273 : decode cX9_show 273 = .ok (.iload_n 3, 1) := by decide +kernel
theorem dX9_show_274 : decode cX9_show 274 = .ok (.aload_n 0, 1) := by decide +kernel
theorem dX9_show_275 : decode cX9_show 275 = .ok (.getfield 69, 3) := by decide +kernel
theorem dX9_show_278 : decode cX9_show 278 = .ok (.iload_n 3, 1) := by decide +kernel
theorem dX9_show_279 : decode cX9_show 279 = .ok (.iaload, 1) := by decide +kernel
theorem dX9_show_280 : decode cX9_show 280 = .ok (.iastore, 1) := by decide +kernel
theorem dX9_show_281 : decode cX9_show 281 = .ok (.iinc 3 1, 3) := by decide +kernel
theorem dX9_show_284 : decode cX9_show 284 = .ok (.goto (-34), 3) := by decide +kernel
theorem dX9_show_287 : decode cX9_show 287 = .ok (.iload_n 1, 1) := by decide +kernel
theorem dX9_show_288 : decode cX9_show 288 = .ok (.ireturn, 1) := by decide +kernel
set_option maxRecDepth 20000 in
theorem ggX9_isCell_X9_in : GoodIn wsX9_isCell wsX9_in := goodIn_r _ [4] (by decide +kernel) (by decide +kernel)
set_option maxRecDepth 20000 in
theorem gX9_isCell_X9_in : GoodIn wsX9_isCell (va_wsS RX9 75 yX9_in wsX9_in) := goodIn_app (goodIn_of _ (by decide +kernel)) ggX9_isCell_X9_in
theorem dX9_isCell_0 : decode cX9_isCell 0 = .ok (.iload_n 0, 1) := by decide +kernel
theorem dX9_isCell_1 : decode cX9_isCell 1 = .ok (.iconst 0, 1) := by decide +kernel
theorem dX9_isCell_2 : decode cX9_isCell 2 = .ok (.bipush 119, 2) := by decide +kernel
theorem dX9_isCell_4 : decode cX9_isCell 4 = .ok (.invokestatic 75, 3) := by decide +kernel
theorem dX9_isCell_7 : decode cX9_isCell 7 = .ok (.ifCond .eq 17, 3) := by decide +kernel
theorem dX9_isCell_10 : decode cX9_isCell 10 = .ok (.iload_n 1, 1) := by decide +kernel
theorem dX9_isCell_11 : decode cX9_isCell 11 = .ok (.iconst 0, 1) := by decide +kernel
theorem dX9_isCell_12 : decode cX9_isCell 12 = .ok (.bipush 9, 2) := by decide +kernel
theorem dX9_isCell_14 : decode cX9_isCell 14 = .ok (.invokestatic 75, 3) := by decide +kernel
theorem dX9_isCell_17 : decode cX9_isCell 17 = .ok (.ifCond .eq 7, 3) := by decide +kernel
theorem dX9_isCell_20 : decode cX9_isCell 20 = .ok (.iconst 1, 1) := by decide +kernel
theorem dX9_isCell_21 : decode cX9_isCell 21 = .ok (.goto 4, 3) := by decide +kernel
theorem dX9_isCell_24 : decode cX9_isCell 24 = .ok (.iconst 0, 1) := by decide +kernel
theorem dX9_isCell_25 : decode cX9_isCell 25 = .ok (.ireturn, 1) := by decide +kernel
set_option maxRecDepth 20000 in
theorem ggX9_marked_X9_isCell : GoodIn wsX9_marked wsX9_isCell := goodIn_r _ [5, 6, 7, 4, 8] (by decide +kernel) (by decide +kernel)
set_option maxRecDepth 20000 in
theorem gX9_marked_X9_isCell : GoodIn wsX9_marked (va_wsS RX9 172 yX9_isCell wsX9_isCell) := goodIn_app (goodIn_of _ (by decide +kernel)) ggX9_marked_X9_isCell
set_option maxRecDepth 20000 in
theorem ggX9_marked_X9_refuse : GoodIn wsX9_marked wsX9_refuse := goodIn_r _ [12, 13, 14, 15, 16, 17, 18, 19, 20, 21, 22, 23, 24, 25, 26, 27, 28, 29, 30, 31, 32, 33, 34, 35, 36, 37, 38, 39, 40, 41, 42, 43, 44, 45] (by decide +kernel) (by decide +kernel)
set_option maxRecDepth 20000 in
theorem gX9_marked_X9_refuse : GoodIn wsX9_marked (wsV RX9 79 RX9 yX9_refuse wsX9_refuse) := goodIn_app (goodIn_of _ (by decide +kernel)) ggX9_marked_X9_refuse
theorem dX9_marked_0 : decode cX9_marked 0 = .ok (.iload_n 1, 1) := by decide +kernel
theorem dX9_marked_1 : decode cX9_marked 1 = .ok (.iload_n 2, 1) := by decide +kernel
theorem dX9_marked_2 : decode cX9_marked 2 = .ok (.invokestatic 172, 3) := by decide +kernel
theorem dX9_marked_5 : decode cX9_marked 5 = .ok (.ifCond .eq 25, 3) := by decide +kernel
theorem dX9_marked_8 : decode cX9_marked 8 = .ok (.aload_n 0, 1) := by decide +kernel
theorem dX9_marked_9 : decode cX9_marked 9 = .ok (.getfield 39, 3) := by decide +kernel
theorem dX9_marked_12 : decode cX9_marked 12 = .ok (.bipush 10, 2) := by decide +kernel
theorem dX9_marked_14 : decode cX9_marked 14 = .ok (.iload_n 1, 1) := by decide +kernel
theorem dX9_marked_15 : decode cX9_marked 15 = .ok (.imul, 1) := by decide +kernel
theorem dX9_marked_16 : decode cX9_marked 16 = .ok (.iload_n 2, 1) := by decide +kernel
theorem dX9_marked_17 : decode cX9_marked 17 = .ok (.iadd, 1) := by decide +kernel
theorem dX9_marked_18 : decode cX9_marked 18 = .ok (.iaload, 1) := by decide +kernel
theorem dX9_marked_19 : decode cX9_marked 19 = .ok (.ifCond .ge 7, 3) := by decide +kernel
theorem dX9_marked_22 : decode cX9_marked 22 = .ok (.iconst 0, 1) := by decide +kernel
theorem dX9_marked_23 : decode cX9_marked 23 = .ok (.goto 12, 3) := by decide +kernel
theorem dX9_marked_26 : decode cX9_marked 26 = .ok (.iconst 1, 1) := by decide +kernel
theorem dX9_marked_27 : decode cX9_marked 27 = .ok (.goto 8, 3) := by decide +kernel
theorem dX9_marked_30 : decode cX9_marked 30 = .ok (.aload_n 0, 1) := by decide +kernel
theorem dX9_marked_31 : decode cX9_marked 31 = .ok (.iconst (-1), 1) := by decide +kernel
theorem dX9_marked_32 : decode cX9_marked 32 = .ok (.invokevirtual 79, 3) := by decide +kernel
theorem dX9_marked_35 : decode cX9_marked 35 = .ok (.ireturn, 1) := by decide +kernel
set_option maxRecDepth 20000 in
theorem ggX9_first_X9_isCell : GoodIn wsX9_first wsX9_isCell := goodIn_r _ [6, 7, 8, 5, 9] (by decide +kernel) (by decide +kernel)
set_option maxRecDepth 20000 in
theorem gX9_first_X9_isCell : GoodIn wsX9_first (va_wsS RX9 172 yX9_isCell wsX9_isCell) := goodIn_app (goodIn_of _ (by decide +kernel)) ggX9_first_X9_isCell
set_option maxRecDepth 20000 in
theorem ggX9_first_X9_refuse : GoodIn wsX9_first wsX9_refuse := goodIn_r _ [13, 14, 15, 16, 17, 18, 19, 20, 21, 22, 23, 24, 25, 26, 27, 28, 29, 30, 31, 32, 33, 34, 35, 36, 37, 38, 39, 40, 41, 42, 43, 44, 45, 46] (by decide +kernel) (by decide +kernel)
set_option maxRecDepth 20000 in
theorem gX9_first_X9_refuse : GoodIn wsX9_first (wsV RX9 79 RX9 yX9_refuse wsX9_refuse) := goodIn_app (goodIn_of _ (by decide +kernel)) ggX9_first_X9_refuse
set_option maxRecDepth 20000 in
theorem ggX9_first_X9_in : GoodIn wsX9_first wsX9_in := goodIn_r _ [9] (by decide +kernel) (by decide +kernel)
set_option maxRecDepth 20000 in
theorem gX9_first_X9_in : GoodIn wsX9_first (va_wsS RX9 75 yX9_in wsX9_in) := goodIn_app (goodIn_of _ (by decide +kernel)) ggX9_first_X9_in
theorem dX9_first_0 : decode cX9_first 0 = .ok (.iload_n 1, 1) := by decide +kernel
theorem dX9_first_1 : decode cX9_first 1 = .ok (.iload_n 2, 1) := by decide +kernel
theorem dX9_first_2 : decode cX9_first 2 = .ok (.invokestatic 172, 3) := by decide +kernel
theorem dX9_first_5 : decode cX9_first 5 = .ok (.ifCond .ne 9, 3) := by decide +kernel
theorem dX9_first_8 : decode cX9_first 8 = .ok (.aload_n 0, 1) := by decide +kernel
theorem dX9_first_9 : decode cX9_first 9 = .ok (.iconst (-1), 1) := by decide +kernel
theorem dX9_first_10 : decode cX9_first 10 = .ok (.invokevirtual 79, 3) := by decide +kernel
theorem dX9_first_13 : decode cX9_first 13 = .ok (.ireturn, 1) := by decide +kernel
theorem dX9_first_14 : decode cX9_first 14 = .ok (.iload_n 3, 1) := by decide +kernel
theorem dX9_first_15 : decode cX9_first 15 = .ok (.iconst 0, 1) := by decide +kernel
theorem dX9_first_16 : decode cX9_first 16 = .ok (.iconst 1, 1) := by decide +kernel
theorem dX9_first_17 : decode cX9_first 17 = .ok (.invokestatic 75, 3) := by decide +kernel
theorem dX9_first_20 : decode cX9_first 20 = .ok (.ifCond .ne 10, 3) := by decide +kernel
theorem dX9_first_23 : decode cX9_first 23 = .ok (.aload_n 0, 1) := by decide +kernel
theorem dX9_first_24 : decode cX9_first 24 = .ok (.bipush (-2), 2) := by decide +kernel
theorem dX9_first_26 : decode cX9_first 26 = .ok (.invokevirtual 79, 3) := by decide +kernel
theorem dX9_first_29 : decode cX9_first 29 = .ok (.ireturn, 1) := by decide +kernel
theorem dX9_first_30 : decode cX9_first 30 = .ok (.bipush 10, 2) := by decide +kernel
theorem dX9_first_32 : decode cX9_first 32 = .ok (.iload_n 1, 1) := by decide +kernel
theorem dX9_first_33 : decode cX9_first 33 = .ok (.imul, 1) := by decide +kernel
theorem dX9_first_34 : decode cX9_first 34 = .ok (.iload_n 2, 1) := by decide +kernel

theorem dX0_init_0 : decode cX0_init 0 = .ok (.aload_n 0, 1) := by decide +kernel
theorem dX0_init_1 : decode cX0_init 1 = .ok (.invokespecial 3, 3) := by decide +kernel
theorem dX0_init_4 : decode cX0_init 4 = .ok (.aload_n 0, 1) := by decide +kernel
theorem dX0_init_5 : decode cX0_init 5 = .ok (.bipush 12, 2) := by decide +kernel
theorem dX0_init_7 : decode cX0_init 7 = .ok (.bipush 16, 2) := by decide +kernel
theorem dX0_init_9 : decode cX0_init 9 = .ok (.multianewarray 9 2, 4) := by decide +kernel
theorem dX0_init_13 : decode cX0_init 13 = .ok (.putfield 11, 3) := by decide +kernel
theorem dX0_init_16 : decode cX0_init 16 = .ok (.aload_n 0, 1) := by decide +kernel
theorem dX0_init_17 : decode cX0_init 17 = .ok (.bipush 12, 2) := by decide +kernel
theorem dX0_init_19 : decode cX0_init 19 = .ok (.newarray .boolean, 2) := by decide +kernel
theorem dX0_init_21 : decode cX0_init 21 = .ok (.putfield 16, 3) := by decide +kernel
theorem dX0_init_24 : decode cX0_init 24 = .ok (.aload_n 0, 1) := by decide +kernel
theorem dX0_init_25 : decode cX0_init 25 = .ok (.bipush 16, 2) := by decide +kernel
theorem dX0_init_27 : decode cX0_init 27 = .ok (.newarray .int, 2) := by decide +kernel
theorem dX0_init_29 : decode cX0_init 29 = .ok (.putfield 20, 3) := by decide +kernel
theorem dX0_init_32 : decode cX0_init 32 = .ok (.aload_n 0, 1) := by decide +kernel
theorem dX0_init_33 : decode cX0_init 33 = .ok (.bipush 8, 2) := by decide +kernel
theorem dX0_init_35 : decode cX0_init 35 = .ok (.putfield 24, 3) := by decide +kernel
theorem dX0_init_38 : decode cX0_init 38 = .ok (.return_, 1) := by decide +kernel
theorem dX0_steps_0 : decode cX0_steps 0 = .ok (.aload_n 0, 1) := by decide +kernel
theorem dX0_steps_1 : decode cX0_steps 1 = .ok (.getfield 24, 3) := by decide +kernel
theorem dX0_steps_4 : decode cX0_steps 4 = .ok (.ireturn, 1) := by decide +kernel
theorem dX0_size_0 : decode cX0_size 0 = .ok (.iconst 0, 1) := by decide +kernel
theorem dX0_size_1 : decode cX0_size 1 = .ok (.istore_n 1, 1) := by decide +kernel
theorem dX0_size_2 : decode cX0_size 2 = .ok (.iconst 0, 1) := by decide +kernel
theorem dX0_size_3 : decode cX0_size 3 = .ok (.istore_n 2, 1) := by decide +kernel
theorem dX0_size_4 : decode cX0_size 4 = .ok (.iload_n 2, 1) := by decide +kernel
theorem dX0_size_5 : decode cX0_size 5 = .ok (.bipush 12, 2) := by decide +kernel
theorem dX0_size_7 : decode cX0_size 7 = .ok (.if_icmp .ge 21, 3) := by decide +kernel
theorem dX0_size_10 : decode cX0_size 10 = .ok (.aload_n 0, 1) := by decide +kernel
theorem dX0_size_11 : decode cX0_size 11 = .ok (.getfield 16, 3) := by decide +kernel
theorem dX0_size_14 : decode cX0_size 14 = .ok (.iload_n 2, 1) := by decide +kernel
theorem dX0_size_15 : decode cX0_size 15 = .ok (.baload, 1) := by decide +kernel
theorem dX0_size_16 : decode cX0_size 16 = .ok (.ifCond .eq 6, 3) := by decide +kernel
theorem dX0_size_19 : decode cX0_size 19 = .ok (.iinc 1 1, 3) := by decide +kernel
theorem dX0_size_22 : decode cX0_size 22 = .ok (.iinc 2 1, 3) := by decide +kernel
theorem dX0_size_25 : decode cX0_size 25 = .ok (.goto (-21), 3) := by decide +kernel
theorem dX0_size_28 : decode cX0_size 28 = .ok (.iload_n 1, 1) := by decide +kernel
theorem dX0_size_29 : decode cX0_size 29 = .ok (.ireturn, 1) := by decide +kernel
theorem dX0_isThere_0 : decode cX0_isThere 0 = .ok (.aload_n 0, 1) := by decide +kernel
theorem dX0_isThere_1 : decode cX0_isThere 1 = .ok (.getfield 16, 3) := by decide +kernel
theorem dX0_isThere_4 : decode cX0_isThere 4 = .ok (.iload_n 1, 1) := by decide +kernel
theorem dX0_isThere_5 : decode cX0_isThere 5 = .ok (.baload, 1) := by decide +kernel
theorem dX0_isThere_6 : decode cX0_isThere 6 = .ok (.ireturn, 1) := by decide +kernel
theorem dX0_startAnew_0 : decode cX0_startAnew 0 = .ok (.aload_n 0, 1) := by decide +kernel
theorem dX0_startAnew_1 : decode cX0_startAnew 1 = .ok (.iload_n 1, 1) := by decide +kernel
theorem dX0_startAnew_2 : decode cX0_startAnew 2 = .ok (.putfield 24, 3) := by decide +kernel
theorem dX0_startAnew_5 : decode cX0_startAnew 5 = .ok (.iconst 0, 1) := by decide +kernel
theorem dX0_startAnew_6 : decode cX0_startAnew 6 = .ok (.istore_n 2, 1) := by decide +kernel
theorem dX0_startAnew_7 : decode cX0_startAnew 7 = .ok (.iload_n 2, 1) := by decide +kernel
theorem dX0_startAnew_8 : decode cX0_startAnew 8 = .ok (.bipush 12, 2) := by decide +kernel
theorem dX0_startAnew_10 : decode cX0_startAnew 10 = .ok (.if_icmp .ge 16, 3) := by decide +kernel
theorem dX0_startAnew_13 : decode cX0_startAnew 13 = .ok (.aload_n 0, 1) := by decide +kernel
theorem dX0_startAnew_14 : decode cX0_startAnew 14 = .ok (.getfield 16, 3) := by decide +kernel
theorem dX0_startAnew_17 : decode cX0_startAnew 17 = .ok (.iload_n 2, 1) := by decide +kernel
theorem dX0_startAnew_18 : decode cX0_startAnew 18 = .ok (.iconst 0, 1) := by decide +kernel
theorem dX0_startAnew_19 : decode cX0_startAnew 19 = .ok (.bastore, 1) := by decide +kernel
theorem dX0_startAnew_20 : decode cX0_startAnew 20 = .ok (.iinc 2 1, 3) := by decide +kernel
theorem dX0_startAnew_23 : decode cX0_startAnew 23 = .ok (.goto (-16), 3) := by decide +kernel
theorem dX0_startAnew_26 : decode cX0_startAnew 26 = .ok (.return_, 1) := by decide +kernel
set_option maxRecDepth 20000 in
theorem ggX0_makeFlat_J7_fill_53178 : GoodIn wsX0_makeFlat wsJ7_fill_53178 := goodIn_r _ [6] (by decide +kernel) (by decide +kernel)
set_option maxRecDepth 20000 in
theorem gX0_makeFlat_J7_fill_53178 : GoodIn wsX0_makeFlat (va_wsS RX0 28 yJ7_fill_53178 wsJ7_fill_53178) := goodIn_app (goodIn_of _ (by decide +kernel)) ggX0_makeFlat_J7_fill_53178
theorem dX0_makeFlat_0 : decode cX0_makeFlat 0 = .ok (.aload_n 0, 1) := by decide +kernel
theorem dX0_makeFlat_1 : decode cX0_makeFlat 1 = .ok (.getfield 16, 3) := by decide +kernel
theorem dX0_makeFlat_4 : decode cX0_makeFlat 4 = .ok (.iload_n 1, 1) := by decide +kernel
theorem dX0_makeFlat_5 : decode cX0_makeFlat 5 = .ok (.iconst 1, 1) := by decide +kernel
theorem dX0_makeFlat_6 : decode cX0_makeFlat 6 = .ok (.bastore, 1) := by decide +kernel
theorem dX0_makeFlat_7 : decode cX0_makeFlat 7 = .ok (.aload_n 0, 1) := by decide +kernel
theorem dX0_makeFlat_8 : decode cX0_makeFlat 8 = .ok (.getfield 11, 3) := by decide +kernel
theorem dX0_makeFlat_11 : decode cX0_makeFlat 11 = .ok (.iload_n 1, 1) := by decide +kernel
theorem dX0_makeFlat_12 : decode cX0_makeFlat 12 = .ok (.aaload, 1) := by decide +kernel
theorem dX0_makeFlat_13 : decode cX0_makeFlat 13 = .ok (.iconst 0, 1) := by decide +kernel
theorem dX0_makeFlat_14 : decode cX0_makeFlat 14 = .ok (.invokestatic 28, 3) := by decide +kernel
theorem dX0_makeFlat_17 : decode cX0_makeFlat 17 = .ok (.return_, 1) := by decide +kernel
theorem dX0_remove_0 : decode cX0_remove 0 = .ok (.aload_n 0, 1) := by decide +kernel
theorem dX0_remove_1 : decode cX0_remove 1 = .ok (.getfield 16, 3) := by decide +kernel
theorem dX0_remove_4 : decode cX0_remove 4 = .ok (.iload_n 1, 1) := by decide +kernel
theorem dX0_remove_5 : decode cX0_remove 5 = .ok (.iconst 0, 1) := by decide +kernel
theorem dX0_remove_6 : decode cX0_remove 6 = .ok (.bastore, 1) := by decide +kernel
theorem dX0_remove_7 : decode cX0_remove 7 = .ok (.return_, 1) := by decide +kernel
theorem dX0_heightAt_0 : decode cX0_heightAt 0 = .ok (.aload_n 0, 1) := by decide +kernel
theorem dX0_heightAt_1 : decode cX0_heightAt 1 = .ok (.getfield 11, 3) := by decide +kernel
theorem dX0_heightAt_4 : decode cX0_heightAt 4 = .ok (.iload_n 1, 1) := by decide +kernel
theorem dX0_heightAt_5 : decode cX0_heightAt 5 = .ok (.aaload, 1) := by decide +kernel
theorem dX0_heightAt_6 : decode cX0_heightAt 6 = .ok (.iload_n 2, 1) := by decide +kernel
theorem dX0_heightAt_7 : decode cX0_heightAt 7 = .ok (.iaload, 1) := by decide +kernel
theorem dX0_heightAt_8 : decode cX0_heightAt 8 = .ok (.ireturn, 1) := by decide +kernel
theorem dX0_setHeight_0 : decode cX0_setHeight 0 = .ok (.aload_n 0, 1) := by decide +kernel
theorem dX0_setHeight_1 : decode cX0_setHeight 1 = .ok (.getfield 11, 3) := by decide +kernel
theorem dX0_setHeight_4 : decode cX0_setHeight 4 = .ok (.iload_n 1, 1) := by decide +kernel
theorem dX0_setHeight_5 : decode cX0_setHeight 5 = .ok (.aaload, 1) := by decide +kernel
theorem dX0_setHeight_6 : decode cX0_setHeight 6 = .ok (.iload_n 2, 1) := by decide +kernel
theorem dX0_setHeight_7 : decode cX0_setHeight 7 = .ok (.iload_n 3, 1) := by decide +kernel
theorem dX0_setHeight_8 : decode cX0_setHeight 8 = .ok (.iastore, 1) := by decide +kernel
theorem dX0_setHeight_9 : decode cX0_setHeight 9 = .ok (.return_, 1) := by decide +kernel
theorem dX0_hasSpan_0 : decode cX0_hasSpan 0 = .ok (.iload_n 2, 1) := by decide +kernel
theorem dX0_hasSpan_1 : decode cX0_hasSpan 1 = .ok (.ifCond .lt 29, 3) := by decide +kernel
theorem dX0_hasSpan_4 : decode cX0_hasSpan 4 = .ok (.iload_n 2, 1) := by decide +kernel
theorem dX0_hasSpan_5 : decode cX0_hasSpan 5 = .ok (.aload_n 0, 1) := by decide +kernel
theorem dX0_hasSpan_6 : decode cX0_hasSpan 6 = .ok (.getfield 24, 3) := by decide +kernel
theorem dX0_hasSpan_9 : decode cX0_hasSpan 9 = .ok (.if_icmp .gt 21, 3) := by decide +kernel
theorem dX0_hasSpan_12 : decode cX0_hasSpan 12 = .ok (.iload_n 1, 1) := by decide +kernel
theorem dX0_hasSpan_13 : decode cX0_hasSpan 13 = .ok (.ifCond .lt 17, 3) := by decide +kernel
theorem dX0_hasSpan_16 : decode cX0_hasSpan 16 = .ok (.iload_n 1, 1) := by decide +kernel
theorem dX0_hasSpan_17 : decode cX0_hasSpan 17 = .ok (.aload_n 0, 1) := by decide +kernel
theorem dX0_hasSpan_18 : decode cX0_hasSpan 18 = .ok (.getfield 24, 3) := by decide +kernel
theorem dX0_hasSpan_21 : decode cX0_hasSpan 21 = .ok (.iload_n 2, 1) := by decide +kernel
theorem dX0_hasSpan_22 : decode cX0_hasSpan 22 = .ok (.isub, 1) := by decide +kernel
theorem dX0_hasSpan_23 : decode cX0_hasSpan 23 = .ok (.if_icmp .gt 7, 3) := by decide +kernel
theorem dX0_hasSpan_26 : decode cX0_hasSpan 26 = .ok (.iconst 1, 1) := by decide +kernel
theorem dX0_hasSpan_27 : decode cX0_hasSpan 27 = .ok (.goto 4, 3) := by decide +kernel
theorem dX0_hasSpan_30 : decode cX0_hasSpan 30 = .ok (.iconst 0, 1) := by decide +kernel
theorem dX0_hasSpan_31 : decode cX0_hasSpan 31 = .ok (.ireturn, 1) := by decide +kernel
theorem dX0_copySpan_0 : decode cX0_copySpan 0 = .ok (.aload_n 0, 1) := by decide +kernel
theorem dX0_copySpan_1 : decode cX0_copySpan 1 = .ok (.getfield 11, 3) := by decide +kernel
theorem dX0_copySpan_4 : decode cX0_copySpan 4 = .ok (.iload_n 1, 1) := by decide +kernel
theorem dX0_copySpan_5 : decode cX0_copySpan 5 = .ok (.aaload, 1) := by decide +kernel
theorem dX0_copySpan_6 : decode cX0_copySpan 6 = .ok (.iload_n 2, 1) := by decide +kernel
theorem dX0_copySpan_7 : decode cX0_copySpan 7 = .ok (.aload_n 0, 1) := by decide +kernel
theorem dX0_copySpan_8 : decode cX0_copySpan 8 = .ok (.getfield 11, 3) := by decide +kernel
theorem dX0_copySpan_11 : decode cX0_copySpan 11 = .ok (.iload_n 3, 1) := by decide +kernel
theorem dX0_copySpan_12 : decode cX0_copySpan 12 = .ok (.aaload, 1) := by decide +kernel
theorem dX0_copySpan_13 : decode cX0_copySpan 13 = .ok (.iload 4, 2) := by decide +kernel
theorem dX0_copySpan_15 : decode cX0_copySpan 15 = .ok (.iload 5, 2) := by decide +kernel
theorem dX0_copySpan_17 : decode cX0_copySpan 17 = .ok (.invokestatic 34, 3) := by decide +kernel
theorem dX0_copySpan_20 : decode cX0_copySpan 20 = .ok (.return_, 1) := by decide +kernel
set_option maxRecDepth 20000 in
theorem ggX0_rotate_X0_further : GoodIn wsX0_rotate wsX0_further := goodIn_r _ [12, 3, 13, 14, 15, 16] (by decide +kernel) (by decide +kernel)
set_option maxRecDepth 20000 in
theorem gX0_rotate_X0_further : GoodIn wsX0_rotate (wsV RX0 40 RX0 yX0_further wsX0_further) := goodIn_app (goodIn_of _ (by decide +kernel)) ggX0_rotate_X0_further
theorem dX0_rotate_0 : decode cX0_rotate 0 = .ok (.aload_n 0, 1) := by decide +kernel
theorem dX0_rotate_1 : decode cX0_rotate 1 = .ok (.getfield 11, 3) := by decide +kernel
theorem dX0_rotate_4 : decode cX0_rotate 4 = .ok (.iload_n 1, 1) := by decide +kernel
theorem dX0_rotate_5 : decode cX0_rotate 5 = .ok (.aaload, 1) := by decide +kernel
theorem dX0_rotate_6 : decode cX0_rotate 6 = .ok (.astore_n 3, 1) := by decide +kernel
theorem dX0_rotate_7 : decode cX0_rotate 7 = .ok (.aload_n 3, 1) := by decide +kernel
theorem dX0_rotate_8 : decode cX0_rotate 8 = .ok (.iconst 0, 1) := by decide +kernel
theorem dX0_rotate_9 : decode cX0_rotate 9 = .ok (.aload_n 0, 1) := by decide +kernel
theorem dX0_rotate_10 : decode cX0_rotate 10 = .ok (.getfield 20, 3) := by decide +kernel
theorem dX0_rotate_13 : decode cX0_rotate 13 = .ok (.iconst 0, 1) := by decide +kernel
theorem dX0_rotate_14 : decode cX0_rotate 14 = .ok (.aload_n 0, 1) := by decide +kernel
theorem dX0_rotate_15 : decode cX0_rotate 15 = .ok (.getfield 24, 3) := by decide +kernel
theorem dX0_rotate_18 : decode cX0_rotate 18 = .ok (.invokestatic 34, 3) := by decide +kernel
theorem dX0_rotate_21 : decode cX0_rotate 21 = .ok (.iconst 0, 1) := by decide +kernel
theorem dX0_rotate_22 : decode cX0_rotate 22 = .ok (.istore 4, 2) := by decide +kernel
theorem dX0_rotate_24 : decode cX0_rotate 24 = .ok (.iload 4, 2) := by decide +kernel
theorem dX0_rotate_26 : decode cX0_rotate 26 = .ok (.aload_n 0, 1) := by decide +kernel
theorem dX0_rotate_27 : decode cX0_rotate 27 = .ok (.getfield 24, 3) := by decide +kernel
theorem dX0_rotate_30 : decode cX0_rotate 30 = .ok (.if_icmp .ge 25, 3) := by decide +kernel
theorem dX0_rotate_33 : decode cX0_rotate 33 = .ok (.aload_n 3, 1) := by decide +kernel
theorem dX0_rotate_34 : decode cX0_rotate 34 = .ok (.aload_n 0, 1) := by decide +kernel
theorem dX0_rotate_35 : decode cX0_rotate 35 = .ok (.iload 4, 2) := by decide +kernel
theorem dX0_rotate_37 : decode cX0_rotate 37 = .ok (.iload_n 2, 1) := by decide +kernel
theorem dX0_rotate_38 : decode cX0_rotate 38 = .ok (.invokevirtual 40, 3) := by decide +kernel
theorem dX0_rotate_41 : decode cX0_rotate 41 = .ok (.aload_n 0, 1) := by decide +kernel
theorem dX0_rotate_42 : decode cX0_rotate 42 = .ok (.getfield 20, 3) := by decide +kernel
theorem dX0_rotate_45 : decode cX0_rotate 45 = .ok (.iload 4, 2) := by decide +kernel
theorem dX0_rotate_47 : decode cX0_rotate 47 = .ok (.iaload, 1) := by decide +kernel
theorem dX0_rotate_48 : decode cX0_rotate 48 = .ok (.iastore, 1) := by decide +kernel
theorem dX0_rotate_49 : decode cX0_rotate 49 = .ok (.iinc 4 1, 3) := by decide +kernel
theorem dX0_rotate_52 : decode cX0_rotate 52 = .ok (.goto (-28), 3) := by decide +kernel
theorem dX0_rotate_55 : decode cX0_rotate 55 = .ok (.return_, 1) := by decide +kernel
set_option maxRecDepth 20000 in
theorem ggX0_blanksBelow_X0_leastAlike : GoodIn wsX0_blanksBelow wsX0_leastAlike := goodIn_r _ [6, 1, 7, 8, 9, 5, 10, 11, 12, 13, 14, 15, 16, 17, 18, 19, 20, 21, 22, 23, 24] (by decide +kernel) (by decide +kernel)
set_option maxRecDepth 20000 in
theorem gX0_blanksBelow_X0_leastAlike : GoodIn wsX0_blanksBelow (wsV RX0 44 RX0 yX0_leastAlike wsX0_leastAlike) := goodIn_app (goodIn_of _ (by decide +kernel)) ggX0_blanksBelow_X0_leastAlike
theorem dX0_blanksBelow_0 : decode cX0_blanksBelow 0 = .ok (.iconst 0, 1) := by decide +kernel
theorem dX0_blanksBelow_1 : decode cX0_blanksBelow 1 = .ok (.istore_n 2, 1) := by decide +kernel
theorem dX0_blanksBelow_2 : decode cX0_blanksBelow 2 = .ok (.iconst 0, 1) := by decide +kernel
theorem dX0_blanksBelow_3 : decode cX0_blanksBelow 3 = .ok (.istore_n 3, 1) := by decide +kernel
theorem dX0_blanksBelow_4 : decode cX0_blanksBelow 4 = .ok (.iload_n 3, 1) := by decide +kernel
theorem dX0_blanksBelow_5 : decode cX0_blanksBelow 5 = .ok (.iload_n 1, 1) := by decide +kernel
theorem dX0_blanksBelow_6 : decode cX0_blanksBelow 6 = .ok (.if_icmp .ge 30, 3) := by decide +kernel
theorem dX0_blanksBelow_9 : decode cX0_blanksBelow 9 = .ok (.aload_n 0, 1) := by decide +kernel
theorem dX0_blanksBelow_10 : decode cX0_blanksBelow 10 = .ok (.getfield 16, 3) := by decide +kernel
theorem dX0_blanksBelow_13 : decode cX0_blanksBelow 13 = .ok (.iload_n 3, 1) := by decide +kernel
theorem dX0_blanksBelow_14 : decode cX0_blanksBelow 14 = .ok (.baload, 1) := by decide +kernel
theorem dX0_blanksBelow_15 : decode cX0_blanksBelow 15 = .ok (.ifCond .eq 15, 3) := by decide +kernel
theorem dX0_blanksBelow_18 : decode cX0_blanksBelow 18 = .ok (.aload_n 0, 1) := by decide +kernel
theorem dX0_blanksBelow_19 : decode cX0_blanksBelow 19 = .ok (.iload_n 3, 1) := by decide +kernel
theorem dX0_blanksBelow_20 : decode cX0_blanksBelow 20 = .ok (.invokevirtual 44, 3) := by decide +kernel
theorem dX0_blanksBelow_23 : decode cX0_blanksBelow 23 = .ok (.iload_n 3, 1) := by decide +kernel
theorem dX0_blanksBelow_24 : decode cX0_blanksBelow 24 = .ok (.if_icmp .ne 6, 3) := by decide +kernel
theorem dX0_blanksBelow_27 : decode cX0_blanksBelow 27 = .ok (.iinc 2 1, 3) := by decide +kernel
theorem dX0_blanksBelow_30 : decode cX0_blanksBelow 30 = .ok (.iinc 3 1, 3) := by decide +kernel
theorem dX0_blanksBelow_33 : decode cX0_blanksBelow 33 = .ok (.goto (-29), 3) := by decide +kernel
theorem dX0_blanksBelow_36 : decode cX0_blanksBelow 36 = .ok (.iload_n 2, 1) := by decide +kernel
theorem dX0_blanksBelow_37 : decode cX0_blanksBelow 37 = .ok (.ireturn, 1) := by decide +kernel
set_option maxRecDepth 20000 in
theorem ggX0_leastAlike_X0_stepsBetween : GoodIn wsX0_leastAlike wsX0_stepsBetween := goodIn_r _ [6, 7, 8, 9, 10, 11, 5, 12, 13, 14, 15, 16, 17, 18, 19, 20] (by decide +kernel) (by decide +kernel)
set_option maxRecDepth 20000 in
theorem gX0_leastAlike_X0_stepsBetween : GoodIn wsX0_leastAlike (wsV RX0 48 RX0 yX0_stepsBetween wsX0_stepsBetween) := goodIn_app (goodIn_of _ (by decide +kernel)) ggX0_leastAlike_X0_stepsBetween
theorem dX0_leastAlike_0 : decode cX0_leastAlike 0 = .ok (.iconst 0, 1) := by decide +kernel
theorem dX0_leastAlike_1 : decode cX0_leastAlike 1 = .ok (.istore_n 2, 1) := by decide +kernel
theorem dX0_leastAlike_2 : decode cX0_leastAlike 2 = .ok (.iload_n 2, 1) := by decide +kernel
theorem dX0_leastAlike_3 : decode cX0_leastAlike 3 = .ok (.iload_n 1, 1) := by decide +kernel
theorem dX0_leastAlike_4 : decode cX0_leastAlike 4 = .ok (.if_icmp .ge 29, 3) := by decide +kernel
theorem dX0_leastAlike_7 : decode cX0_leastAlike 7 = .ok (.aload_n 0, 1) := by decide +kernel
theorem dX0_leastAlike_8 : decode cX0_leastAlike 8 = .ok (.getfield 16, 3) := by decide +kernel
theorem dX0_leastAlike_11 : decode cX0_leastAlike 11 = .ok (.iload_n 2, 1) := by decide +kernel
theorem dX0_leastAlike_12 : decode cX0_leastAlike 12 = .ok (.baload, 1) := by decide +kernel
theorem dX0_leastAlike_13 : decode cX0_leastAlike 13 = .ok (.ifCond .eq 14, 3) := by decide +kernel
theorem dX0_leastAlike_16 : decode cX0_leastAlike 16 = .ok (.aload_n 0, 1) := by decide +kernel
theorem dX0_leastAlike_17 : decode cX0_leastAlike 17 = .ok (.iload_n 2, 1) := by decide +kernel
theorem dX0_leastAlike_18 : decode cX0_leastAlike 18 = .ok (.iload_n 1, 1) := by decide +kernel
theorem dX0_leastAlike_19 : decode cX0_leastAlike 19 = .ok (.invokevirtual 48, 3) := by decide +kernel
theorem dX0_leastAlike_22 : decode cX0_leastAlike 22 = .ok (.ifCond .lt 5, 3) := by decide +kernel
theorem dX0_leastAlike_25 : decode cX0_leastAlike 25 = .ok (.iload_n 2, 1) := by decide +kernel
theorem dX0_leastAlike_26 : decode cX0_leastAlike 26 = .ok (.ireturn, 1) := by decide +kernel
theorem dX0_leastAlike_27 : decode cX0_leastAlike 27 = .ok (.iinc 2 1, 3) := by decide +kernel
theorem dX0_leastAlike_30 : decode cX0_leastAlike 30 = .ok (.goto (-28), 3) := by decide +kernel
theorem dX0_leastAlike_33 : decode cX0_leastAlike 33 = .ok (.iload_n 1, 1) := by decide +kernel
theorem dX0_leastAlike_34 : decode cX0_leastAlike 34 = .ok (.ireturn, 1) := by decide +kernel
set_option maxRecDepth 20000 in
theorem ggX0_stepsBetween_X0_isTurnedBy : GoodIn wsX0_stepsBetween wsX0_isTurnedBy := goodIn_r _ [7, 1, 8, 9, 10, 6, 11, 12, 13, 14, 15] (by decide +kernel) (by decide +kernel)
set_option maxRecDepth 20000 in
theorem gX0_stepsBetween_X0_isTurnedBy : GoodIn wsX0_stepsBetween (wsV RX0 51 RX0 yX0_isTurnedBy wsX0_isTurnedBy) := goodIn_app (goodIn_of _ (by decide +kernel)) ggX0_stepsBetween_X0_isTurnedBy
theorem dX0_stepsBetween_0 : decode cX0_stepsBetween 0 = .ok (.iconst 0, 1) := by decide +kernel
theorem dX0_stepsBetween_1 : decode cX0_stepsBetween 1 = .ok (.istore_n 3, 1) := by decide +kernel
theorem dX0_stepsBetween_2 : decode cX0_stepsBetween 2 = .ok (.iload_n 3, 1) := by decide +kernel
theorem dX0_stepsBetween_3 : decode cX0_stepsBetween 3 = .ok (.aload_n 0, 1) := by decide +kernel
theorem dX0_stepsBetween_4 : decode cX0_stepsBetween 4 = .ok (.getfield 24, 3) := by decide +kernel
theorem dX0_stepsBetween_7 : decode cX0_stepsBetween 7 = .ok (.if_icmp .ge 31, 3) := by decide +kernel
theorem dX0_stepsBetween_10 : decode cX0_stepsBetween 10 = .ok (.aload_n 0, 1) := by decide +kernel
theorem dX0_stepsBetween_11 : decode cX0_stepsBetween 11 = .ok (.aload_n 0, 1) := by decide +kernel
theorem dX0_stepsBetween_12 : decode cX0_stepsBetween 12 = .ok (.getfield 11, 3) := by decide +kernel
theorem dX0_stepsBetween_15 : decode cX0_stepsBetween 15 = .ok (.iload_n 1, 1) := by decide +kernel
theorem dX0_stepsBetween_16 : decode cX0_stepsBetween 16 = .ok (.aaload, 1) := by decide +kernel
theorem dX0_stepsBetween_17 : decode cX0_stepsBetween 17 = .ok (.aload_n 0, 1) := by decide +kernel
theorem dX0_stepsBetween_18 : decode cX0_stepsBetween 18 = .ok (.getfield 11, 3) := by decide +kernel
theorem dX0_stepsBetween_21 : decode cX0_stepsBetween 21 = .ok (.iload_n 2, 1) := by decide +kernel
theorem dX0_stepsBetween_22 : decode cX0_stepsBetween 22 = .ok (.aaload, 1) := by decide +kernel
theorem dX0_stepsBetween_23 : decode cX0_stepsBetween 23 = .ok (.iload_n 3, 1) := by decide +kernel
theorem dX0_stepsBetween_24 : decode cX0_stepsBetween 24 = .ok (.invokevirtual 51, 3) := by decide +kernel
theorem dX0_stepsBetween_27 : decode cX0_stepsBetween 27 = .ok (.ifCond .eq 5, 3) := by decide +kernel
theorem dX0_stepsBetween_30 : decode cX0_stepsBetween 30 = .ok (.iload_n 3, 1) := by decide +kernel
theorem dX0_stepsBetween_31 : decode cX0_stepsBetween 31 = .ok (.ireturn, 1) := by decide +kernel
theorem dX0_stepsBetween_32 : decode cX0_stepsBetween 32 = .ok (.iinc 3 1, 3) := by decide +kernel
theorem dX0_stepsBetween_35 : decode cX0_stepsBetween 35 = .ok (.goto (-33), 3) := by decide +kernel
theorem dX0_stepsBetween_38 : decode cX0_stepsBetween 38 = .ok (.bipush (-9), 2) := by decide +kernel
theorem dX0_stepsBetween_40 : decode cX0_stepsBetween 40 = .ok (.ireturn, 1) := by decide +kernel
set_option maxRecDepth 20000 in
theorem ggX0_isTurnedBy_X0_further : GoodIn wsX0_isTurnedBy wsX0_further := goodIn_r _ [6, 1, 7, 8, 9, 10] (by decide +kernel) (by decide +kernel)
set_option maxRecDepth 20000 in
theorem gX0_isTurnedBy_X0_further : GoodIn wsX0_isTurnedBy (wsV RX0 40 RX0 yX0_further wsX0_further) := goodIn_app (goodIn_of _ (by decide +kernel)) ggX0_isTurnedBy_X0_further
theorem dX0_isTurnedBy_0 : decode cX0_isTurnedBy 0 = .ok (.iconst 0, 1) := by decide +kernel
theorem dX0_isTurnedBy_1 : decode cX0_isTurnedBy 1 = .ok (.istore 4, 2) := by decide +kernel
theorem dX0_isTurnedBy_3 : decode cX0_isTurnedBy 3 = .ok (.iload 4, 2) := by decide +kernel
theorem dX0_isTurnedBy_5 : decode cX0_isTurnedBy 5 = .ok (.aload_n 0, 1) := by decide +kernel
theorem dX0_isTurnedBy_6 : decode cX0_isTurnedBy 6 = .ok (.getfield 24, 3) := by decide +kernel
theorem dX0_isTurnedBy_9 : decode cX0_isTurnedBy 9 = .ok (.if_icmp .ge 27, 3) := by decide +kernel
theorem dX0_isTurnedBy_12 : decode cX0_isTurnedBy 12 = .ok (.aload_n 2, 1) := by decide +kernel
theorem dX0_isTurnedBy_13 : decode cX0_isTurnedBy 13 = .ok (.aload_n 0, 1) := by decide +kernel
theorem dX0_isTurnedBy_14 : decode cX0_isTurnedBy 14 = .ok (.iload 4, 2) := by decide +kernel
theorem dX0_isTurnedBy_16 : decode cX0_isTurnedBy 16 = .ok (.iload_n 3, 1) := by decide +kernel
theorem dX0_isTurnedBy_17 : decode cX0_isTurnedBy 17 = .ok (.invokevirtual 40, 3) := by decide +kernel
theorem dX0_isTurnedBy_20 : decode cX0_isTurnedBy 20 = .ok (.iaload, 1) := by decide +kernel
theorem dX0_isTurnedBy_21 : decode cX0_isTurnedBy 21 = .ok (.aload_n 1, 1) := by decide +kernel
theorem dX0_isTurnedBy_22 : decode cX0_isTurnedBy 22 = .ok (.iload 4, 2) := by decide +kernel
theorem dX0_isTurnedBy_24 : decode cX0_isTurnedBy 24 = .ok (.iaload, 1) := by decide +kernel
theorem dX0_isTurnedBy_25 : decode cX0_isTurnedBy 25 = .ok (.if_icmp .eq 5, 3) := by decide +kernel
theorem dX0_isTurnedBy_28 : decode cX0_isTurnedBy 28 = .ok (.iconst 0, 1) := by decide +kernel
theorem dX0_isTurnedBy_29 : decode cX0_isTurnedBy 29 = .ok (.ireturn, 1) := by decide +kernel
theorem dX0_isTurnedBy_30 : decode cX0_isTurnedBy 30 = .ok (.iinc 4 1, 3) := by decide +kernel
theorem dX0_isTurnedBy_33 : decode cX0_isTurnedBy 33 = .ok (.goto (-30), 3) := by decide +kernel
theorem dX0_isTurnedBy_36 : decode cX0_isTurnedBy 36 = .ok (.iconst 1, 1) := by decide +kernel
theorem dX0_isTurnedBy_37 : decode cX0_isTurnedBy 37 = .ok (.ireturn, 1) := by decide +kernel
set_option maxRecDepth 20000 in
theorem ggX0_greatestStep_X0_further : GoodIn wsX0_greatestStep wsX0_further := goodIn_r _ [14, 1, 15, 16, 17, 18] (by decide +kernel) (by decide +kernel)
set_option maxRecDepth 20000 in
theorem gX0_greatestStep_X0_further : GoodIn wsX0_greatestStep (wsV RX0 40 RX0 yX0_further wsX0_further) := goodIn_app (goodIn_of _ (by decide +kernel)) ggX0_greatestStep_X0_further
theorem dX0_greatestStep_0 : decode cX0_greatestStep 0 = .ok (.iconst 0, 1) := by decide +kernel
theorem dX0_greatestStep_1 : decode cX0_greatestStep 1 = .ok (.istore_n 2, 1) := by decide +kernel
theorem dX0_greatestStep_2 : decode cX0_greatestStep 2 = .ok (.iconst 0, 1) := by decide +kernel
theorem dX0_greatestStep_3 : decode cX0_greatestStep 3 = .ok (.istore_n 3, 1) := by decide +kernel
theorem dX0_greatestStep_4 : decode cX0_greatestStep 4 = .ok (.iload_n 3, 1) := by decide +kernel
theorem dX0_greatestStep_5 : decode cX0_greatestStep 5 = .ok (.aload_n 0, 1) := by decide +kernel
theorem dX0_greatestStep_6 : decode cX0_greatestStep 6 = .ok (.getfield 24, 3) := by decide +kernel
theorem dX0_greatestStep_9 : decode cX0_greatestStep 9 = .ok (.if_icmp .ge 43, 3) := by decide +kernel
theorem dX0_greatestStep_12 : decode cX0_greatestStep 12 = .ok (.aload_n 0, 1) := by decide +kernel
theorem dX0_greatestStep_13 : decode cX0_greatestStep 13 = .ok (.getfield 11, 3) := by decide +kernel
theorem dX0_greatestStep_16 : decode cX0_greatestStep 16 = .ok (.iload_n 1, 1) := by decide +kernel
theorem dX0_greatestStep_17 : decode cX0_greatestStep 17 = .ok (.aaload, 1) := by decide +kernel
theorem dX0_greatestStep_18 : decode cX0_greatestStep 18 = .ok (.aload_n 0, 1) := by decide +kernel
theorem dX0_greatestStep_19 : decode cX0_greatestStep 19 = .ok (.iload_n 3, 1) := by decide +kernel
theorem dX0_greatestStep_20 : decode cX0_greatestStep 20 = .ok (.iconst 1, 1) := by decide +kernel
theorem dX0_greatestStep_21 : decode cX0_greatestStep 21 = .ok (.invokevirtual 40, 3) := by decide +kernel
theorem dX0_greatestStep_24 : decode cX0_greatestStep 24 = .ok (.iaload, 1) := by decide +kernel
theorem dX0_greatestStep_25 : decode cX0_greatestStep 25 = .ok (.aload_n 0, 1) := by decide +kernel
theorem dX0_greatestStep_26 : decode cX0_greatestStep 26 = .ok (.getfield 11, 3) := by decide +kernel
theorem dX0_greatestStep_29 : decode cX0_greatestStep 29 = .ok (.iload_n 1, 1) := by decide +kernel
theorem dX0_greatestStep_30 : decode cX0_greatestStep 30 = .ok (.aaload, 1) := by decide +kernel
theorem dX0_greatestStep_31 : decode cX0_greatestStep 31 = .ok (.iload_n 3, 1) := by decide +kernel
theorem dX0_greatestStep_32 : decode cX0_greatestStep 32 = .ok (.iaload, 1) := by decide +kernel
theorem dX0_greatestStep_33 : decode cX0_greatestStep 33 = .ok (.isub, 1) := by decide +kernel
theorem dX0_greatestStep_34 : decode cX0_greatestStep 34 = .ok (.istore 4, 2) := by decide +kernel
theorem dX0_greatestStep_36 : decode cX0_greatestStep 36 = .ok (.iload_n 2, 1) := by decide +kernel
theorem dX0_greatestStep_37 : decode cX0_greatestStep 37 = .ok (.iload 4, 2) := by decide +kernel
theorem dX0_greatestStep_39 : decode cX0_greatestStep 39 = .ok (.invokestatic 55, 3) := by decide +kernel
theorem dX0_greatestStep_42 : decode cX0_greatestStep 42 = .ok (.invokestatic 60, 3) := by decide +kernel
theorem dX0_greatestStep_45 : decode cX0_greatestStep 45 = .ok (.istore_n 2, 1) := by decide +kernel
theorem dX0_greatestStep_46 : decode cX0_greatestStep 46 = .ok (.iinc 3 1, 3) := by decide +kernel
theorem dX0_greatestStep_49 : decode cX0_greatestStep 49 = .ok (.goto (-45), 3) := by decide +kernel
theorem dX0_greatestStep_52 : decode cX0_greatestStep 52 = .ok (.iload_n 2, 1) := by decide +kernel
theorem dX0_greatestStep_53 : decode cX0_greatestStep 53 = .ok (.ireturn, 1) := by decide +kernel
theorem dX0_further_0 : decode cX0_further 0 = .ok (.iload_n 1, 1) := by decide +kernel
theorem dX0_further_1 : decode cX0_further 1 = .ok (.iload_n 2, 1) := by decide +kernel
theorem dX0_further_2 : decode cX0_further 2 = .ok (.iadd, 1) := by decide +kernel
theorem dX0_further_3 : decode cX0_further 3 = .ok (.istore_n 3, 1) := by decide +kernel
theorem dX0_further_4 : decode cX0_further 4 = .ok (.iload_n 3, 1) := by decide +kernel
theorem dX0_further_5 : decode cX0_further 5 = .ok (.aload_n 0, 1) := by decide +kernel
theorem dX0_further_6 : decode cX0_further 6 = .ok (.getfield 24, 3) := by decide +kernel
theorem dX0_further_9 : decode cX0_further 9 = .ok (.if_icmp .ge 7, 3) := by decide +kernel
theorem dX0_further_12 : decode cX0_further 12 = .ok (.iload_n 3, 1) := by decide +kernel
theorem dX0_further_13 : decode cX0_further 13 = .ok (.goto 9, 3) := by decide +kernel
theorem dX0_further_16 : decode cX0_further 16 = .ok (.iload_n 3, 1) := by decide +kernel
theorem dX0_further_17 : decode cX0_further 17 = .ok (.aload_n 0, 1) := by decide +kernel
theorem dX0_further_18 : decode cX0_further 18 = .ok (.getfield 24, 3) := by decide +kernel
theorem dX0_further_21 : decode cX0_further 21 = .ok (.isub, 1) := by decide +kernel
theorem dX0_further_22 : decode cX0_further 22 = .ok (.ireturn, 1) := by decide +kernel
theorem dX1_init_0 : decode cX1_init 0 = .ok (.aload_n 0, 1) := by decide +kernel
theorem dX1_init_1 : decode cX1_init 1 = .ok (.invokespecial 3, 3) := by decide +kernel
theorem dX1_init_4 : decode cX1_init 4 = .ok (.aload_n 0, 1) := by decide +kernel
theorem dX1_init_5 : decode cX1_init 5 = .ok (.iconst (-1), 1) := by decide +kernel
theorem dX1_init_6 : decode cX1_init 6 = .ok (.putfield 11, 3) := by decide +kernel
theorem dX1_init_9 : decode cX1_init 9 = .ok (.aload_n 0, 1) := by decide +kernel
theorem dX1_init_10 : decode cX1_init 10 = .ok (.iconst (-1), 1) := by decide +kernel
theorem dX1_init_11 : decode cX1_init 11 = .ok (.putfield 15, 3) := by decide +kernel
theorem dX1_init_14 : decode cX1_init 14 = .ok (.aload_n 0, 1) := by decide +kernel
theorem dX1_init_15 : decode cX1_init 15 = .ok (.iconst (-1), 1) := by decide +kernel
theorem dX1_init_16 : decode cX1_init 16 = .ok (.putfield 18, 3) := by decide +kernel
theorem dX1_init_19 : decode cX1_init 19 = .ok (.return_, 1) := by decide +kernel
theorem dX1_clear_0 : decode cX1_clear 0 = .ok (.aload_n 0, 1) := by decide +kernel
theorem dX1_clear_1 : decode cX1_clear 1 = .ok (.iconst (-1), 1) := by decide +kernel
theorem dX1_clear_2 : decode cX1_clear 2 = .ok (.putfield 11, 3) := by decide +kernel
theorem dX1_clear_5 : decode cX1_clear 5 = .ok (.aload_n 0, 1) := by decide +kernel
theorem dX1_clear_6 : decode cX1_clear 6 = .ok (.iconst (-1), 1) := by decide +kernel
theorem dX1_clear_7 : decode cX1_clear 7 = .ok (.putfield 15, 3) := by decide +kernel
theorem dX1_clear_10 : decode cX1_clear 10 = .ok (.aload_n 0, 1) := by decide +kernel
theorem dX1_clear_11 : decode cX1_clear 11 = .ok (.iconst (-1), 1) := by decide +kernel
theorem dX1_clear_12 : decode cX1_clear 12 = .ok (.putfield 18, 3) := by decide +kernel
theorem dX1_clear_15 : decode cX1_clear 15 = .ok (.return_, 1) := by decide +kernel
theorem dX1_tell_0 : decode cX1_tell 0 = .ok (.iload_n 1, 1) := by decide +kernel
theorem dX1_tell_1 : decode cX1_tell 1 = .ok (.tableswitch 51 1 3 #[27, 35, 43], 27) := by decide +kernel
theorem dX1_tell_28 : decode cX1_tell 28 = .ok (.aload_n 0, 1) := by decide +kernel
theorem dX1_tell_29 : decode cX1_tell 29 = .ok (.iload_n 2, 1) := by decide +kernel
theorem dX1_tell_30 : decode cX1_tell 30 = .ok (.putfield 11, 3) := by decide +kernel
theorem dX1_tell_33 : decode cX1_tell 33 = .ok (.goto 19, 3) := by decide +kernel
theorem dX1_tell_36 : decode cX1_tell 36 = .ok (.aload_n 0, 1) := by decide +kernel
theorem dX1_tell_37 : decode cX1_tell 37 = .ok (.iload_n 2, 1) := by decide +kernel
theorem dX1_tell_38 : decode cX1_tell 38 = .ok (.putfield 15, 3) := by decide +kernel
theorem dX1_tell_41 : decode cX1_tell 41 = .ok (.goto 11, 3) := by decide +kernel
theorem dX1_tell_44 : decode cX1_tell 44 = .ok (.aload_n 0, 1) := by decide +kernel
theorem dX1_tell_45 : decode cX1_tell 45 = .ok (.iload_n 2, 1) := by decide +kernel
theorem dX1_tell_46 : decode cX1_tell 46 = .ok (.putfield 18, 3) := by decide +kernel
theorem dX1_tell_49 : decode cX1_tell 49 = .ok (.goto 3, 3) := by decide +kernel
theorem dX1_tell_52 : decode cX1_tell 52 = .ok (.return_, 1) := by decide +kernel
theorem dX1_size_0 : decode cX1_size 0 = .ok (.aload_n 0, 1) := by decide +kernel
theorem dX1_size_1 : decode cX1_size 1 = .ok (.getfield 11, 3) := by decide +kernel
theorem dX1_size_4 : decode cX1_size 4 = .ok (.iconst (-1), 1) := by decide +kernel
theorem dX1_size_5 : decode cX1_size 5 = .ok (.if_icmp .ne 7, 3) := by decide +kernel
theorem dX1_size_8 : decode cX1_size 8 = .ok (.iconst 0, 1) := by decide +kernel
theorem dX1_size_9 : decode cX1_size 9 = .ok (.goto 4, 3) := by decide +kernel
theorem dX1_size_12 : decode cX1_size 12 = .ok (.iconst 1, 1) := by decide +kernel
theorem dX1_size_13 : decode cX1_size 13 = .ok (.istore_n 1, 1) := by decide +kernel
theorem dX1_size_14 : decode cX1_size 14 = .ok (.iload_n 1, 1) := by decide +kernel
theorem dX1_size_15 : decode cX1_size 15 = .ok (.aload_n 0, 1) := by decide +kernel
theorem dX1_size_16 : decode cX1_size 16 = .ok (.getfield 15, 3) := by decide +kernel
theorem dX1_size_19 : decode cX1_size 19 = .ok (.iconst (-1), 1) := by decide +kernel
theorem dX1_size_20 : decode cX1_size 20 = .ok (.if_icmp .ne 7, 3) := by decide +kernel
theorem dX1_size_23 : decode cX1_size 23 = .ok (.iconst 0, 1) := by decide +kernel
theorem dX1_size_24 : decode cX1_size 24 = .ok (.goto 4, 3) := by decide +kernel
theorem dX1_size_27 : decode cX1_size 27 = .ok (.iconst 1, 1) := by decide +kernel
theorem dX1_size_28 : decode cX1_size 28 = .ok (.iadd, 1) := by decide +kernel
theorem dX1_size_29 : decode cX1_size 29 = .ok (.istore_n 1, 1) := by decide +kernel
theorem dX1_size_30 : decode cX1_size 30 = .ok (.iload_n 1, 1) := by decide +kernel
theorem dX1_size_31 : decode cX1_size 31 = .ok (.aload_n 0, 1) := by decide +kernel
theorem dX1_size_32 : decode cX1_size 32 = .ok (.getfield 18, 3) := by decide +kernel
theorem dX1_size_35 : decode cX1_size 35 = .ok (.iconst (-1), 1) := by decide +kernel
theorem dX1_size_36 : decode cX1_size 36 = .ok (.if_icmp .ne 7, 3) := by decide +kernel
theorem dX1_size_39 : decode cX1_size 39 = .ok (.iconst 0, 1) := by decide +kernel
theorem dX1_size_40 : decode cX1_size 40 = .ok (.goto 4, 3) := by decide +kernel
theorem dX1_size_43 : decode cX1_size 43 = .ok (.iconst 1, 1) := by decide +kernel
theorem dX1_size_44 : decode cX1_size 44 = .ok (.iadd, 1) := by decide +kernel
theorem dX1_size_45 : decode cX1_size 45 = .ok (.istore_n 1, 1) := by decide +kernel
theorem dX1_size_46 : decode cX1_size 46 = .ok (.iload_n 1, 1) := by decide +kernel
theorem dX1_size_47 : decode cX1_size 47 = .ok (.ireturn, 1) := by decide +kernel
theorem dX1_isLoose_0 : decode cX1_isLoose 0 = .ok (.iload_n 1, 1) := by decide +kernel
theorem dX1_isLoose_1 : decode cX1_isLoose 1 = .ok (.aload_n 0, 1) := by decide +kernel
theorem dX1_isLoose_2 : decode cX1_isLoose 2 = .ok (.getfield 15, 3) := by decide +kernel
theorem dX1_isLoose_5 : decode cX1_isLoose 5 = .ok (.if_icmp .ne 7, 3) := by decide +kernel
theorem dX1_isLoose_8 : decode cX1_isLoose 8 = .ok (.iconst 1, 1) := by decide +kernel
theorem dX1_isLoose_9 : decode cX1_isLoose 9 = .ok (.goto 4, 3) := by decide +kernel
theorem dX1_isLoose_12 : decode cX1_isLoose 12 = .ok (.iconst 0, 1) := by decide +kernel
theorem dX1_isLoose_13 : decode cX1_isLoose 13 = .ok (.ireturn, 1) := by decide +kernel
theorem dX1_wornHeight_0 : decode cX1_wornHeight 0 = .ok (.iload_n 1, 1) := by decide +kernel
theorem dX1_wornHeight_1 : decode cX1_wornHeight 1 = .ok (.aload_n 0, 1) := by decide +kernel
theorem dX1_wornHeight_2 : decode cX1_wornHeight 2 = .ok (.getfield 11, 3) := by decide +kernel
theorem dX1_wornHeight_5 : decode cX1_wornHeight 5 = .ok (.if_icmp .ne 13, 3) := by decide +kernel
theorem dX1_wornHeight_8 : decode cX1_wornHeight 8 = .ok (.iload_n 2, 1) := by decide +kernel
theorem dX1_wornHeight_9 : decode cX1_wornHeight 9 = .ok (.ifCond .le 9, 3) := by decide +kernel
theorem dX1_wornHeight_12 : decode cX1_wornHeight 12 = .ok (.iload_n 2, 1) := by decide +kernel
theorem dX1_wornHeight_13 : decode cX1_wornHeight 13 = .ok (.iconst 1, 1) := by decide +kernel
theorem dX1_wornHeight_14 : decode cX1_wornHeight 14 = .ok (.isub, 1) := by decide +kernel
theorem dX1_wornHeight_15 : decode cX1_wornHeight 15 = .ok (.goto 4, 3) := by decide +kernel
theorem dX1_wornHeight_18 : decode cX1_wornHeight 18 = .ok (.iload_n 2, 1) := by decide +kernel
theorem dX1_wornHeight_19 : decode cX1_wornHeight 19 = .ok (.ireturn, 1) := by decide +kernel
theorem dX1_bentX_0 : decode cX1_bentX 0 = .ok (.aload_n 0, 1) := by decide +kernel
theorem dX1_bentX_1 : decode cX1_bentX 1 = .ok (.getfield 18, 3) := by decide +kernel
theorem dX1_bentX_4 : decode cX1_bentX 4 = .ok (.ifCond .ne 9, 3) := by decide +kernel
theorem dX1_bentX_7 : decode cX1_bentX 7 = .ok (.iload_n 1, 1) := by decide +kernel
theorem dX1_bentX_8 : decode cX1_bentX 8 = .ok (.iconst 1, 1) := by decide +kernel
theorem dX1_bentX_9 : decode cX1_bentX 9 = .ok (.iadd, 1) := by decide +kernel
theorem dX1_bentX_10 : decode cX1_bentX 10 = .ok (.goto 4, 3) := by decide +kernel
theorem dX1_bentX_13 : decode cX1_bentX 13 = .ok (.iload_n 1, 1) := by decide +kernel
theorem dX1_bentX_14 : decode cX1_bentX 14 = .ok (.ireturn, 1) := by decide +kernel
theorem dX1_bentY_0 : decode cX1_bentY 0 = .ok (.aload_n 0, 1) := by decide +kernel
theorem dX1_bentY_1 : decode cX1_bentY 1 = .ok (.getfield 18, 3) := by decide +kernel
theorem dX1_bentY_4 : decode cX1_bentY 4 = .ok (.iconst 1, 1) := by decide +kernel
theorem dX1_bentY_5 : decode cX1_bentY 5 = .ok (.if_icmp .ne 14, 3) := by decide +kernel
theorem dX1_bentY_8 : decode cX1_bentY 8 = .ok (.bipush 9, 2) := by decide +kernel
theorem dX1_bentY_10 : decode cX1_bentY 10 = .ok (.iload_n 1, 1) := by decide +kernel
theorem dX1_bentY_11 : decode cX1_bentY 11 = .ok (.iconst 1, 1) := by decide +kernel
theorem dX1_bentY_12 : decode cX1_bentY 12 = .ok (.iadd, 1) := by decide +kernel
theorem dX1_bentY_13 : decode cX1_bentY 13 = .ok (.invokestatic 21, 3) := by decide +kernel
theorem dX1_bentY_16 : decode cX1_bentY 16 = .ok (.goto 4, 3) := by decide +kernel
theorem dX1_bentY_19 : decode cX1_bentY 19 = .ok (.iload_n 1, 1) := by decide +kernel
theorem dX1_bentY_20 : decode cX1_bentY 20 = .ok (.ireturn, 1) := by decide +kernel
set_option maxRecDepth 20000 in
theorem ggX2_init_X1_init : GoodIn wsX2_init wsX1_init := goodIn_r _ [18, 19, 2, 3, 20, 21, 22, 31, 32, 33] (by decide +kernel) (by decide +kernel)
set_option maxRecDepth 20000 in
theorem gX2_init_X1_init_n11 : GoodIn wsX2_init (wsX1_init) := ggX2_init_X1_init
set_option maxRecDepth 20000 in
theorem ggX2_init_X6_init : GoodIn wsX2_init wsX6_init := goodIn_r _ [25, 26, 2, 3, 27, 28, 29, 30, 41, 42] (by decide +kernel) (by decide +kernel)
set_option maxRecDepth 20000 in
theorem gX2_init_X6_init : GoodIn wsX2_init (wsX6_init) := ggX2_init_X6_init
theorem dX2_init_0 : decode cX2_init 0 = .ok (.aload_n 0, 1) := by decide +kernel
theorem dX2_init_1 : decode cX2_init 1 = .ok (.invokespecial 3, 3) := by decide +kernel
theorem dX2_init_4 : decode cX2_init 4 = .ok (.aload_n 0, 1) := by decide +kernel
theorem dX2_init_5 : decode cX2_init 5 = .ok (.new 9, 3) := by decide +kernel
theorem dX2_init_8 : decode cX2_init 8 = .ok (.dup, 1) := by decide +kernel
theorem dX2_init_9 : decode cX2_init 9 = .ok (.invokespecial 11, 3) := by decide +kernel
theorem dX2_init_12 : decode cX2_init 12 = .ok (.putfield 12, 3) := by decide +kernel
theorem dX2_init_15 : decode cX2_init 15 = .ok (.aload_n 0, 1) := by decide +kernel
theorem dX2_init_16 : decode cX2_init 16 = .ok (.new 18, 3) := by decide +kernel
theorem dX2_init_19 : decode cX2_init 19 = .ok (.dup, 1) := by decide +kernel
theorem dX2_init_20 : decode cX2_init 20 = .ok (.iconst 0, 1) := by decide +kernel
theorem dX2_init_21 : decode cX2_init 21 = .ok (.invokespecial 20, 3) := by decide +kernel
theorem dX2_init_24 : decode cX2_init 24 = .ok (.putfield 23, 3) := by decide +kernel
theorem dX2_init_27 : decode cX2_init 27 = .ok (.aload_n 0, 1) := by decide +kernel
theorem dX2_init_28 : decode cX2_init 28 = .ok (.bipush (-9), 2) := by decide +kernel
theorem dX2_init_30 : decode cX2_init 30 = .ok (.putfield 27, 3) := by decide +kernel
theorem dX2_init_33 : decode cX2_init 33 = .ok (.aload_n 0, 1) := by decide +kernel
theorem dX2_init_34 : decode cX2_init 34 = .ok (.bipush (-9), 2) := by decide +kernel
theorem dX2_init_36 : decode cX2_init 36 = .ok (.putfield 31, 3) := by decide +kernel
theorem dX2_init_39 : decode cX2_init 39 = .ok (.aload_n 0, 1) := by decide +kernel
theorem dX2_init_40 : decode cX2_init 40 = .ok (.aload_n 1, 1) := by decide +kernel
theorem dX2_init_41 : decode cX2_init 41 = .ok (.putfield 34, 3) := by decide +kernel
theorem dX2_init_44 : decode cX2_init 44 = .ok (.aload_n 0, 1) := by decide +kernel
theorem dX2_init_45 : decode cX2_init 45 = .ok (.aload_n 2, 1) := by decide +kernel
theorem dX2_init_46 : decode cX2_init 46 = .ok (.putfield 38, 3) := by decide +kernel
theorem dX2_init_49 : decode cX2_init 49 = .ok (.aload_n 0, 1) := by decide +kernel
theorem dX2_init_50 : decode cX2_init 50 = .ok (.aload_n 3, 1) := by decide +kernel
theorem dX2_init_51 : decode cX2_init 51 = .ok (.putfield 42, 3) := by decide +kernel
theorem dX2_init_54 : decode cX2_init 54 = .ok (.return_, 1) := by decide +kernel
theorem dX2_kind_0 : decode cX2_kind 0 = .ok (.aload_n 0, 1) := by decide +kernel
theorem dX2_kind_1 : decode cX2_kind 1 = .ok (.getfield 27, 3) := by decide +kernel
theorem dX2_kind_4 : decode cX2_kind 4 = .ok (.ireturn, 1) := by decide +kernel
theorem dX2_which_0 : decode cX2_which 0 = .ok (.aload_n 0, 1) := by decide +kernel
theorem dX2_which_1 : decode cX2_which 1 = .ok (.getfield 31, 3) := by decide +kernel
theorem dX2_which_4 : decode cX2_which 4 = .ok (.ireturn, 1) := by decide +kernel
set_option maxRecDepth 20000 in
theorem ggX2_search_X2_fits : GoodIn wsX2_search wsX2_fits := goodIn_r _ [8, 9, 10, 3, 11, 12, 13, 14, 15, 16, 17, 18, 19, 20, 21, 22, 23, 24, 25, 26, 27, 28, 29, 30, 31, 32, 33, 34, 35, 36, 37, 38, 39, 40, 41, 42, 43, 44, 45, 46, 47, 48, 49, 50, 51, 52, 53, 54, 55, 56, 57, 58, 59, 60, 61, 62, 63, 64, 65, 66, 67, 68, 69, 70, 71, 72, 73, 74, 75, 76, 77, 78, 79, 80, 81, 82, 83, 84, 85, 86, 87, 88, 89, 90, 91, 92, 93, 94, 95, 96, 97, 98, 99, 100, 101, 102, 103, 104, 105, 106, 107, 108, 109, 110, 111, 112, 113, 114, 115, 116, 117, 118, 119, 120, 121, 122, 123, 124, 125, 126, 127, 128, 129, 130, 131, 132, 133, 134, 135, 136, 137, 138, 139, 140, 141, 142, 143, 144, 145, 146, 147, 148, 153, 154, 155, 156, 157, 158, 159, 160, 161, 162, 163, 164, 165, 166, 167, 168, 169, 170, 171, 172, 173, 174, 175, 176] (by decide +kernel) (by decide +kernel)
set_option maxRecDepth 20000 in
theorem gX2_search_X2_fits : GoodIn wsX2_search (wsV RX2 46 RX2 yX2_fits wsX2_fits) := goodIn_app (goodIn_of _ (by decide +kernel)) ggX2_search_X2_fits
set_option maxRecDepth 20000 in
theorem ggX2_search_X5_partsOfKind : GoodIn wsX2_search wsX5_partsOfKind := goodIn_r _ [152, 40, 165, 166, 167, 168, 169, 170] (by decide +kernel) (by decide +kernel)
set_option maxRecDepth 20000 in
theorem gX2_search_X5_partsOfKind : GoodIn wsX2_search (wsV RX2 50 RX5 yX5_partsOfKind wsX5_partsOfKind) := goodIn_app (goodIn_of _ (by decide +kernel)) ggX2_search_X5_partsOfKind
theorem dX2_search_0 : decode cX2_search 0 = .ok (.aload_n 0, 1) := by decide +kernel
theorem dX2_search_1 : decode cX2_search 1 = .ok (.iconst 0, 1) := by decide +kernel
theorem dX2_search_2 : decode cX2_search 2 = .ok (.putfield 27, 3) := by decide +kernel
theorem dX2_search_5 : decode cX2_search 5 = .ok (.aload_n 0, 1) := by decide +kernel
theorem dX2_search_6 : decode cX2_search 6 = .ok (.bipush (-9), 2) := by decide +kernel
theorem dX2_search_8 : decode cX2_search 8 = .ok (.putfield 31, 3) := by decide +kernel
theorem dX2_search_11 : decode cX2_search 11 = .ok (.aload_n 0, 1) := by decide +kernel
theorem dX2_search_12 : decode cX2_search 12 = .ok (.aload_n 1, 1) := by decide +kernel
theorem dX2_search_13 : decode cX2_search 13 = .ok (.iconst 0, 1) := by decide +kernel
theorem dX2_search_14 : decode cX2_search 14 = .ok (.iconst 0, 1) := by decide +kernel
theorem dX2_search_15 : decode cX2_search 15 = .ok (.invokevirtual 46, 3) := by decide +kernel
theorem dX2_search_18 : decode cX2_search 18 = .ok (.ifCond .eq 4, 3) := by decide +kernel
theorem dX2_search_21 : decode cX2_search 21 = .ok (.return_, 1) := by decide +kernel
theorem dX2_search_22 : decode cX2_search 22 = .ok (.iconst 1, 1) := by decide +kernel
theorem dX2_search_23 : decode cX2_search 23 = .ok (.istore_n 2, 1) := by decide +kernel
theorem dX2_search_24 : decode cX2_search 24 = .ok (.iload_n 2, 1) := by decide +kernel
theorem dX2_search_25 : decode cX2_search 25 = .ok (.iconst 3, 1) := by decide +kernel
theorem dX2_search_26 : decode cX2_search 26 = .ok (.if_icmp .gt 56, 3) := by decide +kernel
theorem dX2_search_29 : decode cX2_search 29 = .ok (.aload_n 0, 1) := by decide +kernel
theorem dX2_search_30 : decode cX2_search 30 = .ok (.getfield 42, 3) := by decide +kernel
theorem dX2_search_33 : decode cX2_search 33 = .ok (.iload_n 2, 1) := by decide +kernel
theorem dX2_search_34 : decode cX2_search 34 = .ok (.invokevirtual 50, 3) := by decide +kernel
theorem dX2_search_37 : decode cX2_search 37 = .ok (.istore_n 3, 1) := by decide +kernel
theorem dX2_search_38 : decode cX2_search 38 = .ok (.iconst 0, 1) := by decide +kernel
theorem dX2_search_39 : decode cX2_search 39 = .ok (.istore 4, 2) := by decide +kernel
theorem dX2_search_41 : decode cX2_search 41 = .ok (.iload 4, 2) := by decide +kernel
theorem dX2_search_43 : decode cX2_search 43 = .ok (.iload_n 3, 1) := by decide +kernel
theorem dX2_search_44 : decode cX2_search 44 = .ok (.if_icmp .ge 32, 3) := by decide +kernel
theorem dX2_search_47 : decode cX2_search 47 = .ok (.aload_n 0, 1) := by decide +kernel
theorem dX2_search_48 : decode cX2_search 48 = .ok (.aload_n 1, 1) := by decide +kernel
theorem dX2_search_49 : decode cX2_search 49 = .ok (.iload_n 2, 1) := by decide +kernel
theorem dX2_search_50 : decode cX2_search 50 = .ok (.iload 4, 2) := by decide +kernel
theorem dX2_search_52 : decode cX2_search 52 = .ok (.invokevirtual 46, 3) := by decide +kernel
theorem dX2_search_55 : decode cX2_search 55 = .ok (.ifCond .eq 15, 3) := by decide +kernel
theorem dX2_search_58 : decode cX2_search 58 = .ok (.aload_n 0, 1) := by decide +kernel
theorem dX2_search_59 : decode cX2_search 59 = .ok (.iload_n 2, 1) := by decide +kernel
theorem dX2_search_60 : decode cX2_search 60 = .ok (.putfield 27, 3) := by decide +kernel
theorem dX2_search_63 : decode cX2_search 63 = .ok (.aload_n 0, 1) := by decide +kernel
theorem dX2_search_64 : decode cX2_search 64 = .ok (.iload 4, 2) := by decide +kernel
theorem dX2_search_66 : decode cX2_search 66 = .ok (.putfield 31, 3) := by decide +kernel
theorem dX2_search_69 : decode cX2_search 69 = .ok (.return_, 1) := by decide +kernel
theorem dX2_search_70 : decode cX2_search 70 = .ok (.iinc 4 1, 3) := by decide +kernel
theorem dX2_search_73 : decode cX2_search 73 = .ok (.goto (-32), 3) := by decide +kernel
theorem dX2_search_76 : decode cX2_search 76 = .ok (.iinc 2 1, 3) := by decide +kernel
theorem dX2_search_79 : decode cX2_search 79 = .ok (.goto (-55), 3) := by decide +kernel
theorem dX2_search_82 : decode cX2_search 82 = .ok (.aload_n 0, 1) := by decide +kernel
theorem dX2_search_83 : decode cX2_search 83 = .ok (.bipush (-9), 2) := by decide +kernel
theorem dX2_search_85 : decode cX2_search 85 = .ok (.putfield 27, 3) := by decide +kernel
theorem dX2_search_88 : decode cX2_search 88 = .ok (.return_, 1) := by decide +kernel
set_option maxRecDepth 20000 in
theorem ggX2_fits_X1_clear : GoodIn wsX2_fits wsX1_clear := goodIn_r _ [10, 11, 12, 13, 149, 150, 151] (by decide +kernel) (by decide +kernel)
set_option maxRecDepth 20000 in
theorem gX2_fits_X1_clear : GoodIn wsX2_fits (wsV RX2 56 RX1 yX1_clear wsX1_clear) := goodIn_app (goodIn_of _ (by decide +kernel)) ggX2_fits_X1_clear
set_option maxRecDepth 20000 in
theorem ggX2_fits_X1_tell : GoodIn wsX2_fits wsX1_tell := goodIn_r _ [17, 11, 12, 13, 149, 150, 151] (by decide +kernel) (by decide +kernel)
set_option maxRecDepth 20000 in
theorem gX2_fits_X1_tell : GoodIn wsX2_fits (wsV RX2 59 RX1 yX1_tell wsX1_tell) := goodIn_app (goodIn_of _ (by decide +kernel)) ggX2_fits_X1_tell
set_option maxRecDepth 20000 in
theorem ggX2_fits_X6_clear : GoodIn wsX2_fits wsX6_clear := goodIn_r _ [22, 23, 24, 25, 26, 27, 152, 153] (by decide +kernel) (by decide +kernel)
set_option maxRecDepth 20000 in
theorem gX2_fits_X6_clear : GoodIn wsX2_fits (wsV RX2 63 RX6 yX6_clear wsX6_clear) := goodIn_app (goodIn_of _ (by decide +kernel)) ggX2_fits_X6_clear
set_option maxRecDepth 20000 in
theorem ggX2_fits_X5_pegs : GoodIn wsX2_fits wsX5_pegs := goodIn_r _ [32, 33, 154, 155, 156, 157, 158, 159] (by decide +kernel) (by decide +kernel)
set_option maxRecDepth 20000 in
theorem gX2_fits_X5_pegs : GoodIn wsX2_fits (wsV RX2 64 RX5 yX5_pegs wsX5_pegs) := goodIn_app (goodIn_of _ (by decide +kernel)) ggX2_fits_X5_pegs
set_option maxRecDepth 20000 in
theorem ggX2_fits_X1_isLoose : GoodIn wsX2_fits wsX1_isLoose := goodIn_r _ [37, 12, 149, 150, 151] (by decide +kernel) (by decide +kernel)
set_option maxRecDepth 20000 in
theorem gX2_fits_X1_isLoose : GoodIn wsX2_fits (wsV RX2 68 RX1 yX1_isLoose wsX1_isLoose) := goodIn_app (goodIn_of _ (by decide +kernel)) ggX2_fits_X1_isLoose
set_option maxRecDepth 20000 in
theorem ggX2_fits_X0_steps : GoodIn wsX2_fits wsX0_steps := goodIn_r _ [42, 43, 160, 161, 162, 163] (by decide +kernel) (by decide +kernel)
set_option maxRecDepth 20000 in
theorem gX2_fits_X0_steps : GoodIn wsX2_fits (wsV RX2 72 RX0 yX0_steps wsX0_steps) := goodIn_app (goodIn_of _ (by decide +kernel)) ggX2_fits_X0_steps
set_option maxRecDepth 20000 in
theorem ggX2_fits_X3_writeStep : GoodIn wsX2_fits wsX3_writeStep := goodIn_r _ [48, 49, 50, 51, 47, 52, 53, 54, 55, 56, 31, 57, 58, 59, 60, 61, 62, 63, 64, 65, 66, 67, 41, 68, 69, 70, 71, 72, 9, 73, 11, 74, 75, 76, 77, 78, 79, 80, 81, 82, 83, 84, 85, 86, 87, 88, 89, 90, 91, 13, 92, 93, 94, 95, 96, 97, 98, 99, 100, 101, 102, 103, 104, 105, 106, 107, 108, 109, 110, 111, 21, 112, 23, 113, 114, 115, 116, 117, 118, 119, 120, 121, 122, 123, 124, 125, 126, 127, 128, 129, 130, 131, 132, 133, 134, 135, 136, 164, 165, 154, 155, 156, 157, 158, 159, 160, 161, 162, 163, 149, 150, 151, 152, 153] (by decide +kernel) (by decide +kernel)
set_option maxRecDepth 20000 in
theorem gX2_fits_X3_writeStep : GoodIn wsX2_fits (wsV RX2 77 RX3 yX3_writeStep wsX3_writeStep) := goodIn_app (goodIn_of _ (by decide +kernel)) ggX2_fits_X3_writeStep
set_option maxRecDepth 20000 in
theorem ggX2_fits_X6_isWithin : GoodIn wsX2_fits wsX6_isWithin := goodIn_r _ [140, 23, 141, 152, 153] (by decide +kernel) (by decide +kernel)
set_option maxRecDepth 20000 in
theorem gX2_fits_X6_isWithin : GoodIn wsX2_fits (wsV RX2 83 RX6 yX6_isWithin wsX6_isWithin) := goodIn_app (goodIn_of _ (by decide +kernel)) ggX2_fits_X6_isWithin
theorem dX2_fits_0 : decode cX2_fits 0 = .ok (.aload_n 0, 1) := by decide +kernel
theorem dX2_fits_1 : decode cX2_fits 1 = .ok (.getfield 12, 3) := by decide +kernel
theorem dX2_fits_4 : decode cX2_fits 4 = .ok (.invokevirtual 56, 3) := by decide +kernel
theorem dX2_fits_7 : decode cX2_fits 7 = .ok (.aload_n 0, 1) := by decide +kernel
theorem dX2_fits_8 : decode cX2_fits 8 = .ok (.getfield 12, 3) := by decide +kernel
theorem dX2_fits_11 : decode cX2_fits 11 = .ok (.iload_n 2, 1) := by decide +kernel
theorem dX2_fits_12 : decode cX2_fits 12 = .ok (.iload_n 3, 1) := by decide +kernel
theorem dX2_fits_13 : decode cX2_fits 13 = .ok (.invokevirtual 59, 3) := by decide +kernel
theorem dX2_fits_16 : decode cX2_fits 16 = .ok (.aload_n 0, 1) := by decide +kernel
theorem dX2_fits_17 : decode cX2_fits 17 = .ok (.getfield 23, 3) := by decide +kernel
theorem dX2_fits_20 : decode cX2_fits 20 = .ok (.invokevirtual 63, 3) := by decide +kernel
theorem dX2_fits_23 : decode cX2_fits 23 = .ok (.iconst 0, 1) := by decide +kernel
theorem dX2_fits_24 : decode cX2_fits 24 = .ok (.istore 4, 2) := by decide +kernel
theorem dX2_fits_26 : decode cX2_fits 26 = .ok (.iload 4, 2) := by decide +kernel
theorem dX2_fits_28 : decode cX2_fits 28 = .ok (.aload_n 0, 1) := by decide +kernel
theorem dX2_fits_29 : decode cX2_fits 29 = .ok (.getfield 42, 3) := by decide +kernel
theorem dX2_fits_32 : decode cX2_fits 32 = .ok (.invokevirtual 64, 3) := by decide +kernel
theorem dX2_fits_35 : decode cX2_fits 35 = .ok (.if_icmp .ge 77, 3) := by decide +kernel
theorem dX2_fits_38 : decode cX2_fits 38 = .ok (.aload_n 0, 1) := by decide +kernel
theorem dX2_fits_39 : decode cX2_fits 39 = .ok (.getfield 12, 3) := by decide +kernel
theorem dX2_fits_42 : decode cX2_fits 42 = .ok (.iload 4, 2) := by decide +kernel
theorem dX2_fits_44 : decode cX2_fits 44 = .ok (.invokevirtual 68, 3) := by decide +kernel
theorem dX2_fits_47 : decode cX2_fits 47 = .ok (.ifCond .eq 6, 3) := by decide +kernel
theorem dX2_fits_50 : decode cX2_fits 50 = .ok (.goto 56, 3) := by decide +kernel
theorem dX2_fits_53 : decode cX2_fits 53 = .ok (.iconst 0, 1) := by decide +kernel
theorem dX2_fits_54 : decode cX2_fits 54 = .ok (.istore 5, 2) := by decide +kernel
theorem dX2_fits_56 : decode cX2_fits 56 = .ok (.iload 5, 2) := by decide +kernel
theorem dX2_fits_58 : decode cX2_fits 58 = .ok (.aload_n 0, 1) := by decide +kernel
theorem dX2_fits_59 : decode cX2_fits 59 = .ok (.getfield 38, 3) := by decide +kernel
theorem dX2_fits_62 : decode cX2_fits 62 = .ok (.invokevirtual 72, 3) := by decide +kernel
theorem dX2_fits_65 : decode cX2_fits 65 = .ok (.if_icmp .ge 28, 3) := by decide +kernel
theorem dX2_fits_68 : decode cX2_fits 68 = .ok (.aload_n 0, 1) := by decide +kernel
theorem dX2_fits_69 : decode cX2_fits 69 = .ok (.getfield 34, 3) := by decide +kernel
theorem dX2_fits_72 : decode cX2_fits 72 = .ok (.aload_n 0, 1) := by decide +kernel
theorem dX2_fits_73 : decode cX2_fits 73 = .ok (.getfield 12, 3) := by decide +kernel
theorem dX2_fits_76 : decode cX2_fits 76 = .ok (.aload_n 0, 1) := by decide +kernel
theorem dX2_fits_77 : decode cX2_fits 77 = .ok (.getfield 23, 3) := by decide +kernel
theorem dX2_fits_80 : decode cX2_fits 80 = .ok (.iload 4, 2) := by decide +kernel
theorem dX2_fits_82 : decode cX2_fits 82 = .ok (.iload 5, 2) := by decide +kernel
theorem dX2_fits_84 : decode cX2_fits 84 = .ok (.invokevirtual 77, 3) := by decide +kernel
theorem dX2_fits_87 : decode cX2_fits 87 = .ok (.iinc 5 1, 3) := by decide +kernel
theorem dX2_fits_90 : decode cX2_fits 90 = .ok (.goto (-34), 3) := by decide +kernel
theorem dX2_fits_93 : decode cX2_fits 93 = .ok (.aload_n 0, 1) := by decide +kernel
theorem dX2_fits_94 : decode cX2_fits 94 = .ok (.getfield 23, 3) := by decide +kernel
theorem dX2_fits_97 : decode cX2_fits 97 = .ok (.aload_n 1, 1) := by decide +kernel
theorem dX2_fits_98 : decode cX2_fits 98 = .ok (.invokevirtual 83, 3) := by decide +kernel
theorem dX2_fits_101 : decode cX2_fits 101 = .ok (.ifCond .ne 5, 3) := by decide +kernel
theorem dX2_fits_104 : decode cX2_fits 104 = .ok (.iconst 0, 1) := by decide +kernel
theorem dX2_fits_105 : decode cX2_fits 105 = .ok (.ireturn, 1) := by decide +kernel
theorem dX2_fits_106 : decode cX2_fits 106 = .ok (.iinc 4 1, 3) := by decide +kernel
theorem dX2_fits_109 : decode cX2_fits 109 = .ok (.goto (-83), 3) := by decide +kernel
theorem dX2_fits_112 : decode cX2_fits 112 = .ok (.aload_n 1, 1) := by decide +kernel
theorem dX2_fits_113 : decode cX2_fits 113 = .ok (.aload_n 0, 1) := by decide +kernel
theorem dX2_fits_114 : decode cX2_fits 114 = .ok (.getfield 23, 3) := by decide +kernel
theorem dX2_fits_117 : decode cX2_fits 117 = .ok (.invokevirtual 83, 3) := by decide +kernel
theorem dX2_fits_120 : decode cX2_fits 120 = .ok (.ireturn, 1) := by decide +kernel
theorem dX3_init_0 : decode cX3_init 0 = .ok (.aload_n 0, 1) := by decide +kernel
theorem dX3_init_1 : decode cX3_init 1 = .ok (.invokespecial 1, 3) := by decide +kernel
theorem dX3_init_4 : decode cX3_init 4 = .ok (.aload_n 0, 1) := by decide +kernel
theorem dX3_init_5 : decode cX3_init 5 = .ok (.aload_n 1, 1) := by decide +kernel
theorem dX3_init_6 : decode cX3_init 6 = .ok (.putfield 7, 3) := by decide +kernel
theorem dX3_init_9 : decode cX3_init 9 = .ok (.aload_n 0, 1) := by decide +kernel
theorem dX3_init_10 : decode cX3_init 10 = .ok (.aload_n 2, 1) := by decide +kernel
theorem dX3_init_11 : decode cX3_init 11 = .ok (.putfield 13, 3) := by decide +kernel
theorem dX3_init_14 : decode cX3_init 14 = .ok (.return_, 1) := by decide +kernel
set_option maxRecDepth 20000 in
theorem ggX3_writeStep_X3_isDown : GoodIn wsX3_writeStep wsX3_isDown := goodIn_r _ [5, 6, 7, 8, 9, 10, 11, 12, 13, 14, 15, 16, 4, 17, 18, 19, 20, 21, 22, 23, 24, 25, 26, 27, 28, 29, 30, 97, 98, 99, 100, 101, 102, 103, 104, 105, 106, 107, 108, 109, 110, 111] (by decide +kernel) (by decide +kernel)
set_option maxRecDepth 20000 in
theorem gX3_writeStep_X3_isDown : GoodIn wsX3_writeStep (wsV RX3 17 RX3 yX3_isDown wsX3_isDown) := goodIn_app (goodIn_of _ (by decide +kernel)) ggX3_writeStep_X3_isDown
set_option maxRecDepth 20000 in
theorem ggX3_writeStep_X3_xAt : GoodIn wsX3_writeStep wsX3_xAt := goodIn_r _ [34, 6, 35, 36, 37, 10, 38, 39, 13, 14, 15, 16, 4, 17, 18, 19, 20, 21, 22, 23, 24, 25, 26, 27, 28, 29, 30, 40, 41, 42, 43, 44, 45, 46, 47, 48, 49, 97, 98, 99, 100, 101, 102, 103, 104, 105, 106, 107, 108, 109, 110, 111] (by decide +kernel) (by decide +kernel)
set_option maxRecDepth 20000 in
theorem gX3_writeStep_X3_xAt : GoodIn wsX3_writeStep (wsV RX3 21 RX3 yX3_xAt wsX3_xAt) := goodIn_app (goodIn_of _ (by decide +kernel)) ggX3_writeStep_X3_xAt
set_option maxRecDepth 20000 in
theorem ggX3_writeStep_X3_yAt : GoodIn wsX3_writeStep wsX3_yAt := goodIn_r _ [53, 6, 54, 55, 56, 10, 57, 58, 13, 14, 15, 16, 4, 17, 18, 19, 20, 21, 22, 23, 24, 25, 26, 27, 28, 29, 30, 59, 60, 61, 62, 49, 63, 64, 65, 66, 97, 98, 99, 100, 101, 102, 103, 104, 105, 106, 107, 108, 109, 110, 111] (by decide +kernel) (by decide +kernel)
set_option maxRecDepth 20000 in
theorem gX3_writeStep_X3_yAt : GoodIn wsX3_writeStep (wsV RX3 25 RX3 yX3_yAt wsX3_yAt) := goodIn_app (goodIn_of _ (by decide +kernel)) ggX3_writeStep_X3_yAt
set_option maxRecDepth 20000 in
theorem ggX3_writeStep_X6_put : GoodIn wsX3_writeStep wsX6_put := goodIn_r _ [71, 72, 73, 74, 75, 70, 76, 77, 78, 79, 80, 112, 113] (by decide +kernel) (by decide +kernel)
set_option maxRecDepth 20000 in
theorem gX3_writeStep_X6_put : GoodIn wsX3_writeStep (wsV RX3 28 RX6 yX6_put wsX6_put) := goodIn_app (goodIn_of _ (by decide +kernel)) ggX3_writeStep_X6_put
set_option maxRecDepth 20000 in
theorem ggX3_writeStep_X3_drawLine : GoodIn wsX3_writeStep wsX3_drawLine := goodIn_r _ [83, 84, 85, 65, 86, 87, 88, 89, 90, 91, 4, 92, 93, 94, 95, 96, 67, 68, 69, 70, 71, 72, 73, 74, 75, 76, 77, 78, 79, 80, 112, 113] (by decide +kernel) (by decide +kernel)
set_option maxRecDepth 20000 in
theorem gX3_writeStep_X3_drawLine : GoodIn wsX3_writeStep (va_wsS RX3 34 yX3_drawLine wsX3_drawLine) := goodIn_app (goodIn_of _ (by decide +kernel)) ggX3_writeStep_X3_drawLine
theorem dX3_writeStep_0 : decode cX3_writeStep 0 = .ok (.aload_n 0, 1) := by decide +kernel
theorem dX3_writeStep_1 : decode cX3_writeStep 1 = .ok (.aload_n 1, 1) := by decide +kernel
theorem dX3_writeStep_2 : decode cX3_writeStep 2 = .ok (.iload_n 3, 1) := by decide +kernel
theorem dX3_writeStep_3 : decode cX3_writeStep 3 = .ok (.iload 4, 2) := by decide +kernel
theorem dX3_writeStep_5 : decode cX3_writeStep 5 = .ok (.invokevirtual 17, 3) := by decide +kernel
theorem dX3_writeStep_8 : decode cX3_writeStep 8 = .ok (.ifCond .ne 4, 3) := by decide +kernel
theorem dX3_writeStep_11 : decode cX3_writeStep 11 = .ok (.return_, 1) := by decide +kernel
theorem dX3_writeStep_12 : decode cX3_writeStep 12 = .ok (.aload_n 0, 1) := by decide +kernel
theorem dX3_writeStep_13 : decode cX3_writeStep 13 = .ok (.aload_n 1, 1) := by decide +kernel
theorem dX3_writeStep_14 : decode cX3_writeStep 14 = .ok (.iload_n 3, 1) := by decide +kernel
theorem dX3_writeStep_15 : decode cX3_writeStep 15 = .ok (.iload 4, 2) := by decide +kernel
theorem dX3_writeStep_17 : decode cX3_writeStep 17 = .ok (.invokevirtual 21, 3) := by decide +kernel
theorem dX3_writeStep_20 : decode cX3_writeStep 20 = .ok (.istore 5, 2) := by decide +kernel
theorem dX3_writeStep_22 : decode cX3_writeStep 22 = .ok (.aload_n 0, 1) := by decide +kernel
theorem dX3_writeStep_23 : decode cX3_writeStep 23 = .ok (.aload_n 1, 1) := by decide +kernel
theorem dX3_writeStep_24 : decode cX3_writeStep 24 = .ok (.iload_n 3, 1) := by decide +kernel
theorem dX3_writeStep_25 : decode cX3_writeStep 25 = .ok (.iload 4, 2) := by decide +kernel
theorem dX3_writeStep_27 : decode cX3_writeStep 27 = .ok (.invokevirtual 25, 3) := by decide +kernel
theorem dX3_writeStep_30 : decode cX3_writeStep 30 = .ok (.istore 6, 2) := by decide +kernel
theorem dX3_writeStep_32 : decode cX3_writeStep 32 = .ok (.aload_n 2, 1) := by decide +kernel
theorem dX3_writeStep_33 : decode cX3_writeStep 33 = .ok (.iload 5, 2) := by decide +kernel
theorem dX3_writeStep_35 : decode cX3_writeStep 35 = .ok (.iload 6, 2) := by decide +kernel
theorem dX3_writeStep_37 : decode cX3_writeStep 37 = .ok (.iload_n 3, 1) := by decide +kernel
theorem dX3_writeStep_38 : decode cX3_writeStep 38 = .ok (.iload 4, 2) := by decide +kernel
theorem dX3_writeStep_40 : decode cX3_writeStep 40 = .ok (.invokevirtual 28, 3) := by decide +kernel
theorem dX3_writeStep_43 : decode cX3_writeStep 43 = .ok (.iload 4, 2) := by decide +kernel
theorem dX3_writeStep_45 : decode cX3_writeStep 45 = .ok (.ifCond .le 61, 3) := by decide +kernel
theorem dX3_writeStep_48 : decode cX3_writeStep 48 = .ok (.aload_n 0, 1) := by decide +kernel
theorem dX3_writeStep_49 : decode cX3_writeStep 49 = .ok (.aload_n 1, 1) := by decide +kernel
theorem dX3_writeStep_50 : decode cX3_writeStep 50 = .ok (.iload_n 3, 1) := by decide +kernel
theorem dX3_writeStep_51 : decode cX3_writeStep 51 = .ok (.iload 4, 2) := by decide +kernel
theorem dX3_writeStep_53 : decode cX3_writeStep 53 = .ok (.iconst 1, 1) := by decide +kernel
theorem dX3_writeStep_54 : decode cX3_writeStep 54 = .ok (.isub, 1) := by decide +kernel
theorem dX3_writeStep_55 : decode cX3_writeStep 55 = .ok (.invokevirtual 17, 3) := by decide +kernel
theorem dX3_writeStep_58 : decode cX3_writeStep 58 = .ok (.ifCond .eq 48, 3) := by decide +kernel
theorem dX3_writeStep_61 : decode cX3_writeStep 61 = .ok (.aload_n 0, 1) := by decide +kernel
theorem dX3_writeStep_62 : decode cX3_writeStep 62 = .ok (.aload_n 1, 1) := by decide +kernel
theorem dX3_writeStep_63 : decode cX3_writeStep 63 = .ok (.iload_n 3, 1) := by decide +kernel
theorem dX3_writeStep_64 : decode cX3_writeStep 64 = .ok (.iload 4, 2) := by decide +kernel
theorem dX3_writeStep_66 : decode cX3_writeStep 66 = .ok (.iconst 1, 1) := by decide +kernel
theorem dX3_writeStep_67 : decode cX3_writeStep 67 = .ok (.isub, 1) := by decide +kernel
theorem dX3_writeStep_68 : decode cX3_writeStep 68 = .ok (.invokevirtual 21, 3) := by decide +kernel
theorem dX3_writeStep_71 : decode cX3_writeStep 71 = .ok (.istore 7, 2) := by decide +kernel
theorem dX3_writeStep_73 : decode cX3_writeStep 73 = .ok (.aload_n 0, 1) := by decide +kernel
theorem dX3_writeStep_74 : decode cX3_writeStep 74 = .ok (.aload_n 1, 1) := by decide +kernel
theorem dX3_writeStep_75 : decode cX3_writeStep 75 = .ok (.iload_n 3, 1) := by decide +kernel
theorem dX3_writeStep_76 : decode cX3_writeStep 76 = .ok (.iload 4, 2) := by decide +kernel
theorem dX3_writeStep_78 : decode cX3_writeStep 78 = .ok (.iconst 1, 1) := by decide +kernel
theorem dX3_writeStep_79 : decode cX3_writeStep 79 = .ok (.isub, 1) := by decide +kernel
theorem dX3_writeStep_80 : decode cX3_writeStep 80 = .ok (.invokevirtual 25, 3) := by decide +kernel
theorem dX3_writeStep_83 : decode cX3_writeStep 83 = .ok (.istore 8, 2) := by decide +kernel
theorem dX3_writeStep_85 : decode cX3_writeStep 85 = .ok (.aload_n 2, 1) := by decide +kernel
theorem dX3_writeStep_86 : decode cX3_writeStep 86 = .ok (.iload 7, 2) := by decide +kernel
theorem dX3_writeStep_88 : decode cX3_writeStep 88 = .ok (.iload 8, 2) := by decide +kernel
theorem dX3_writeStep_90 : decode cX3_writeStep 90 = .ok (.iload 5, 2) := by decide +kernel
theorem dX3_writeStep_92 : decode cX3_writeStep 92 = .ok (.iload 7, 2) := by decide +kernel
theorem dX3_writeStep_94 : decode cX3_writeStep 94 = .ok (.isub, 1) := by decide +kernel
theorem dX3_writeStep_95 : decode cX3_writeStep 95 = .ok (.iload 6, 2) := by decide +kernel
theorem dX3_writeStep_97 : decode cX3_writeStep 97 = .ok (.iload 8, 2) := by decide +kernel
theorem dX3_writeStep_99 : decode cX3_writeStep 99 = .ok (.isub, 1) := by decide +kernel
theorem dX3_writeStep_100 : decode cX3_writeStep 100 = .ok (.iload_n 3, 1) := by decide +kernel
theorem dX3_writeStep_101 : decode cX3_writeStep 101 = .ok (.iload 4, 2) := by decide +kernel
theorem dX3_writeStep_103 : decode cX3_writeStep 103 = .ok (.invokestatic 34, 3) := by decide +kernel
theorem dX3_writeStep_106 : decode cX3_writeStep 106 = .ok (.return_, 1) := by decide +kernel
set_option maxRecDepth 20000 in
theorem ggX3_isDown_X5_liftOfPeg : GoodIn wsX3_isDown wsX5_liftOfPeg := goodIn_r _ [6, 7, 8, 29, 30, 31, 32, 33, 34] (by decide +kernel) (by decide +kernel)
set_option maxRecDepth 20000 in
theorem gX3_isDown_X5_liftOfPeg : GoodIn wsX3_isDown (wsV RX3 38 RX5 yX5_liftOfPeg wsX5_liftOfPeg) := goodIn_app (goodIn_of _ (by decide +kernel)) ggX3_isDown_X5_liftOfPeg
set_option maxRecDepth 20000 in
theorem ggX3_isDown_X3_heightOf : GoodIn wsX3_isDown wsX3_heightOf := goodIn_r _ [13, 14, 15, 16, 17, 18, 19, 20, 21, 22, 23, 24, 25, 26, 27, 28, 35, 36, 37, 38, 39, 40, 41] (by decide +kernel) (by decide +kernel)
set_option maxRecDepth 20000 in
theorem gX3_isDown_X3_heightOf : GoodIn wsX3_isDown (wsV RX3 44 RX3 yX3_heightOf wsX3_heightOf) := goodIn_app (goodIn_of _ (by decide +kernel)) ggX3_isDown_X3_heightOf
theorem dX3_isDown_0 : decode cX3_isDown 0 = .ok (.aload_n 0, 1) := by decide +kernel
theorem dX3_isDown_1 : decode cX3_isDown 1 = .ok (.aload_n 1, 1) := by decide +kernel
theorem dX3_isDown_2 : decode cX3_isDown 2 = .ok (.aload_n 0, 1) := by decide +kernel
theorem dX3_isDown_3 : decode cX3_isDown 3 = .ok (.getfield 13, 3) := by decide +kernel
theorem dX3_isDown_6 : decode cX3_isDown 6 = .ok (.iload_n 2, 1) := by decide +kernel
theorem dX3_isDown_7 : decode cX3_isDown 7 = .ok (.invokevirtual 38, 3) := by decide +kernel
theorem dX3_isDown_10 : decode cX3_isDown 10 = .ok (.iload_n 3, 1) := by decide +kernel
theorem dX3_isDown_11 : decode cX3_isDown 11 = .ok (.invokevirtual 44, 3) := by decide +kernel
theorem dX3_isDown_14 : decode cX3_isDown 14 = .ok (.ifCond .ne 7, 3) := by decide +kernel
theorem dX3_isDown_17 : decode cX3_isDown 17 = .ok (.iconst 1, 1) := by decide +kernel
theorem dX3_isDown_18 : decode cX3_isDown 18 = .ok (.goto 4, 3) := by decide +kernel
theorem dX3_isDown_21 : decode cX3_isDown 21 = .ok (.iconst 0, 1) := by decide +kernel
theorem dX3_isDown_22 : decode cX3_isDown 22 = .ok (.ireturn, 1) := by decide +kernel
set_option maxRecDepth 20000 in
theorem ggX3_xAt_X5_acrossOfPeg : GoodIn wsX3_xAt wsX5_acrossOfPeg := goodIn_r _ [6, 7, 8, 39, 40, 41, 42, 43, 44] (by decide +kernel) (by decide +kernel)
set_option maxRecDepth 20000 in
theorem gX3_xAt_X5_acrossOfPeg : GoodIn wsX3_xAt (wsV RX3 47 RX5 yX5_acrossOfPeg wsX5_acrossOfPeg) := goodIn_app (goodIn_of _ (by decide +kernel)) ggX3_xAt_X5_acrossOfPeg
set_option maxRecDepth 20000 in
theorem ggX3_xAt_X3_heightOf : GoodIn wsX3_xAt wsX3_heightOf := goodIn_r _ [13, 14, 15, 16, 17, 18, 19, 20, 21, 22, 23, 24, 25, 26, 37, 38, 45, 46, 47, 48, 49, 50, 51] (by decide +kernel) (by decide +kernel)
set_option maxRecDepth 20000 in
theorem gX3_xAt_X3_heightOf : GoodIn wsX3_xAt (wsV RX3 44 RX3 yX3_heightOf wsX3_heightOf) := goodIn_app (goodIn_of _ (by decide +kernel)) ggX3_xAt_X3_heightOf
set_option maxRecDepth 20000 in
theorem ggX3_xAt_X5_space : GoodIn wsX3_xAt wsX5_space := goodIn_r _ [30, 31, 39, 40, 41, 42, 43, 44] (by decide +kernel) (by decide +kernel)
set_option maxRecDepth 20000 in
theorem gX3_xAt_X5_space : GoodIn wsX3_xAt (wsV RX3 50 RX5 yX5_space wsX5_space) := goodIn_app (goodIn_of _ (by decide +kernel)) ggX3_xAt_X5_space
set_option maxRecDepth 20000 in
theorem ggX3_xAt_X1_bentX : GoodIn wsX3_xAt wsX1_bentX := goodIn_r _ [35, 36, 49, 50, 51] (by decide +kernel) (by decide +kernel)
set_option maxRecDepth 20000 in
theorem gX3_xAt_X1_bentX : GoodIn wsX3_xAt (wsV RX3 54 RX1 yX1_bentX wsX1_bentX) := goodIn_app (goodIn_of _ (by decide +kernel)) ggX3_xAt_X1_bentX
theorem dX3_xAt_0 : decode cX3_xAt 0 = .ok (.aload_n 0, 1) := by decide +kernel
theorem dX3_xAt_1 : decode cX3_xAt 1 = .ok (.aload_n 1, 1) := by decide +kernel
theorem dX3_xAt_2 : decode cX3_xAt 2 = .ok (.aload_n 0, 1) := by decide +kernel
theorem dX3_xAt_3 : decode cX3_xAt 3 = .ok (.getfield 13, 3) := by decide +kernel
theorem dX3_xAt_6 : decode cX3_xAt 6 = .ok (.iload_n 2, 1) := by decide +kernel
theorem dX3_xAt_7 : decode cX3_xAt 7 = .ok (.invokevirtual 47, 3) := by decide +kernel
theorem dX3_xAt_10 : decode cX3_xAt 10 = .ok (.iload_n 3, 1) := by decide +kernel
theorem dX3_xAt_11 : decode cX3_xAt 11 = .ok (.invokevirtual 44, 3) := by decide +kernel
theorem dX3_xAt_14 : decode cX3_xAt 14 = .ok (.istore 4, 2) := by decide +kernel
theorem dX3_xAt_16 : decode cX3_xAt 16 = .ok (.aload_n 1, 1) := by decide +kernel
theorem dX3_xAt_17 : decode cX3_xAt 17 = .ok (.iload_n 2, 1) := by decide +kernel
theorem dX3_xAt_18 : decode cX3_xAt 18 = .ok (.aload_n 0, 1) := by decide +kernel
theorem dX3_xAt_19 : decode cX3_xAt 19 = .ok (.getfield 13, 3) := by decide +kernel
theorem dX3_xAt_22 : decode cX3_xAt 22 = .ok (.invokevirtual 50, 3) := by decide +kernel
theorem dX3_xAt_25 : decode cX3_xAt 25 = .ok (.imul, 1) := by decide +kernel
theorem dX3_xAt_26 : decode cX3_xAt 26 = .ok (.iload 4, 2) := by decide +kernel
theorem dX3_xAt_28 : decode cX3_xAt 28 = .ok (.iadd, 1) := by decide +kernel
theorem dX3_xAt_29 : decode cX3_xAt 29 = .ok (.invokevirtual 54, 3) := by decide +kernel
theorem dX3_xAt_32 : decode cX3_xAt 32 = .ok (.ireturn, 1) := by decide +kernel
set_option maxRecDepth 20000 in
theorem ggX3_yAt_X5_upOfPeg : GoodIn wsX3_yAt wsX5_upOfPeg := goodIn_r _ [6, 7, 8, 38, 39, 40, 41, 42, 43] (by decide +kernel) (by decide +kernel)
set_option maxRecDepth 20000 in
theorem gX3_yAt_X5_upOfPeg : GoodIn wsX3_yAt (wsV RX3 59 RX5 yX5_upOfPeg wsX5_upOfPeg) := goodIn_app (goodIn_of _ (by decide +kernel)) ggX3_yAt_X5_upOfPeg
set_option maxRecDepth 20000 in
theorem ggX3_yAt_X3_heightOf : GoodIn wsX3_yAt wsX3_heightOf := goodIn_r _ [13, 14, 15, 16, 17, 18, 19, 20, 21, 22, 23, 24, 25, 26, 36, 37, 44, 45, 46, 47, 48, 49, 50] (by decide +kernel) (by decide +kernel)
set_option maxRecDepth 20000 in
theorem gX3_yAt_X3_heightOf : GoodIn wsX3_yAt (wsV RX3 44 RX3 yX3_heightOf wsX3_heightOf) := goodIn_app (goodIn_of _ (by decide +kernel)) ggX3_yAt_X3_heightOf
set_option maxRecDepth 20000 in
theorem ggX3_yAt_X1_bentY : GoodIn wsX3_yAt wsX1_bentY := goodIn_r _ [30, 31, 32, 33, 34, 35, 48, 49, 50] (by decide +kernel) (by decide +kernel)
set_option maxRecDepth 20000 in
theorem gX3_yAt_X1_bentY : GoodIn wsX3_yAt (wsV RX3 62 RX1 yX1_bentY wsX1_bentY) := goodIn_app (goodIn_of _ (by decide +kernel)) ggX3_yAt_X1_bentY
theorem dX3_yAt_0 : decode cX3_yAt 0 = .ok (.aload_n 1, 1) := by decide +kernel
theorem dX3_yAt_1 : decode cX3_yAt 1 = .ok (.aload_n 0, 1) := by decide +kernel
theorem dX3_yAt_2 : decode cX3_yAt 2 = .ok (.aload_n 1, 1) := by decide +kernel
theorem dX3_yAt_3 : decode cX3_yAt 3 = .ok (.aload_n 0, 1) := by decide +kernel
theorem dX3_yAt_4 : decode cX3_yAt 4 = .ok (.getfield 13, 3) := by decide +kernel
theorem dX3_yAt_7 : decode cX3_yAt 7 = .ok (.iload_n 2, 1) := by decide +kernel
theorem dX3_yAt_8 : decode cX3_yAt 8 = .ok (.invokevirtual 59, 3) := by decide +kernel
theorem dX3_yAt_11 : decode cX3_yAt 11 = .ok (.iload_n 3, 1) := by decide +kernel
theorem dX3_yAt_12 : decode cX3_yAt 12 = .ok (.invokevirtual 44, 3) := by decide +kernel
theorem dX3_yAt_15 : decode cX3_yAt 15 = .ok (.invokevirtual 62, 3) := by decide +kernel
theorem dX3_yAt_18 : decode cX3_yAt 18 = .ok (.ireturn, 1) := by decide +kernel
set_option maxRecDepth 20000 in
theorem ggX3_heightOf_X0_heightAt : GoodIn wsX3_heightOf wsX0_heightAt := goodIn_r _ [6, 7, 16, 17, 18, 19] (by decide +kernel) (by decide +kernel)
set_option maxRecDepth 20000 in
theorem gX3_heightOf_X0_heightAt : GoodIn wsX3_heightOf (wsV RX3 65 RX0 yX0_heightAt wsX0_heightAt) := goodIn_app (goodIn_of _ (by decide +kernel)) ggX3_heightOf_X0_heightAt
set_option maxRecDepth 20000 in
theorem ggX3_heightOf_X1_wornHeight : GoodIn wsX3_heightOf wsX1_wornHeight := goodIn_r _ [12, 13, 20, 21, 22] (by decide +kernel) (by decide +kernel)
set_option maxRecDepth 20000 in
theorem gX3_heightOf_X1_wornHeight : GoodIn wsX3_heightOf (wsV RX3 71 RX1 yX1_wornHeight wsX1_wornHeight) := goodIn_app (goodIn_of _ (by decide +kernel)) ggX3_heightOf_X1_wornHeight
theorem dX3_heightOf_0 : decode cX3_heightOf 0 = .ok (.aload_n 1, 1) := by decide +kernel
theorem dX3_heightOf_1 : decode cX3_heightOf 1 = .ok (.iload_n 2, 1) := by decide +kernel
theorem dX3_heightOf_2 : decode cX3_heightOf 2 = .ok (.aload_n 0, 1) := by decide +kernel
theorem dX3_heightOf_3 : decode cX3_heightOf 3 = .ok (.getfield 7, 3) := by decide +kernel
theorem dX3_heightOf_6 : decode cX3_heightOf 6 = .ok (.iload_n 2, 1) := by decide +kernel
theorem dX3_heightOf_7 : decode cX3_heightOf 7 = .ok (.iload_n 3, 1) := by decide +kernel
theorem dX3_heightOf_8 : decode cX3_heightOf 8 = .ok (.invokevirtual 65, 3) := by decide +kernel
theorem dX3_heightOf_11 : decode cX3_heightOf 11 = .ok (.invokevirtual 71, 3) := by decide +kernel
theorem dX3_heightOf_14 : decode cX3_heightOf 14 = .ok (.ireturn, 1) := by decide +kernel
set_option maxRecDepth 20000 in
theorem ggX3_drawLine_X3_rounded : GoodIn wsX3_drawLine wsX3_rounded := goodIn_r _ [11, 12, 13, 14, 15] (by decide +kernel) (by decide +kernel)
set_option maxRecDepth 20000 in
theorem gX3_drawLine_X3_rounded : GoodIn wsX3_drawLine (va_wsS RX3 82 yX3_rounded wsX3_rounded) := goodIn_app (goodIn_of _ (by decide +kernel)) ggX3_drawLine_X3_rounded
set_option maxRecDepth 20000 in
theorem ggX3_drawLine_X6_put : GoodIn wsX3_drawLine wsX6_put := goodIn_r _ [20, 21, 22, 23, 24, 19, 25, 26, 27, 28, 29, 30, 31] (by decide +kernel) (by decide +kernel)
set_option maxRecDepth 20000 in
theorem gX3_drawLine_X6_put : GoodIn wsX3_drawLine (wsV RX3 28 RX6 yX6_put wsX6_put) := goodIn_app (goodIn_of _ (by decide +kernel)) ggX3_drawLine_X6_put
theorem dX3_drawLine_0 : decode cX3_drawLine 0 = .ok (.iload_n 3, 1) := by decide +kernel
theorem dX3_drawLine_1 : decode cX3_drawLine 1 = .ok (.invokestatic 74, 3) := by decide +kernel
theorem dX3_drawLine_4 : decode cX3_drawLine 4 = .ok (.iload 4, 2) := by decide +kernel
theorem dX3_drawLine_6 : decode cX3_drawLine 6 = .ok (.invokestatic 74, 3) := by decide +kernel
theorem dX3_drawLine_9 : decode cX3_drawLine 9 = .ok (.invokestatic 79, 3) := by decide +kernel
theorem dX3_drawLine_12 : decode cX3_drawLine 12 = .ok (.istore 7, 2) := by decide +kernel
theorem dX3_drawLine_14 : decode cX3_drawLine 14 = .ok (.iconst 1, 1) := by decide +kernel
theorem dX3_drawLine_15 : decode cX3_drawLine 15 = .ok (.istore 8, 2) := by decide +kernel
theorem dX3_drawLine_17 : decode cX3_drawLine 17 = .ok (.iload 8, 2) := by decide +kernel
theorem dX3_drawLine_19 : decode cX3_drawLine 19 = .ok (.iload 7, 2) := by decide +kernel
theorem dX3_drawLine_21 : decode cX3_drawLine 21 = .ok (.if_icmp .ge 40, 3) := by decide +kernel
theorem dX3_drawLine_24 : decode cX3_drawLine 24 = .ok (.aload_n 0, 1) := by decide +kernel
theorem dX3_drawLine_25 : decode cX3_drawLine 25 = .ok (.iload_n 1, 1) := by decide +kernel
theorem dX3_drawLine_26 : decode cX3_drawLine 26 = .ok (.iload 8, 2) := by decide +kernel
theorem dX3_drawLine_28 : decode cX3_drawLine 28 = .ok (.iload_n 3, 1) := by decide +kernel
theorem dX3_drawLine_29 : decode cX3_drawLine 29 = .ok (.imul, 1) := by decide +kernel
theorem dX3_drawLine_30 : decode cX3_drawLine 30 = .ok (.iload 7, 2) := by decide +kernel
theorem dX3_drawLine_32 : decode cX3_drawLine 32 = .ok (.invokestatic 82, 3) := by decide +kernel
theorem dX3_drawLine_35 : decode cX3_drawLine 35 = .ok (.iadd, 1) := by decide +kernel
theorem dX3_drawLine_36 : decode cX3_drawLine 36 = .ok (.iload_n 2, 1) := by decide +kernel
theorem dX3_drawLine_37 : decode cX3_drawLine 37 = .ok (.iload 8, 2) := by decide +kernel
theorem dX3_drawLine_39 : decode cX3_drawLine 39 = .ok (.iload 4, 2) := by decide +kernel
theorem dX3_drawLine_41 : decode cX3_drawLine 41 = .ok (.imul, 1) := by decide +kernel
theorem dX3_drawLine_42 : decode cX3_drawLine 42 = .ok (.iload 7, 2) := by decide +kernel
theorem dX3_drawLine_44 : decode cX3_drawLine 44 = .ok (.invokestatic 82, 3) := by decide +kernel
theorem dX3_drawLine_47 : decode cX3_drawLine 47 = .ok (.iadd, 1) := by decide +kernel
theorem dX3_drawLine_48 : decode cX3_drawLine 48 = .ok (.iload 5, 2) := by decide +kernel
theorem dX3_drawLine_50 : decode cX3_drawLine 50 = .ok (.iload 6, 2) := by decide +kernel
theorem dX3_drawLine_52 : decode cX3_drawLine 52 = .ok (.invokevirtual 28, 3) := by decide +kernel
theorem dX3_drawLine_55 : decode cX3_drawLine 55 = .ok (.iinc 8 1, 3) := by decide +kernel
theorem dX3_drawLine_58 : decode cX3_drawLine 58 = .ok (.goto (-41), 3) := by decide +kernel
theorem dX3_drawLine_61 : decode cX3_drawLine 61 = .ok (.return_, 1) := by decide +kernel
set_option maxRecDepth 20000 in
theorem ggX3_rounded_J9_floorDiv_7cf53 : GoodIn wsX3_rounded wsJ9_floorDiv_7cf53 := goodIn_r _ [4] (by decide +kernel) (by decide +kernel)
set_option maxRecDepth 20000 in
theorem gX3_rounded_J9_floorDiv_7cf53 : GoodIn wsX3_rounded (va_wsS RX3 85 yJ9_floorDiv_7cf53 wsJ9_floorDiv_7cf53) := goodIn_app (goodIn_of _ (by decide +kernel)) ggX3_rounded_J9_floorDiv_7cf53
theorem dX3_rounded_0 : decode cX3_rounded 0 = .ok (.iload_n 1, 1) := by decide +kernel
theorem dX3_rounded_1 : decode cX3_rounded 1 = .ok (.ifCond .le 17, 3) := by decide +kernel
theorem dX3_rounded_4 : decode cX3_rounded 4 = .ok (.iconst 2, 1) := by decide +kernel
theorem dX3_rounded_5 : decode cX3_rounded 5 = .ok (.iload_n 0, 1) := by decide +kernel
theorem dX3_rounded_6 : decode cX3_rounded 6 = .ok (.imul, 1) := by decide +kernel
theorem dX3_rounded_7 : decode cX3_rounded 7 = .ok (.iload_n 1, 1) := by decide +kernel
theorem dX3_rounded_8 : decode cX3_rounded 8 = .ok (.iadd, 1) := by decide +kernel
theorem dX3_rounded_9 : decode cX3_rounded 9 = .ok (.iconst 2, 1) := by decide +kernel
theorem dX3_rounded_10 : decode cX3_rounded 10 = .ok (.iload_n 1, 1) := by decide +kernel
theorem dX3_rounded_11 : decode cX3_rounded 11 = .ok (.imul, 1) := by decide +kernel
theorem dX3_rounded_12 : decode cX3_rounded 12 = .ok (.invokestatic 85, 3) := by decide +kernel
theorem dX3_rounded_15 : decode cX3_rounded 15 = .ok (.goto 4, 3) := by decide +kernel
theorem dX3_rounded_18 : decode cX3_rounded 18 = .ok (.iconst 0, 1) := by decide +kernel
theorem dX3_rounded_19 : decode cX3_rounded 19 = .ok (.ireturn, 1) := by decide +kernel
theorem dX4_init_0 : decode cX4_init 0 = .ok (.aload_n 0, 1) := by decide +kernel
theorem dX4_init_1 : decode cX4_init 1 = .ok (.invokespecial 3, 3) := by decide +kernel
theorem dX4_init_4 : decode cX4_init 4 = .ok (.aload_n 0, 1) := by decide +kernel
theorem dX4_init_5 : decode cX4_init 5 = .ok (.iconst 4, 1) := by decide +kernel
theorem dX4_init_6 : decode cX4_init 6 = .ok (.bipush 10, 2) := by decide +kernel
theorem dX4_init_8 : decode cX4_init 8 = .ok (.multianewarray 11 2, 4) := by decide +kernel
theorem dX4_init_12 : decode cX4_init 12 = .ok (.putfield 13, 3) := by decide +kernel
theorem dX4_init_15 : decode cX4_init 15 = .ok (.aload_n 0, 1) := by decide +kernel
theorem dX4_init_16 : decode cX4_init 16 = .ok (.iconst 4, 1) := by decide +kernel
theorem dX4_init_17 : decode cX4_init 17 = .ok (.newarray .int, 2) := by decide +kernel
theorem dX4_init_19 : decode cX4_init 19 = .ok (.putfield 16, 3) := by decide +kernel
theorem dX4_init_22 : decode cX4_init 22 = .ok (.aload_n 0, 1) := by decide +kernel
theorem dX4_init_23 : decode cX4_init 23 = .ok (.bipush 10, 2) := by decide +kernel
theorem dX4_init_25 : decode cX4_init 25 = .ok (.newarray .int, 2) := by decide +kernel
theorem dX4_init_27 : decode cX4_init 27 = .ok (.putfield 20, 3) := by decide +kernel
theorem dX4_init_30 : decode cX4_init 30 = .ok (.return_, 1) := by decide +kernel
theorem dX4_total_0 : decode cX4_total 0 = .ok (.aload_n 0, 1) := by decide +kernel
theorem dX4_total_1 : decode cX4_total 1 = .ok (.getfield 16, 3) := by decide +kernel
theorem dX4_total_4 : decode cX4_total 4 = .ok (.iload_n 1, 1) := by decide +kernel
theorem dX4_total_5 : decode cX4_total 5 = .ok (.iaload, 1) := by decide +kernel
theorem dX4_total_6 : decode cX4_total 6 = .ok (.ireturn, 1) := by decide +kernel
set_option maxRecDepth 20000 in
theorem ggX4_learn_X4_tally : GoodIn wsX4_learn wsX4_tally := goodIn_r _ [8, 2, 9, 10, 11, 12, 13, 14, 15, 16, 17, 18, 19, 20, 21, 22, 23, 24, 25, 26, 27, 28, 29, 30] (by decide +kernel) (by decide +kernel)
set_option maxRecDepth 20000 in
theorem gX4_learn_X4_tally : GoodIn wsX4_learn (wsV RX4 23 RX4 yX4_tally wsX4_tally) := goodIn_app (goodIn_of _ (by decide +kernel)) ggX4_learn_X4_tally
set_option maxRecDepth 20000 in
theorem ggX4_learn_X0_steps : GoodIn wsX4_learn wsX0_steps := goodIn_r _ [17, 18, 27, 28, 29, 30] (by decide +kernel) (by decide +kernel)
set_option maxRecDepth 20000 in
theorem gX4_learn_X0_steps : GoodIn wsX4_learn (wsV RX4 27 RX0 yX0_steps wsX0_steps) := goodIn_app (goodIn_of _ (by decide +kernel)) ggX4_learn_X0_steps
theorem dX4_learn_0 : decode cX4_learn 0 = .ok (.aload_n 0, 1) := by decide +kernel
theorem dX4_learn_1 : decode cX4_learn 1 = .ok (.aload_n 2, 1) := by decide +kernel
theorem dX4_learn_2 : decode cX4_learn 2 = .ok (.iload_n 3, 1) := by decide +kernel
theorem dX4_learn_3 : decode cX4_learn 3 = .ok (.invokevirtual 23, 3) := by decide +kernel
theorem dX4_learn_6 : decode cX4_learn 6 = .ok (.iconst 0, 1) := by decide +kernel
theorem dX4_learn_7 : decode cX4_learn 7 = .ok (.istore 4, 2) := by decide +kernel
theorem dX4_learn_9 : decode cX4_learn 9 = .ok (.iload 4, 2) := by decide +kernel
theorem dX4_learn_11 : decode cX4_learn 11 = .ok (.bipush 10, 2) := by decide +kernel
theorem dX4_learn_13 : decode cX4_learn 13 = .ok (.if_icmp .ge 28, 3) := by decide +kernel
theorem dX4_learn_16 : decode cX4_learn 16 = .ok (.aload_n 0, 1) := by decide +kernel
theorem dX4_learn_17 : decode cX4_learn 17 = .ok (.getfield 13, 3) := by decide +kernel
theorem dX4_learn_20 : decode cX4_learn 20 = .ok (.iload_n 1, 1) := by decide +kernel
theorem dX4_learn_21 : decode cX4_learn 21 = .ok (.aaload, 1) := by decide +kernel
theorem dX4_learn_22 : decode cX4_learn 22 = .ok (.iload 4, 2) := by decide +kernel
theorem dX4_learn_24 : decode cX4_learn 24 = .ok (.dup2, 1) := by decide +kernel
theorem dX4_learn_25 : decode cX4_learn 25 = .ok (.iaload, 1) := by decide +kernel
theorem dX4_learn_26 : decode cX4_learn 26 = .ok (.aload_n 0, 1) := by decide +kernel
theorem dX4_learn_27 : decode cX4_learn 27 = .ok (.getfield 20, 3) := by decide +kernel
theorem dX4_learn_30 : decode cX4_learn 30 = .ok (.iload 4, 2) := by decide +kernel
theorem dX4_learn_32 : decode cX4_learn 32 = .ok (.iaload, 1) := by decide +kernel
theorem dX4_learn_33 : decode cX4_learn 33 = .ok (.iadd, 1) := by decide +kernel
theorem dX4_learn_34 : decode cX4_learn 34 = .ok (.iastore, 1) := by decide +kernel
theorem dX4_learn_35 : decode cX4_learn 35 = .ok (.iinc 4 1, 3) := by decide +kernel
theorem dX4_learn_38 : decode cX4_learn 38 = .ok (.goto (-29), 3) := by decide +kernel
theorem dX4_learn_41 : decode cX4_learn 41 = .ok (.aload_n 0, 1) := by decide +kernel
theorem dX4_learn_42 : decode cX4_learn 42 = .ok (.getfield 16, 3) := by decide +kernel
theorem dX4_learn_45 : decode cX4_learn 45 = .ok (.iload_n 1, 1) := by decide +kernel
theorem dX4_learn_46 : decode cX4_learn 46 = .ok (.dup2, 1) := by decide +kernel
theorem dX4_learn_47 : decode cX4_learn 47 = .ok (.iaload, 1) := by decide +kernel
theorem dX4_learn_48 : decode cX4_learn 48 = .ok (.aload_n 2, 1) := by decide +kernel
theorem dX4_learn_49 : decode cX4_learn 49 = .ok (.invokevirtual 27, 3) := by decide +kernel
theorem dX4_learn_52 : decode cX4_learn 52 = .ok (.iadd, 1) := by decide +kernel
theorem dX4_learn_53 : decode cX4_learn 53 = .ok (.iastore, 1) := by decide +kernel
theorem dX4_learn_54 : decode cX4_learn 54 = .ok (.return_, 1) := by decide +kernel
set_option maxRecDepth 20000 in
theorem ggX4_likeness_X4_tally : GoodIn wsX4_likeness wsX4_tally := goodIn_r _ [12, 1, 13, 14, 15, 16, 17, 18, 19, 20, 21, 22, 23, 24, 25, 26, 27, 28, 29, 30, 31, 32, 33, 34] (by decide +kernel) (by decide +kernel)
set_option maxRecDepth 20000 in
theorem gX4_likeness_X4_tally : GoodIn wsX4_likeness (wsV RX4 23 RX4 yX4_tally wsX4_tally) := goodIn_app (goodIn_of _ (by decide +kernel)) ggX4_likeness_X4_tally
set_option maxRecDepth 20000 in
theorem ggX4_likeness_X0_steps : GoodIn wsX4_likeness wsX0_steps := goodIn_r _ [21, 22, 31, 32, 33, 34] (by decide +kernel) (by decide +kernel)
set_option maxRecDepth 20000 in
theorem gX4_likeness_X0_steps : GoodIn wsX4_likeness (wsV RX4 27 RX0 yX0_steps wsX0_steps) := goodIn_app (goodIn_of _ (by decide +kernel)) ggX4_likeness_X0_steps
theorem dX4_likeness_0 : decode cX4_likeness 0 = .ok (.aload_n 0, 1) := by decide +kernel
theorem dX4_likeness_1 : decode cX4_likeness 1 = .ok (.aload_n 2, 1) := by decide +kernel
theorem dX4_likeness_2 : decode cX4_likeness 2 = .ok (.iload_n 3, 1) := by decide +kernel
theorem dX4_likeness_3 : decode cX4_likeness 3 = .ok (.invokevirtual 23, 3) := by decide +kernel
theorem dX4_likeness_6 : decode cX4_likeness 6 = .ok (.iconst 0, 1) := by decide +kernel
theorem dX4_likeness_7 : decode cX4_likeness 7 = .ok (.istore 4, 2) := by decide +kernel
theorem dX4_likeness_9 : decode cX4_likeness 9 = .ok (.iconst 0, 1) := by decide +kernel
theorem dX4_likeness_10 : decode cX4_likeness 10 = .ok (.istore 5, 2) := by decide +kernel
theorem dX4_likeness_12 : decode cX4_likeness 12 = .ok (.iload 5, 2) := by decide +kernel
theorem dX4_likeness_14 : decode cX4_likeness 14 = .ok (.bipush 10, 2) := by decide +kernel
theorem dX4_likeness_16 : decode cX4_likeness 16 = .ok (.if_icmp .ge 46, 3) := by decide +kernel
theorem dX4_likeness_19 : decode cX4_likeness 19 = .ok (.iload 4, 2) := by decide +kernel
theorem dX4_likeness_21 : decode cX4_likeness 21 = .ok (.aload_n 0, 1) := by decide +kernel
theorem dX4_likeness_22 : decode cX4_likeness 22 = .ok (.getfield 20, 3) := by decide +kernel
theorem dX4_likeness_25 : decode cX4_likeness 25 = .ok (.iload 5, 2) := by decide +kernel
theorem dX4_likeness_27 : decode cX4_likeness 27 = .ok (.iaload, 1) := by decide +kernel
theorem dX4_likeness_28 : decode cX4_likeness 28 = .ok (.aload_n 0, 1) := by decide +kernel
theorem dX4_likeness_29 : decode cX4_likeness 29 = .ok (.getfield 16, 3) := by decide +kernel
theorem dX4_likeness_32 : decode cX4_likeness 32 = .ok (.iload_n 1, 1) := by decide +kernel
theorem dX4_likeness_33 : decode cX4_likeness 33 = .ok (.iaload, 1) := by decide +kernel
theorem dX4_likeness_34 : decode cX4_likeness 34 = .ok (.imul, 1) := by decide +kernel
theorem dX4_likeness_35 : decode cX4_likeness 35 = .ok (.aload_n 0, 1) := by decide +kernel
theorem dX4_likeness_36 : decode cX4_likeness 36 = .ok (.getfield 13, 3) := by decide +kernel
theorem dX4_likeness_39 : decode cX4_likeness 39 = .ok (.iload_n 1, 1) := by decide +kernel
theorem dX4_likeness_40 : decode cX4_likeness 40 = .ok (.aaload, 1) := by decide +kernel
theorem dX4_likeness_41 : decode cX4_likeness 41 = .ok (.iload 5, 2) := by decide +kernel
theorem dX4_likeness_43 : decode cX4_likeness 43 = .ok (.iaload, 1) := by decide +kernel
theorem dX4_likeness_44 : decode cX4_likeness 44 = .ok (.aload_n 2, 1) := by decide +kernel
theorem dX4_likeness_45 : decode cX4_likeness 45 = .ok (.invokevirtual 27, 3) := by decide +kernel
theorem dX4_likeness_48 : decode cX4_likeness 48 = .ok (.imul, 1) := by decide +kernel
theorem dX4_likeness_49 : decode cX4_likeness 49 = .ok (.isub, 1) := by decide +kernel
theorem dX4_likeness_50 : decode cX4_likeness 50 = .ok (.invokestatic 33, 3) := by decide +kernel
theorem dX4_likeness_53 : decode cX4_likeness 53 = .ok (.iadd, 1) := by decide +kernel
theorem dX4_likeness_54 : decode cX4_likeness 54 = .ok (.istore 4, 2) := by decide +kernel
theorem dX4_likeness_56 : decode cX4_likeness 56 = .ok (.iinc 5 1, 3) := by decide +kernel
theorem dX4_likeness_59 : decode cX4_likeness 59 = .ok (.goto (-47), 3) := by decide +kernel
theorem dX4_likeness_62 : decode cX4_likeness 62 = .ok (.iload 4, 2) := by decide +kernel
theorem dX4_likeness_64 : decode cX4_likeness 64 = .ok (.ireturn, 1) := by decide +kernel
set_option maxRecDepth 20000 in
theorem ggX4_nearest_X4_likeness : GoodIn wsX4_nearest wsX4_likeness := goodIn_r _ [6, 7, 1, 8, 9, 10, 11, 12, 13, 14, 15, 5, 16, 17, 18, 19, 20, 21, 22, 23, 24, 25, 26, 27, 28, 29, 30, 31, 32, 33, 34, 35, 36, 37, 38] (by decide +kernel) (by decide +kernel)
set_option maxRecDepth 20000 in
theorem gX4_nearest_X4_likeness : GoodIn wsX4_nearest (wsV RX4 39 RX4 yX4_likeness wsX4_likeness) := goodIn_app (goodIn_of _ (by decide +kernel)) ggX4_nearest_X4_likeness
theorem dX4_nearest_0 : decode cX4_nearest 0 = .ok (.bipush (-9), 2) := by decide +kernel
theorem dX4_nearest_2 : decode cX4_nearest 2 = .ok (.istore_n 3, 1) := by decide +kernel
theorem dX4_nearest_3 : decode cX4_nearest 3 = .ok (.iconst 0, 1) := by decide +kernel
theorem dX4_nearest_4 : decode cX4_nearest 4 = .ok (.istore 4, 2) := by decide +kernel
theorem dX4_nearest_6 : decode cX4_nearest 6 = .ok (.iconst 1, 1) := by decide +kernel
theorem dX4_nearest_7 : decode cX4_nearest 7 = .ok (.istore 5, 2) := by decide +kernel
theorem dX4_nearest_9 : decode cX4_nearest 9 = .ok (.iconst 0, 1) := by decide +kernel
theorem dX4_nearest_10 : decode cX4_nearest 10 = .ok (.istore 6, 2) := by decide +kernel
theorem dX4_nearest_12 : decode cX4_nearest 12 = .ok (.iload 6, 2) := by decide +kernel
theorem dX4_nearest_14 : decode cX4_nearest 14 = .ok (.iconst 4, 1) := by decide +kernel
theorem dX4_nearest_15 : decode cX4_nearest 15 = .ok (.if_icmp .ge 72, 3) := by decide +kernel
theorem dX4_nearest_18 : decode cX4_nearest 18 = .ok (.aload_n 0, 1) := by decide +kernel
theorem dX4_nearest_19 : decode cX4_nearest 19 = .ok (.getfield 16, 3) := by decide +kernel
theorem dX4_nearest_22 : decode cX4_nearest 22 = .ok (.iload 6, 2) := by decide +kernel
theorem dX4_nearest_24 : decode cX4_nearest 24 = .ok (.iaload, 1) := by decide +kernel
theorem dX4_nearest_25 : decode cX4_nearest 25 = .ok (.ifCond .gt 6, 3) := by decide +kernel
theorem dX4_nearest_28 : decode cX4_nearest 28 = .ok (.goto 53, 3) := by decide +kernel
theorem dX4_nearest_31 : decode cX4_nearest 31 = .ok (.aload_n 0, 1) := by decide +kernel
theorem dX4_nearest_32 : decode cX4_nearest 32 = .ok (.iload 6, 2) := by decide +kernel
theorem dX4_nearest_34 : decode cX4_nearest 34 = .ok (.aload_n 1, 1) := by decide +kernel
theorem dX4_nearest_35 : decode cX4_nearest 35 = .ok (.iload_n 2, 1) := by decide +kernel
theorem dX4_nearest_36 : decode cX4_nearest 36 = .ok (.invokevirtual 39, 3) := by decide +kernel
theorem dX4_nearest_39 : decode cX4_nearest 39 = .ok (.istore 7, 2) := by decide +kernel
theorem dX4_nearest_41 : decode cX4_nearest 41 = .ok (.iload_n 3, 1) := by decide +kernel
theorem dX4_nearest_42 : decode cX4_nearest 42 = .ok (.bipush (-9), 2) := by decide +kernel
theorem dX4_nearest_44 : decode cX4_nearest 44 = .ok (.if_icmp .eq 21, 3) := by decide +kernel
theorem dX4_nearest_47 : decode cX4_nearest 47 = .ok (.iload 7, 2) := by decide +kernel
theorem dX4_nearest_49 : decode cX4_nearest 49 = .ok (.iload 5, 2) := by decide +kernel
theorem dX4_nearest_51 : decode cX4_nearest 51 = .ok (.imul, 1) := by decide +kernel
theorem dX4_nearest_52 : decode cX4_nearest 52 = .ok (.iload 4, 2) := by decide +kernel
theorem dX4_nearest_54 : decode cX4_nearest 54 = .ok (.aload_n 0, 1) := by decide +kernel
theorem dX4_nearest_55 : decode cX4_nearest 55 = .ok (.getfield 16, 3) := by decide +kernel
theorem dX4_nearest_58 : decode cX4_nearest 58 = .ok (.iload 6, 2) := by decide +kernel
theorem dX4_nearest_60 : decode cX4_nearest 60 = .ok (.iaload, 1) := by decide +kernel
theorem dX4_nearest_61 : decode cX4_nearest 61 = .ok (.imul, 1) := by decide +kernel
theorem dX4_nearest_62 : decode cX4_nearest 62 = .ok (.if_icmp .ge 19, 3) := by decide +kernel
theorem dX4_nearest_65 : decode cX4_nearest 65 = .ok (.iload 6, 2) := by decide +kernel
theorem dX4_nearest_67 : decode cX4_nearest 67 = .ok (.istore_n 3, 1) := by decide +kernel
theorem dX4_nearest_68 : decode cX4_nearest 68 = .ok (.iload 7, 2) := by decide +kernel
theorem dX4_nearest_70 : decode cX4_nearest 70 = .ok (.istore 4, 2) := by decide +kernel
theorem dX4_nearest_72 : decode cX4_nearest 72 = .ok (.aload_n 0, 1) := by decide +kernel
theorem dX4_nearest_73 : decode cX4_nearest 73 = .ok (.getfield 16, 3) := by decide +kernel
theorem dX4_nearest_76 : decode cX4_nearest 76 = .ok (.iload 6, 2) := by decide +kernel
theorem dX4_nearest_78 : decode cX4_nearest 78 = .ok (.iaload, 1) := by decide +kernel
theorem dX4_nearest_79 : decode cX4_nearest 79 = .ok (.istore 5, 2) := by decide +kernel
theorem dX4_nearest_81 : decode cX4_nearest 81 = .ok (.iinc 6 1, 3) := by decide +kernel
theorem dX4_nearest_84 : decode cX4_nearest 84 = .ok (.goto (-72), 3) := by decide +kernel
theorem dX4_nearest_87 : decode cX4_nearest 87 = .ok (.iload_n 3, 1) := by decide +kernel
theorem dX4_nearest_88 : decode cX4_nearest 88 = .ok (.ireturn, 1) := by decide +kernel
set_option maxRecDepth 20000 in
theorem ggX4_tally_J7_fill_53178 : GoodIn wsX4_tally wsJ7_fill_53178 := goodIn_r _ [5] (by decide +kernel) (by decide +kernel)
set_option maxRecDepth 20000 in
theorem gX4_tally_J7_fill_53178 : GoodIn wsX4_tally (va_wsS RX4 43 yJ7_fill_53178 wsJ7_fill_53178) := goodIn_app (goodIn_of _ (by decide +kernel)) ggX4_tally_J7_fill_53178
set_option maxRecDepth 20000 in
theorem ggX4_tally_X0_steps : GoodIn wsX4_tally wsX0_steps := goodIn_r _ [10, 11, 20, 21, 22, 23] (by decide +kernel) (by decide +kernel)
set_option maxRecDepth 20000 in
theorem gX4_tally_X0_steps : GoodIn wsX4_tally (wsV RX4 27 RX0 yX0_steps wsX0_steps) := goodIn_app (goodIn_of _ (by decide +kernel)) ggX4_tally_X0_steps
set_option maxRecDepth 20000 in
theorem ggX4_tally_X0_heightAt : GoodIn wsX4_tally wsX0_heightAt := goodIn_r _ [15, 16, 20, 21, 22, 23] (by decide +kernel) (by decide +kernel)
set_option maxRecDepth 20000 in
theorem gX4_tally_X0_heightAt : GoodIn wsX4_tally (wsV RX4 49 RX0 yX0_heightAt wsX0_heightAt) := goodIn_app (goodIn_of _ (by decide +kernel)) ggX4_tally_X0_heightAt
theorem dX4_tally_0 : decode cX4_tally 0 = .ok (.aload_n 0, 1) := by decide +kernel
theorem dX4_tally_1 : decode cX4_tally 1 = .ok (.getfield 20, 3) := by decide +kernel
theorem dX4_tally_4 : decode cX4_tally 4 = .ok (.iconst 0, 1) := by decide +kernel
theorem dX4_tally_5 : decode cX4_tally 5 = .ok (.invokestatic 43, 3) := by decide +kernel
theorem dX4_tally_8 : decode cX4_tally 8 = .ok (.iconst 0, 1) := by decide +kernel
theorem dX4_tally_9 : decode cX4_tally 9 = .ok (.istore_n 3, 1) := by decide +kernel
theorem dX4_tally_10 : decode cX4_tally 10 = .ok (.iload_n 3, 1) := by decide +kernel
theorem dX4_tally_11 : decode cX4_tally 11 = .ok (.aload_n 1, 1) := by decide +kernel
theorem dX4_tally_12 : decode cX4_tally 12 = .ok (.invokevirtual 27, 3) := by decide +kernel
theorem dX4_tally_15 : decode cX4_tally 15 = .ok (.if_icmp .ge 40, 3) := by decide +kernel
theorem dX4_tally_18 : decode cX4_tally 18 = .ok (.aload_n 1, 1) := by decide +kernel
theorem dX4_tally_19 : decode cX4_tally 19 = .ok (.iload_n 2, 1) := by decide +kernel
theorem dX4_tally_20 : decode cX4_tally 20 = .ok (.iload_n 3, 1) := by decide +kernel
theorem dX4_tally_21 : decode cX4_tally 21 = .ok (.invokevirtual 49, 3) := by decide +kernel
theorem dX4_tally_24 : decode cX4_tally 24 = .ok (.istore 4, 2) := by decide +kernel
theorem dX4_tally_26 : decode cX4_tally 26 = .ok (.iload 4, 2) := by decide +kernel
theorem dX4_tally_28 : decode cX4_tally 28 = .ok (.ifCond .lt 21, 3) := by decide +kernel
theorem dX4_tally_31 : decode cX4_tally 31 = .ok (.iload 4, 2) := by decide +kernel
theorem dX4_tally_33 : decode cX4_tally 33 = .ok (.bipush 10, 2) := by decide +kernel
theorem dX4_tally_35 : decode cX4_tally 35 = .ok (.if_icmp .ge 14, 3) := by decide +kernel
theorem dX4_tally_38 : decode cX4_tally 38 = .ok (.aload_n 0, 1) := by decide +kernel
theorem dX4_tally_39 : decode cX4_tally 39 = .ok (.getfield 20, 3) := by decide +kernel
theorem dX4_tally_42 : decode cX4_tally 42 = .ok (.iload 4, 2) := by decide +kernel
theorem dX4_tally_44 : decode cX4_tally 44 = .ok (.dup2, 1) := by decide +kernel
theorem dX4_tally_45 : decode cX4_tally 45 = .ok (.iaload, 1) := by decide +kernel
theorem dX4_tally_46 : decode cX4_tally 46 = .ok (.iconst 1, 1) := by decide +kernel
theorem dX4_tally_47 : decode cX4_tally 47 = .ok (.iadd, 1) := by decide +kernel
theorem dX4_tally_48 : decode cX4_tally 48 = .ok (.iastore, 1) := by decide +kernel
theorem dX4_tally_49 : decode cX4_tally 49 = .ok (.iinc 3 1, 3) := by decide +kernel
theorem dX4_tally_52 : decode cX4_tally 52 = .ok (.goto (-42), 3) := by decide +kernel
theorem dX4_tally_55 : decode cX4_tally 55 = .ok (.return_, 1) := by decide +kernel
theorem dX5_init_0 : decode cX5_init 0 = .ok (.aload_n 0, 1) := by decide +kernel
theorem dX5_init_1 : decode cX5_init 1 = .ok (.invokespecial 3, 3) := by decide +kernel
theorem dX5_init_4 : decode cX5_init 4 = .ok (.aload_n 0, 1) := by decide +kernel
theorem dX5_init_5 : decode cX5_init 5 = .ok (.bipush 10, 2) := by decide +kernel
theorem dX5_init_7 : decode cX5_init 7 = .ok (.newarray .int, 2) := by decide +kernel
theorem dX5_init_9 : decode cX5_init 9 = .ok (.putfield 9, 3) := by decide +kernel
theorem dX5_init_12 : decode cX5_init 12 = .ok (.aload_n 0, 1) := by decide +kernel
theorem dX5_init_13 : decode cX5_init 13 = .ok (.bipush 10, 2) := by decide +kernel
theorem dX5_init_15 : decode cX5_init 15 = .ok (.newarray .int, 2) := by decide +kernel
theorem dX5_init_17 : decode cX5_init 17 = .ok (.putfield 15, 3) := by decide +kernel
theorem dX5_init_20 : decode cX5_init 20 = .ok (.aload_n 0, 1) := by decide +kernel
theorem dX5_init_21 : decode cX5_init 21 = .ok (.bipush 10, 2) := by decide +kernel
theorem dX5_init_23 : decode cX5_init 23 = .ok (.newarray .int, 2) := by decide +kernel
theorem dX5_init_25 : decode cX5_init 25 = .ok (.putfield 18, 3) := by decide +kernel
theorem dX5_init_28 : decode cX5_init 28 = .ok (.aload_n 0, 1) := by decide +kernel
theorem dX5_init_29 : decode cX5_init 29 = .ok (.bipush 12, 2) := by decide +kernel
theorem dX5_init_31 : decode cX5_init 31 = .ok (.newarray .int, 2) := by decide +kernel
theorem dX5_init_33 : decode cX5_init 33 = .ok (.putfield 21, 3) := by decide +kernel
theorem dX5_init_36 : decode cX5_init 36 = .ok (.aload_n 0, 1) := by decide +kernel
theorem dX5_init_37 : decode cX5_init 37 = .ok (.iconst 0, 1) := by decide +kernel
theorem dX5_init_38 : decode cX5_init 38 = .ok (.putfield 24, 3) := by decide +kernel
theorem dX5_init_41 : decode cX5_init 41 = .ok (.aload_n 0, 1) := by decide +kernel
theorem dX5_init_42 : decode cX5_init 42 = .ok (.iconst 5, 1) := by decide +kernel
theorem dX5_init_43 : decode cX5_init 43 = .ok (.putfield 28, 3) := by decide +kernel
theorem dX5_init_46 : decode cX5_init 46 = .ok (.return_, 1) := by decide +kernel
theorem dX5_pegs_0 : decode cX5_pegs 0 = .ok (.aload_n 0, 1) := by decide +kernel
theorem dX5_pegs_1 : decode cX5_pegs 1 = .ok (.getfield 24, 3) := by decide +kernel
theorem dX5_pegs_4 : decode cX5_pegs 4 = .ok (.ireturn, 1) := by decide +kernel
theorem dX5_space_0 : decode cX5_space 0 = .ok (.aload_n 0, 1) := by decide +kernel
theorem dX5_space_1 : decode cX5_space 1 = .ok (.getfield 28, 3) := by decide +kernel
theorem dX5_space_4 : decode cX5_space 4 = .ok (.ireturn, 1) := by decide +kernel
theorem dX5_setSpace_0 : decode cX5_setSpace 0 = .ok (.aload_n 0, 1) := by decide +kernel
theorem dX5_setSpace_1 : decode cX5_setSpace 1 = .ok (.iload_n 1, 1) := by decide +kernel
theorem dX5_setSpace_2 : decode cX5_setSpace 2 = .ok (.putfield 28, 3) := by decide +kernel
theorem dX5_setSpace_5 : decode cX5_setSpace 5 = .ok (.return_, 1) := by decide +kernel
theorem dX5_setCams_0 : decode cX5_setCams 0 = .ok (.aload_n 0, 1) := by decide +kernel
theorem dX5_setCams_1 : decode cX5_setCams 1 = .ok (.getfield 9, 3) := by decide +kernel
theorem dX5_setCams_4 : decode cX5_setCams 4 = .ok (.iload_n 1, 1) := by decide +kernel
theorem dX5_setCams_5 : decode cX5_setCams 5 = .ok (.iload_n 2, 1) := by decide +kernel
theorem dX5_setCams_6 : decode cX5_setCams 6 = .ok (.iastore, 1) := by decide +kernel
theorem dX5_setCams_7 : decode cX5_setCams 7 = .ok (.aload_n 0, 1) := by decide +kernel
theorem dX5_setCams_8 : decode cX5_setCams 8 = .ok (.getfield 15, 3) := by decide +kernel
theorem dX5_setCams_11 : decode cX5_setCams 11 = .ok (.iload_n 1, 1) := by decide +kernel
theorem dX5_setCams_12 : decode cX5_setCams 12 = .ok (.iload_n 3, 1) := by decide +kernel
theorem dX5_setCams_13 : decode cX5_setCams 13 = .ok (.iastore, 1) := by decide +kernel
theorem dX5_setCams_14 : decode cX5_setCams 14 = .ok (.aload_n 0, 1) := by decide +kernel
theorem dX5_setCams_15 : decode cX5_setCams 15 = .ok (.getfield 18, 3) := by decide +kernel
theorem dX5_setCams_18 : decode cX5_setCams 18 = .ok (.iload_n 1, 1) := by decide +kernel
theorem dX5_setCams_19 : decode cX5_setCams 19 = .ok (.iload 4, 2) := by decide +kernel
theorem dX5_setCams_21 : decode cX5_setCams 21 = .ok (.iastore, 1) := by decide +kernel
theorem dX5_setCams_22 : decode cX5_setCams 22 = .ok (.return_, 1) := by decide +kernel
theorem dX5_addPeg_0 : decode cX5_addPeg 0 = .ok (.aload_n 0, 1) := by decide +kernel
theorem dX5_addPeg_1 : decode cX5_addPeg 1 = .ok (.getfield 21, 3) := by decide +kernel
theorem dX5_addPeg_4 : decode cX5_addPeg 4 = .ok (.aload_n 0, 1) := by decide +kernel
theorem dX5_addPeg_5 : decode cX5_addPeg 5 = .ok (.getfield 24, 3) := by decide +kernel
theorem dX5_addPeg_8 : decode cX5_addPeg 8 = .ok (.iload_n 1, 1) := by decide +kernel
theorem dX5_addPeg_9 : decode cX5_addPeg 9 = .ok (.iastore, 1) := by decide +kernel
theorem dX5_addPeg_10 : decode cX5_addPeg 10 = .ok (.aload_n 0, 1) := by decide +kernel
theorem dX5_addPeg_11 : decode cX5_addPeg 11 = .ok (.dup, 1) := by decide +kernel
theorem dX5_addPeg_12 : decode cX5_addPeg 12 = .ok (.getfield 24, 3) := by decide +kernel
theorem dX5_addPeg_15 : decode cX5_addPeg 15 = .ok (.iconst 1, 1) := by decide +kernel
theorem dX5_addPeg_16 : decode cX5_addPeg 16 = .ok (.iadd, 1) := by decide +kernel
theorem dX5_addPeg_17 : decode cX5_addPeg 17 = .ok (.putfield 24, 3) := by decide +kernel
theorem dX5_addPeg_20 : decode cX5_addPeg 20 = .ok (.return_, 1) := by decide +kernel
theorem dX5_dropPeg_0 : decode cX5_dropPeg 0 = .ok (.aload_n 0, 1) := by decide +kernel
theorem dX5_dropPeg_1 : decode cX5_dropPeg 1 = .ok (.dup, 1) := by decide +kernel
theorem dX5_dropPeg_2 : decode cX5_dropPeg 2 = .ok (.getfield 24, 3) := by decide +kernel
theorem dX5_dropPeg_5 : decode cX5_dropPeg 5 = .ok (.iconst 1, 1) := by decide +kernel
theorem dX5_dropPeg_6 : decode cX5_dropPeg 6 = .ok (.isub, 1) := by decide +kernel
theorem dX5_dropPeg_7 : decode cX5_dropPeg 7 = .ok (.putfield 24, 3) := by decide +kernel
theorem dX5_dropPeg_10 : decode cX5_dropPeg 10 = .ok (.return_, 1) := by decide +kernel
theorem dX5_acrossOfPeg_0 : decode cX5_acrossOfPeg 0 = .ok (.aload_n 0, 1) := by decide +kernel
theorem dX5_acrossOfPeg_1 : decode cX5_acrossOfPeg 1 = .ok (.getfield 9, 3) := by decide +kernel
theorem dX5_acrossOfPeg_4 : decode cX5_acrossOfPeg 4 = .ok (.aload_n 0, 1) := by decide +kernel
theorem dX5_acrossOfPeg_5 : decode cX5_acrossOfPeg 5 = .ok (.getfield 21, 3) := by decide +kernel
theorem dX5_acrossOfPeg_8 : decode cX5_acrossOfPeg 8 = .ok (.iload_n 1, 1) := by decide +kernel
theorem dX5_acrossOfPeg_9 : decode cX5_acrossOfPeg 9 = .ok (.iaload, 1) := by decide +kernel
theorem dX5_acrossOfPeg_10 : decode cX5_acrossOfPeg 10 = .ok (.iaload, 1) := by decide +kernel
theorem dX5_acrossOfPeg_11 : decode cX5_acrossOfPeg 11 = .ok (.ireturn, 1) := by decide +kernel
theorem dX5_upOfPeg_0 : decode cX5_upOfPeg 0 = .ok (.aload_n 0, 1) := by decide +kernel
theorem dX5_upOfPeg_1 : decode cX5_upOfPeg 1 = .ok (.getfield 15, 3) := by decide +kernel
theorem dX5_upOfPeg_4 : decode cX5_upOfPeg 4 = .ok (.aload_n 0, 1) := by decide +kernel
theorem dX5_upOfPeg_5 : decode cX5_upOfPeg 5 = .ok (.getfield 21, 3) := by decide +kernel
theorem dX5_upOfPeg_8 : decode cX5_upOfPeg 8 = .ok (.iload_n 1, 1) := by decide +kernel
theorem dX5_upOfPeg_9 : decode cX5_upOfPeg 9 = .ok (.iaload, 1) := by decide +kernel
theorem dX5_upOfPeg_10 : decode cX5_upOfPeg 10 = .ok (.iaload, 1) := by decide +kernel
theorem dX5_upOfPeg_11 : decode cX5_upOfPeg 11 = .ok (.ireturn, 1) := by decide +kernel
theorem dX5_liftOfPeg_0 : decode cX5_liftOfPeg 0 = .ok (.aload_n 0, 1) := by decide +kernel
theorem dX5_liftOfPeg_1 : decode cX5_liftOfPeg 1 = .ok (.getfield 18, 3) := by decide +kernel
theorem dX5_liftOfPeg_4 : decode cX5_liftOfPeg 4 = .ok (.aload_n 0, 1) := by decide +kernel
theorem dX5_liftOfPeg_5 : decode cX5_liftOfPeg 5 = .ok (.getfield 21, 3) := by decide +kernel
theorem dX5_liftOfPeg_8 : decode cX5_liftOfPeg 8 = .ok (.iload_n 1, 1) := by decide +kernel
theorem dX5_liftOfPeg_9 : decode cX5_liftOfPeg 9 = .ok (.iaload, 1) := by decide +kernel
theorem dX5_liftOfPeg_10 : decode cX5_liftOfPeg 10 = .ok (.iaload, 1) := by decide +kernel
theorem dX5_liftOfPeg_11 : decode cX5_liftOfPeg 11 = .ok (.ireturn, 1) := by decide +kernel
set_option maxRecDepth 20000 in
theorem ggX5_hasAllCams_X0_isThere : GoodIn wsX5_hasAllCams wsX0_isThere := goodIn_r _ [8, 9, 16, 17, 18, 19] (by decide +kernel) (by decide +kernel)
set_option maxRecDepth 20000 in
theorem gX5_hasAllCams_X0_isThere : GoodIn wsX5_hasAllCams (wsV RX5 31 RX0 yX0_isThere wsX0_isThere) := goodIn_app (goodIn_of _ (by decide +kernel)) ggX5_hasAllCams_X0_isThere
theorem dX5_hasAllCams_0 : decode cX5_hasAllCams 0 = .ok (.aload_n 2, 1) := by decide +kernel
theorem dX5_hasAllCams_1 : decode cX5_hasAllCams 1 = .ok (.aload_n 0, 1) := by decide +kernel
theorem dX5_hasAllCams_2 : decode cX5_hasAllCams 2 = .ok (.getfield 9, 3) := by decide +kernel
theorem dX5_hasAllCams_5 : decode cX5_hasAllCams 5 = .ok (.iload_n 1, 1) := by decide +kernel
theorem dX5_hasAllCams_6 : decode cX5_hasAllCams 6 = .ok (.iaload, 1) := by decide +kernel
theorem dX5_hasAllCams_7 : decode cX5_hasAllCams 7 = .ok (.invokevirtual 31, 3) := by decide +kernel
theorem dX5_hasAllCams_10 : decode cX5_hasAllCams 10 = .ok (.ifCond .eq 33, 3) := by decide +kernel
theorem dX5_hasAllCams_13 : decode cX5_hasAllCams 13 = .ok (.aload_n 2, 1) := by decide +kernel
theorem dX5_hasAllCams_14 : decode cX5_hasAllCams 14 = .ok (.aload_n 0, 1) := by decide +kernel
theorem dX5_hasAllCams_15 : decode cX5_hasAllCams 15 = .ok (.getfield 15, 3) := by decide +kernel
theorem dX5_hasAllCams_18 : decode cX5_hasAllCams 18 = .ok (.iload_n 1, 1) := by decide +kernel
theorem dX5_hasAllCams_19 : decode cX5_hasAllCams 19 = .ok (.iaload, 1) := by decide +kernel
theorem dX5_hasAllCams_20 : decode cX5_hasAllCams 20 = .ok (.invokevirtual 31, 3) := by decide +kernel
theorem dX5_hasAllCams_23 : decode cX5_hasAllCams 23 = .ok (.ifCond .eq 20, 3) := by decide +kernel
theorem dX5_hasAllCams_26 : decode cX5_hasAllCams 26 = .ok (.aload_n 2, 1) := by decide +kernel
theorem dX5_hasAllCams_27 : decode cX5_hasAllCams 27 = .ok (.aload_n 0, 1) := by decide +kernel
theorem dX5_hasAllCams_28 : decode cX5_hasAllCams 28 = .ok (.getfield 18, 3) := by decide +kernel
theorem dX5_hasAllCams_31 : decode cX5_hasAllCams 31 = .ok (.iload_n 1, 1) := by decide +kernel
theorem dX5_hasAllCams_32 : decode cX5_hasAllCams 32 = .ok (.iaload, 1) := by decide +kernel
theorem dX5_hasAllCams_33 : decode cX5_hasAllCams 33 = .ok (.invokevirtual 31, 3) := by decide +kernel
theorem dX5_hasAllCams_36 : decode cX5_hasAllCams 36 = .ok (.ifCond .eq 7, 3) := by decide +kernel
theorem dX5_hasAllCams_39 : decode cX5_hasAllCams 39 = .ok (.iconst 1, 1) := by decide +kernel
theorem dX5_hasAllCams_40 : decode cX5_hasAllCams 40 = .ok (.goto 4, 3) := by decide +kernel
theorem dX5_hasAllCams_43 : decode cX5_hasAllCams 43 = .ok (.iconst 0, 1) := by decide +kernel
theorem dX5_hasAllCams_44 : decode cX5_hasAllCams 44 = .ok (.ireturn, 1) := by decide +kernel
set_option maxRecDepth 20000 in
theorem ggX5_isWritable_X5_hasAllCams : GoodIn wsX5_isWritable wsX5_hasAllCams := goodIn_r _ [7, 8, 9, 10, 11, 12, 13, 14, 15, 16, 17, 18, 19, 20, 21, 22, 23, 24, 25, 26] (by decide +kernel) (by decide +kernel)
set_option maxRecDepth 20000 in
theorem gX5_isWritable_X5_hasAllCams : GoodIn wsX5_isWritable (wsV RX5 37 RX5 yX5_hasAllCams wsX5_hasAllCams) := goodIn_app (goodIn_of _ (by decide +kernel)) ggX5_isWritable_X5_hasAllCams
theorem dX5_isWritable_0 : decode cX5_isWritable 0 = .ok (.iconst 0, 1) := by decide +kernel
theorem dX5_isWritable_1 : decode cX5_isWritable 1 = .ok (.istore_n 2, 1) := by decide +kernel
theorem dX5_isWritable_2 : decode cX5_isWritable 2 = .ok (.iload_n 2, 1) := by decide +kernel
theorem dX5_isWritable_3 : decode cX5_isWritable 3 = .ok (.aload_n 0, 1) := by decide +kernel
theorem dX5_isWritable_4 : decode cX5_isWritable 4 = .ok (.getfield 24, 3) := by decide +kernel
theorem dX5_isWritable_7 : decode cX5_isWritable 7 = .ok (.if_icmp .ge 25, 3) := by decide +kernel
theorem dX5_isWritable_10 : decode cX5_isWritable 10 = .ok (.aload_n 0, 1) := by decide +kernel
theorem dX5_isWritable_11 : decode cX5_isWritable 11 = .ok (.aload_n 0, 1) := by decide +kernel
theorem dX5_isWritable_12 : decode cX5_isWritable 12 = .ok (.getfield 21, 3) := by decide +kernel
theorem dX5_isWritable_15 : decode cX5_isWritable 15 = .ok (.iload_n 2, 1) := by decide +kernel
theorem dX5_isWritable_16 : decode cX5_isWritable 16 = .ok (.iaload, 1) := by decide +kernel
theorem dX5_isWritable_17 : decode cX5_isWritable 17 = .ok (.aload_n 1, 1) := by decide +kernel
theorem dX5_isWritable_18 : decode cX5_isWritable 18 = .ok (.invokevirtual 37, 3) := by decide +kernel
theorem dX5_isWritable_21 : decode cX5_isWritable 21 = .ok (.ifCond .ne 5, 3) := by decide +kernel
theorem dX5_isWritable_24 : decode cX5_isWritable 24 = .ok (.iconst 0, 1) := by decide +kernel
theorem dX5_isWritable_25 : decode cX5_isWritable 25 = .ok (.ireturn, 1) := by decide +kernel
theorem dX5_isWritable_26 : decode cX5_isWritable 26 = .ok (.iinc 2 1, 3) := by decide +kernel
theorem dX5_isWritable_29 : decode cX5_isWritable 29 = .ok (.goto (-27), 3) := by decide +kernel
theorem dX5_isWritable_32 : decode cX5_isWritable 32 = .ok (.iconst 1, 1) := by decide +kernel
theorem dX5_isWritable_33 : decode cX5_isWritable 33 = .ok (.ireturn, 1) := by decide +kernel
theorem dX5_partsOfKind_0 : decode cX5_partsOfKind 0 = .ok (.iload_n 1, 1) := by decide +kernel
theorem dX5_partsOfKind_1 : decode cX5_partsOfKind 1 = .ok (.tableswitch 37 1 3 #[27, 30, 35], 27) := by decide +kernel
theorem dX5_partsOfKind_28 : decode cX5_partsOfKind 28 = .ok (.bipush 12, 2) := by decide +kernel
theorem dX5_partsOfKind_30 : decode cX5_partsOfKind 30 = .ok (.ireturn, 1) := by decide +kernel
theorem dX5_partsOfKind_31 : decode cX5_partsOfKind 31 = .ok (.aload_n 0, 1) := by decide +kernel
theorem dX5_partsOfKind_32 : decode cX5_partsOfKind 32 = .ok (.getfield 24, 3) := by decide +kernel
theorem dX5_partsOfKind_35 : decode cX5_partsOfKind 35 = .ok (.ireturn, 1) := by decide +kernel
theorem dX5_partsOfKind_36 : decode cX5_partsOfKind 36 = .ok (.iconst 2, 1) := by decide +kernel
theorem dX5_partsOfKind_37 : decode cX5_partsOfKind 37 = .ok (.ireturn, 1) := by decide +kernel
theorem dX5_partsOfKind_38 : decode cX5_partsOfKind 38 = .ok (.iconst 0, 1) := by decide +kernel
theorem dX5_partsOfKind_39 : decode cX5_partsOfKind 39 = .ok (.ireturn, 1) := by decide +kernel
theorem dX6_init_0 : decode cX6_init 0 = .ok (.aload_n 0, 1) := by decide +kernel
theorem dX6_init_1 : decode cX6_init 1 = .ok (.invokespecial 1, 3) := by decide +kernel
theorem dX6_init_4 : decode cX6_init 4 = .ok (.aload_n 0, 1) := by decide +kernel
theorem dX6_init_5 : decode cX6_init 5 = .ok (.bipush 19, 2) := by decide +kernel
theorem dX6_init_7 : decode cX6_init 7 = .ok (.newarray .long, 2) := by decide +kernel
theorem dX6_init_9 : decode cX6_init 9 = .ok (.putfield 9, 3) := by decide +kernel
theorem dX6_init_12 : decode cX6_init 12 = .ok (.aload_n 0, 1) := by decide +kernel
theorem dX6_init_13 : decode cX6_init 13 = .ok (.iload_n 1, 1) := by decide +kernel
theorem dX6_init_14 : decode cX6_init 14 = .ok (.ifCond .eq 9, 3) := by decide +kernel
theorem dX6_init_17 : decode cX6_init 17 = .ok (.sipush 1200, 3) := by decide +kernel
theorem dX6_init_20 : decode cX6_init 20 = .ok (.goto 4, 3) := by decide +kernel
theorem dX6_init_23 : decode cX6_init 23 = .ok (.iconst 0, 1) := by decide +kernel
theorem dX6_init_24 : decode cX6_init 24 = .ok (.newarray .int, 2) := by decide +kernel
theorem dX6_init_26 : decode cX6_init 26 = .ok (.putfield 13, 3) := by decide +kernel
theorem dX6_init_29 : decode cX6_init 29 = .ok (.return_, 1) := by decide +kernel
theorem dX6_hasPlace_0 : decode cX6_hasPlace 0 = .ok (.iload_n 0, 1) := by decide +kernel
theorem dX6_hasPlace_1 : decode cX6_hasPlace 1 = .ok (.ifCond .lt 23, 3) := by decide +kernel
theorem dX6_hasPlace_4 : decode cX6_hasPlace 4 = .ok (.iload_n 0, 1) := by decide +kernel
theorem dX6_hasPlace_5 : decode cX6_hasPlace 5 = .ok (.bipush 120, 2) := by decide +kernel
theorem dX6_hasPlace_7 : decode cX6_hasPlace 7 = .ok (.if_icmp .ge 17, 3) := by decide +kernel
theorem dX6_hasPlace_10 : decode cX6_hasPlace 10 = .ok (.iload_n 1, 1) := by decide +kernel
theorem dX6_hasPlace_11 : decode cX6_hasPlace 11 = .ok (.ifCond .lt 13, 3) := by decide +kernel
theorem dX6_hasPlace_14 : decode cX6_hasPlace 14 = .ok (.iload_n 1, 1) := by decide +kernel
theorem dX6_hasPlace_15 : decode cX6_hasPlace 15 = .ok (.bipush 10, 2) := by decide +kernel
theorem dX6_hasPlace_17 : decode cX6_hasPlace 17 = .ok (.if_icmp .ge 7, 3) := by decide +kernel
theorem dX6_hasPlace_20 : decode cX6_hasPlace 20 = .ok (.iconst 1, 1) := by decide +kernel
theorem dX6_hasPlace_21 : decode cX6_hasPlace 21 = .ok (.goto 4, 3) := by decide +kernel
theorem dX6_hasPlace_24 : decode cX6_hasPlace 24 = .ok (.iconst 0, 1) := by decide +kernel
theorem dX6_hasPlace_25 : decode cX6_hasPlace 25 = .ok (.ireturn, 1) := by decide +kernel
set_option maxRecDepth 20000 in
theorem ggX6_clear_J7_fill_d0a16 : GoodIn wsX6_clear wsJ7_fill_d0a16 := goodIn_r _ [5] (by decide +kernel) (by decide +kernel)
set_option maxRecDepth 20000 in
theorem gX6_clear_J7_fill_d0a16 : GoodIn wsX6_clear (va_wsS RX6 17 yJ7_fill_d0a16 wsJ7_fill_d0a16) := goodIn_app (goodIn_of _ (by decide +kernel)) ggX6_clear_J7_fill_d0a16
theorem dX6_clear_0 : decode cX6_clear 0 = .ok (.aload_n 0, 1) := by decide +kernel
theorem dX6_clear_1 : decode cX6_clear 1 = .ok (.getfield 9, 3) := by decide +kernel
theorem dX6_clear_4 : decode cX6_clear 4 = .ok (.lconst 0, 1) := by decide +kernel
theorem dX6_clear_5 : decode cX6_clear 5 = .ok (.invokestatic 17, 3) := by decide +kernel
theorem dX6_clear_8 : decode cX6_clear 8 = .ok (.return_, 1) := by decide +kernel
theorem dX6_isMarked_0 : decode cX6_isMarked 0 = .ok (.iload_n 2, 1) := by decide +kernel
theorem dX6_isMarked_1 : decode cX6_isMarked 1 = .ok (.bipush 120, 2) := by decide +kernel
theorem dX6_isMarked_3 : decode cX6_isMarked 3 = .ok (.imul, 1) := by decide +kernel
theorem dX6_isMarked_4 : decode cX6_isMarked 4 = .ok (.iload_n 1, 1) := by decide +kernel
theorem dX6_isMarked_5 : decode cX6_isMarked 5 = .ok (.iadd, 1) := by decide +kernel
theorem dX6_isMarked_6 : decode cX6_isMarked 6 = .ok (.istore_n 3, 1) := by decide +kernel
theorem dX6_isMarked_7 : decode cX6_isMarked 7 = .ok (.aload_n 0, 1) := by decide +kernel
theorem dX6_isMarked_8 : decode cX6_isMarked 8 = .ok (.getfield 9, 3) := by decide +kernel
theorem dX6_isMarked_11 : decode cX6_isMarked 11 = .ok (.iload_n 3, 1) := by decide +kernel
theorem dX6_isMarked_12 : decode cX6_isMarked 12 = .ok (.bipush 6, 2) := by decide +kernel
theorem dX6_isMarked_14 : decode cX6_isMarked 14 = .ok (.ishr, 1) := by decide +kernel
theorem dX6_isMarked_15 : decode cX6_isMarked 15 = .ok (.laload, 1) := by decide +kernel
theorem dX6_isMarked_16 : decode cX6_isMarked 16 = .ok (.iload_n 3, 1) := by decide +kernel
theorem dX6_isMarked_17 : decode cX6_isMarked 17 = .ok (.bipush 63, 2) := by decide +kernel
theorem dX6_isMarked_19 : decode cX6_isMarked 19 = .ok (.iand, 1) := by decide +kernel
theorem dX6_isMarked_20 : decode cX6_isMarked 20 = .ok (.lushr, 1) := by decide +kernel
theorem dX6_isMarked_21 : decode cX6_isMarked 21 = .ok (.lconst 1, 1) := by decide +kernel
theorem dX6_isMarked_22 : decode cX6_isMarked 22 = .ok (.land, 1) := by decide +kernel
theorem dX6_isMarked_23 : decode cX6_isMarked 23 = .ok (.lconst 0, 1) := by decide +kernel
theorem dX6_isMarked_24 : decode cX6_isMarked 24 = .ok (.lcmp, 1) := by decide +kernel
theorem dX6_isMarked_25 : decode cX6_isMarked 25 = .ok (.ifCond .eq 7, 3) := by decide +kernel
theorem dX6_isMarked_28 : decode cX6_isMarked 28 = .ok (.iconst 1, 1) := by decide +kernel
theorem dX6_isMarked_29 : decode cX6_isMarked 29 = .ok (.goto 4, 3) := by decide +kernel
theorem dX6_isMarked_32 : decode cX6_isMarked 32 = .ok (.iconst 0, 1) := by decide +kernel
theorem dX6_isMarked_33 : decode cX6_isMarked 33 = .ok (.ireturn, 1) := by decide +kernel
set_option maxRecDepth 20000 in
theorem ggX6_put_X6_hasPlace : GoodIn wsX6_put wsX6_hasPlace := goodIn_r _ [6] (by decide +kernel) (by decide +kernel)
set_option maxRecDepth 20000 in
theorem gX6_put_X6_hasPlace : GoodIn wsX6_put (va_wsS RX6 23 yX6_hasPlace wsX6_hasPlace) := goodIn_app (goodIn_of _ (by decide +kernel)) ggX6_put_X6_hasPlace
set_option maxRecDepth 20000 in
theorem ggX6_put_X6_isMarked : GoodIn wsX6_put wsX6_isMarked := goodIn_r _ [10, 1, 11, 12] (by decide +kernel) (by decide +kernel)
set_option maxRecDepth 20000 in
theorem gX6_put_X6_isMarked : GoodIn wsX6_put (wsV RX6 27 RX6 yX6_isMarked wsX6_isMarked) := goodIn_app (goodIn_of _ (by decide +kernel)) ggX6_put_X6_isMarked
theorem dX6_put_0 : decode cX6_put 0 = .ok (.iload_n 1, 1) := by decide +kernel
theorem dX6_put_1 : decode cX6_put 1 = .ok (.iload_n 2, 1) := by decide +kernel
theorem dX6_put_2 : decode cX6_put 2 = .ok (.invokestatic 23, 3) := by decide +kernel
theorem dX6_put_5 : decode cX6_put 5 = .ok (.ifCond .eq 12, 3) := by decide +kernel
theorem dX6_put_8 : decode cX6_put 8 = .ok (.aload_n 0, 1) := by decide +kernel
theorem dX6_put_9 : decode cX6_put 9 = .ok (.iload_n 1, 1) := by decide +kernel
theorem dX6_put_10 : decode cX6_put 10 = .ok (.iload_n 2, 1) := by decide +kernel
theorem dX6_put_11 : decode cX6_put 11 = .ok (.invokevirtual 27, 3) := by decide +kernel
theorem dX6_put_14 : decode cX6_put 14 = .ok (.ifCond .eq 4, 3) := by decide +kernel
theorem dX6_put_17 : decode cX6_put 17 = .ok (.return_, 1) := by decide +kernel
theorem dX6_put_18 : decode cX6_put 18 = .ok (.iload_n 2, 1) := by decide +kernel
theorem dX6_put_19 : decode cX6_put 19 = .ok (.bipush 120, 2) := by decide +kernel
theorem dX6_put_21 : decode cX6_put 21 = .ok (.imul, 1) := by decide +kernel
theorem dX6_put_22 : decode cX6_put 22 = .ok (.iload_n 1, 1) := by decide +kernel
theorem dX6_put_23 : decode cX6_put 23 = .ok (.iadd, 1) := by decide +kernel
theorem dX6_put_24 : decode cX6_put 24 = .ok (.istore 5, 2) := by decide +kernel
theorem dX6_put_26 : decode cX6_put 26 = .ok (.aload_n 0, 1) := by decide +kernel
theorem dX6_put_27 : decode cX6_put 27 = .ok (.getfield 9, 3) := by decide +kernel
theorem dX6_put_30 : decode cX6_put 30 = .ok (.iload 5, 2) := by decide +kernel
theorem dX6_put_32 : decode cX6_put 32 = .ok (.bipush 6, 2) := by decide +kernel
theorem dX6_put_34 : decode cX6_put 34 = .ok (.ishr, 1) := by decide +kernel
theorem dX6_put_35 : decode cX6_put 35 = .ok (.dup2, 1) := by decide +kernel
theorem dX6_put_36 : decode cX6_put 36 = .ok (.laload, 1) := by decide +kernel
theorem dX6_put_37 : decode cX6_put 37 = .ok (.lconst 1, 1) := by decide +kernel
theorem dX6_put_38 : decode cX6_put 38 = .ok (.iload 5, 2) := by decide +kernel
theorem dX6_put_40 : decode cX6_put 40 = .ok (.bipush 63, 2) := by decide +kernel
theorem dX6_put_42 : decode cX6_put 42 = .ok (.iand, 1) := by decide +kernel
theorem dX6_put_43 : decode cX6_put 43 = .ok (.lshl, 1) := by decide +kernel
theorem dX6_put_44 : decode cX6_put 44 = .ok (.lor, 1) := by decide +kernel
theorem dX6_put_45 : decode cX6_put 45 = .ok (.lastore, 1) := by decide +kernel
theorem dX6_put_46 : decode cX6_put 46 = .ok (.iload 5, 2) := by decide +kernel
theorem dX6_put_48 : decode cX6_put 48 = .ok (.aload_n 0, 1) := by decide +kernel
theorem dX6_put_49 : decode cX6_put 49 = .ok (.getfield 13, 3) := by decide +kernel
theorem dX6_put_52 : decode cX6_put 52 = .ok (.arraylength, 1) := by decide +kernel
theorem dX6_put_53 : decode cX6_put 53 = .ok (.if_icmp .ge 17, 3) := by decide +kernel
theorem dX6_put_56 : decode cX6_put 56 = .ok (.aload_n 0, 1) := by decide +kernel
theorem dX6_put_57 : decode cX6_put 57 = .ok (.getfield 13, 3) := by decide +kernel
theorem dX6_put_60 : decode cX6_put 60 = .ok (.iload 5, 2) := by decide +kernel
theorem dX6_put_62 : decode cX6_put 62 = .ok (.iload_n 3, 1) := by decide +kernel
theorem dX6_put_63 : decode cX6_put 63 = .ok (.bipush 100, 2) := by decide +kernel
theorem dX6_put_65 : decode cX6_put 65 = .ok (.imul, 1) := by decide +kernel
theorem dX6_put_66 : decode cX6_put 66 = .ok (.iload 4, 2) := by decide +kernel
theorem dX6_put_68 : decode cX6_put 68 = .ok (.iadd, 1) := by decide +kernel
theorem dX6_put_69 : decode cX6_put 69 = .ok (.iastore, 1) := by decide +kernel
theorem dX6_put_70 : decode cX6_put 70 = .ok (.return_, 1) := by decide +kernel
theorem dX6_wipe_0 : decode cX6_wipe 0 = .ok (.iload_n 2, 1) := by decide +kernel
theorem dX6_wipe_1 : decode cX6_wipe 1 = .ok (.bipush 120, 2) := by decide +kernel
theorem dX6_wipe_3 : decode cX6_wipe 3 = .ok (.imul, 1) := by decide +kernel
theorem dX6_wipe_4 : decode cX6_wipe 4 = .ok (.iload_n 1, 1) := by decide +kernel
theorem dX6_wipe_5 : decode cX6_wipe 5 = .ok (.iadd, 1) := by decide +kernel
theorem dX6_wipe_6 : decode cX6_wipe 6 = .ok (.istore_n 3, 1) := by decide +kernel
theorem dX6_wipe_7 : decode cX6_wipe 7 = .ok (.aload_n 0, 1) := by decide +kernel
theorem dX6_wipe_8 : decode cX6_wipe 8 = .ok (.getfield 9, 3) := by decide +kernel
theorem dX6_wipe_11 : decode cX6_wipe 11 = .ok (.iload_n 3, 1) := by decide +kernel
theorem dX6_wipe_12 : decode cX6_wipe 12 = .ok (.bipush 6, 2) := by decide +kernel
theorem dX6_wipe_14 : decode cX6_wipe 14 = .ok (.ishr, 1) := by decide +kernel
theorem dX6_wipe_15 : decode cX6_wipe 15 = .ok (.dup2, 1) := by decide +kernel
theorem dX6_wipe_16 : decode cX6_wipe 16 = .ok (.laload, 1) := by decide +kernel
theorem dX6_wipe_17 : decode cX6_wipe 17 = .ok (.lconst 1, 1) := by decide +kernel
theorem dX6_wipe_18 : decode cX6_wipe 18 = .ok (.iload_n 3, 1) := by decide +kernel
theorem dX6_wipe_19 : decode cX6_wipe 19 = .ok (.bipush 63, 2) := by decide +kernel
theorem dX6_wipe_21 : decode cX6_wipe 21 = .ok (.iand, 1) := by decide +kernel
theorem dX6_wipe_22 : decode cX6_wipe 22 = .ok (.lshl, 1) := by decide +kernel
theorem dX6_wipe_23 : decode cX6_wipe 23 = .ok (.ldc2_w 30, 3) := by decide +kernel
theorem dX6_wipe_26 : decode cX6_wipe 26 = .ok (.lxor, 1) := by decide +kernel
theorem dX6_wipe_27 : decode cX6_wipe 27 = .ok (.land, 1) := by decide +kernel
theorem dX6_wipe_28 : decode cX6_wipe 28 = .ok (.lastore, 1) := by decide +kernel
theorem dX6_wipe_29 : decode cX6_wipe 29 = .ok (.return_, 1) := by decide +kernel
set_option maxRecDepth 20000 in
theorem ggX6_pegThatMarked_X6_firstCode : GoodIn wsX6_pegThatMarked wsX6_firstCode := goodIn_r _ [5, 6, 7, 8] (by decide +kernel) (by decide +kernel)
set_option maxRecDepth 20000 in
theorem gX6_pegThatMarked_X6_firstCode : GoodIn wsX6_pegThatMarked (wsV RX6 32 RX6 yX6_firstCode wsX6_firstCode) := goodIn_app (goodIn_of _ (by decide +kernel)) ggX6_pegThatMarked_X6_firstCode
theorem dX6_pegThatMarked_0 : decode cX6_pegThatMarked 0 = .ok (.aload_n 0, 1) := by decide +kernel
theorem dX6_pegThatMarked_1 : decode cX6_pegThatMarked 1 = .ok (.iload_n 1, 1) := by decide +kernel
theorem dX6_pegThatMarked_2 : decode cX6_pegThatMarked 2 = .ok (.iload_n 2, 1) := by decide +kernel
theorem dX6_pegThatMarked_3 : decode cX6_pegThatMarked 3 = .ok (.invokevirtual 32, 3) := by decide +kernel
theorem dX6_pegThatMarked_6 : decode cX6_pegThatMarked 6 = .ok (.bipush 100, 2) := by decide +kernel
theorem dX6_pegThatMarked_8 : decode cX6_pegThatMarked 8 = .ok (.idiv, 1) := by decide +kernel
theorem dX6_pegThatMarked_9 : decode cX6_pegThatMarked 9 = .ok (.ireturn, 1) := by decide +kernel
set_option maxRecDepth 20000 in
theorem ggX6_stepThatMarked_X6_firstCode : GoodIn wsX6_stepThatMarked wsX6_firstCode := goodIn_r _ [5, 6, 7, 8] (by decide +kernel) (by decide +kernel)
set_option maxRecDepth 20000 in
theorem gX6_stepThatMarked_X6_firstCode : GoodIn wsX6_stepThatMarked (wsV RX6 32 RX6 yX6_firstCode wsX6_firstCode) := goodIn_app (goodIn_of _ (by decide +kernel)) ggX6_stepThatMarked_X6_firstCode
theorem dX6_stepThatMarked_0 : decode cX6_stepThatMarked 0 = .ok (.aload_n 0, 1) := by decide +kernel
theorem dX6_stepThatMarked_1 : decode cX6_stepThatMarked 1 = .ok (.iload_n 1, 1) := by decide +kernel
theorem dX6_stepThatMarked_2 : decode cX6_stepThatMarked 2 = .ok (.iload_n 2, 1) := by decide +kernel
theorem dX6_stepThatMarked_3 : decode cX6_stepThatMarked 3 = .ok (.invokevirtual 32, 3) := by decide +kernel
theorem dX6_stepThatMarked_6 : decode cX6_stepThatMarked 6 = .ok (.bipush 100, 2) := by decide +kernel
theorem dX6_stepThatMarked_8 : decode cX6_stepThatMarked 8 = .ok (.irem, 1) := by decide +kernel
theorem dX6_stepThatMarked_9 : decode cX6_stepThatMarked 9 = .ok (.ireturn, 1) := by decide +kernel
theorem dX6_firstCode_0 : decode cX6_firstCode 0 = .ok (.iload_n 2, 1) := by decide +kernel
theorem dX6_firstCode_1 : decode cX6_firstCode 1 = .ok (.bipush 120, 2) := by decide +kernel
theorem dX6_firstCode_3 : decode cX6_firstCode 3 = .ok (.imul, 1) := by decide +kernel
theorem dX6_firstCode_4 : decode cX6_firstCode 4 = .ok (.iload_n 1, 1) := by decide +kernel
theorem dX6_firstCode_5 : decode cX6_firstCode 5 = .ok (.iadd, 1) := by decide +kernel
theorem dX6_firstCode_6 : decode cX6_firstCode 6 = .ok (.istore_n 3, 1) := by decide +kernel
theorem dX6_firstCode_7 : decode cX6_firstCode 7 = .ok (.iload_n 3, 1) := by decide +kernel
theorem dX6_firstCode_8 : decode cX6_firstCode 8 = .ok (.aload_n 0, 1) := by decide +kernel
theorem dX6_firstCode_9 : decode cX6_firstCode 9 = .ok (.getfield 13, 3) := by decide +kernel
theorem dX6_firstCode_12 : decode cX6_firstCode 12 = .ok (.arraylength, 1) := by decide +kernel
theorem dX6_firstCode_13 : decode cX6_firstCode 13 = .ok (.if_icmp .ge 12, 3) := by decide +kernel
theorem dX6_firstCode_16 : decode cX6_firstCode 16 = .ok (.aload_n 0, 1) := by decide +kernel
theorem dX6_firstCode_17 : decode cX6_firstCode 17 = .ok (.getfield 13, 3) := by decide +kernel
theorem dX6_firstCode_20 : decode cX6_firstCode 20 = .ok (.iload_n 3, 1) := by decide +kernel
theorem dX6_firstCode_21 : decode cX6_firstCode 21 = .ok (.iaload, 1) := by decide +kernel
theorem dX6_firstCode_22 : decode cX6_firstCode 22 = .ok (.goto 4, 3) := by decide +kernel
theorem dX6_firstCode_25 : decode cX6_firstCode 25 = .ok (.iconst 0, 1) := by decide +kernel
theorem dX6_firstCode_26 : decode cX6_firstCode 26 = .ok (.ireturn, 1) := by decide +kernel
set_option maxRecDepth 20000 in
theorem ggX6_size_J13_bitCount_95d88 : GoodIn wsX6_size wsJ13_bitCount_95d88 := goodIn_r _ [5, 6, 7, 8] (by decide +kernel) (by decide +kernel)
set_option maxRecDepth 20000 in
theorem gX6_size_J13_bitCount_95d88 : GoodIn wsX6_size (va_wsS RX6 36 yJ13_bitCount_95d88 wsJ13_bitCount_95d88) := goodIn_app (goodIn_of _ (by decide +kernel)) ggX6_size_J13_bitCount_95d88
theorem dX6_size_0 : decode cX6_size 0 = .ok (.iconst 0, 1) := by decide +kernel
theorem dX6_size_1 : decode cX6_size 1 = .ok (.istore_n 1, 1) := by decide +kernel
theorem dX6_size_2 : decode cX6_size 2 = .ok (.iconst 0, 1) := by decide +kernel
theorem dX6_size_3 : decode cX6_size 3 = .ok (.istore_n 2, 1) := by decide +kernel
theorem dX6_size_4 : decode cX6_size 4 = .ok (.iload_n 2, 1) := by decide +kernel
theorem dX6_size_5 : decode cX6_size 5 = .ok (.bipush 19, 2) := by decide +kernel
theorem dX6_size_7 : decode cX6_size 7 = .ok (.if_icmp .ge 21, 3) := by decide +kernel
theorem dX6_size_10 : decode cX6_size 10 = .ok (.iload_n 1, 1) := by decide +kernel
theorem dX6_size_11 : decode cX6_size 11 = .ok (.aload_n 0, 1) := by decide +kernel
theorem dX6_size_12 : decode cX6_size 12 = .ok (.getfield 9, 3) := by decide +kernel
theorem dX6_size_15 : decode cX6_size 15 = .ok (.iload_n 2, 1) := by decide +kernel
theorem dX6_size_16 : decode cX6_size 16 = .ok (.laload, 1) := by decide +kernel
theorem dX6_size_17 : decode cX6_size 17 = .ok (.invokestatic 36, 3) := by decide +kernel
theorem dX6_size_20 : decode cX6_size 20 = .ok (.iadd, 1) := by decide +kernel
theorem dX6_size_21 : decode cX6_size 21 = .ok (.istore_n 1, 1) := by decide +kernel
theorem dX6_size_22 : decode cX6_size 22 = .ok (.iinc 2 1, 3) := by decide +kernel
theorem dX6_size_25 : decode cX6_size 25 = .ok (.goto (-21), 3) := by decide +kernel
theorem dX6_size_28 : decode cX6_size 28 = .ok (.iload_n 1, 1) := by decide +kernel
theorem dX6_size_29 : decode cX6_size 29 = .ok (.ireturn, 1) := by decide +kernel
theorem dX6_isWithin_0 : decode cX6_isWithin 0 = .ok (.iconst 0, 1) := by decide +kernel
theorem dX6_isWithin_1 : decode cX6_isWithin 1 = .ok (.istore_n 2, 1) := by decide +kernel
theorem dX6_isWithin_2 : decode cX6_isWithin 2 = .ok (.iload_n 2, 1) := by decide +kernel
theorem dX6_isWithin_3 : decode cX6_isWithin 3 = .ok (.bipush 19, 2) := by decide +kernel
theorem dX6_isWithin_5 : decode cX6_isWithin 5 = .ok (.if_icmp .ge 33, 3) := by decide +kernel
theorem dX6_isWithin_8 : decode cX6_isWithin 8 = .ok (.aload_n 0, 1) := by decide +kernel
theorem dX6_isWithin_9 : decode cX6_isWithin 9 = .ok (.getfield 9, 3) := by decide +kernel
theorem dX6_isWithin_12 : decode cX6_isWithin 12 = .ok (.iload_n 2, 1) := by decide +kernel
theorem dX6_isWithin_13 : decode cX6_isWithin 13 = .ok (.laload, 1) := by decide +kernel
theorem dX6_isWithin_14 : decode cX6_isWithin 14 = .ok (.aload_n 1, 1) := by decide +kernel
theorem dX6_isWithin_15 : decode cX6_isWithin 15 = .ok (.getfield 9, 3) := by decide +kernel
theorem dX6_isWithin_18 : decode cX6_isWithin 18 = .ok (.iload_n 2, 1) := by decide +kernel
theorem dX6_isWithin_19 : decode cX6_isWithin 19 = .ok (.laload, 1) := by decide +kernel
theorem dX6_isWithin_20 : decode cX6_isWithin 20 = .ok (.ldc2_w 30, 3) := by decide +kernel
theorem dX6_isWithin_23 : decode cX6_isWithin 23 = .ok (.lxor, 1) := by decide +kernel
theorem dX6_isWithin_24 : decode cX6_isWithin 24 = .ok (.land, 1) := by decide +kernel
theorem dX6_isWithin_25 : decode cX6_isWithin 25 = .ok (.lconst 0, 1) := by decide +kernel
theorem dX6_isWithin_26 : decode cX6_isWithin 26 = .ok (.lcmp, 1) := by decide +kernel
theorem dX6_isWithin_27 : decode cX6_isWithin 27 = .ok (.ifCond .eq 5, 3) := by decide +kernel
theorem dX6_isWithin_30 : decode cX6_isWithin 30 = .ok (.iconst 0, 1) := by decide +kernel
theorem dX6_isWithin_31 : decode cX6_isWithin 31 = .ok (.ireturn, 1) := by decide +kernel
theorem dX6_isWithin_32 : decode cX6_isWithin 32 = .ok (.iinc 2 1, 3) := by decide +kernel
theorem dX6_isWithin_35 : decode cX6_isWithin 35 = .ok (.goto (-33), 3) := by decide +kernel
theorem dX6_isWithin_38 : decode cX6_isWithin 38 = .ok (.iconst 1, 1) := by decide +kernel
theorem dX6_isWithin_39 : decode cX6_isWithin 39 = .ok (.ireturn, 1) := by decide +kernel
theorem dX7_init_0 : decode cX7_init 0 = .ok (.aload_n 0, 1) := by decide +kernel
theorem dX7_init_1 : decode cX7_init 1 = .ok (.invokespecial 1, 3) := by decide +kernel
theorem dX7_init_4 : decode cX7_init 4 = .ok (.aload_n 0, 1) := by decide +kernel
theorem dX7_init_5 : decode cX7_init 5 = .ok (.iconst 0, 1) := by decide +kernel
theorem dX7_init_6 : decode cX7_init 6 = .ok (.putfield 7, 3) := by decide +kernel
theorem dX7_init_9 : decode cX7_init 9 = .ok (.aload_n 0, 1) := by decide +kernel
theorem dX7_init_10 : decode cX7_init 10 = .ok (.iconst 2, 1) := by decide +kernel
theorem dX7_init_11 : decode cX7_init 11 = .ok (.putfield 13, 3) := by decide +kernel
theorem dX7_init_14 : decode cX7_init 14 = .ok (.aload_n 0, 1) := by decide +kernel
theorem dX7_init_15 : decode cX7_init 15 = .ok (.iconst 0, 1) := by decide +kernel
theorem dX7_init_16 : decode cX7_init 16 = .ok (.putfield 16, 3) := by decide +kernel
theorem dX7_init_19 : decode cX7_init 19 = .ok (.aload_n 0, 1) := by decide +kernel
theorem dX7_init_20 : decode cX7_init 20 = .ok (.iconst 0, 1) := by decide +kernel
theorem dX7_init_21 : decode cX7_init 21 = .ok (.putfield 19, 3) := by decide +kernel
theorem dX7_init_24 : decode cX7_init 24 = .ok (.aload_n 0, 1) := by decide +kernel
theorem dX7_init_25 : decode cX7_init 25 = .ok (.iconst 0, 1) := by decide +kernel
theorem dX7_init_26 : decode cX7_init 26 = .ok (.putfield 22, 3) := by decide +kernel
theorem dX7_init_29 : decode cX7_init 29 = .ok (.return_, 1) := by decide +kernel
theorem dX7_power_0 : decode cX7_power 0 = .ok (.aload_n 0, 1) := by decide +kernel
theorem dX7_power_1 : decode cX7_power 1 = .ok (.getfield 7, 3) := by decide +kernel
theorem dX7_power_4 : decode cX7_power 4 = .ok (.ireturn, 1) := by decide +kernel
theorem dX7_load_0 : decode cX7_load 0 = .ok (.aload_n 0, 1) := by decide +kernel
theorem dX7_load_1 : decode cX7_load 1 = .ok (.getfield 13, 3) := by decide +kernel
theorem dX7_load_4 : decode cX7_load 4 = .ok (.ireturn, 1) := by decide +kernel
theorem dX7_setLoad_0 : decode cX7_setLoad 0 = .ok (.aload_n 0, 1) := by decide +kernel
theorem dX7_setLoad_1 : decode cX7_setLoad 1 = .ok (.iload_n 1, 1) := by decide +kernel
theorem dX7_setLoad_2 : decode cX7_setLoad 2 = .ok (.putfield 13, 3) := by decide +kernel
theorem dX7_setLoad_5 : decode cX7_setLoad 5 = .ok (.return_, 1) := by decide +kernel
theorem dX7_strain_0 : decode cX7_strain 0 = .ok (.aload_n 0, 1) := by decide +kernel
theorem dX7_strain_1 : decode cX7_strain 1 = .ok (.getfield 16, 3) := by decide +kernel
theorem dX7_strain_4 : decode cX7_strain 4 = .ok (.ireturn, 1) := by decide +kernel
theorem dX7_ticks_0 : decode cX7_ticks 0 = .ok (.aload_n 0, 1) := by decide +kernel
theorem dX7_ticks_1 : decode cX7_ticks 1 = .ok (.getfield 19, 3) := by decide +kernel
theorem dX7_ticks_4 : decode cX7_ticks 4 = .ok (.ireturn, 1) := by decide +kernel
theorem dX7_steps_0 : decode cX7_steps 0 = .ok (.aload_n 0, 1) := by decide +kernel
theorem dX7_steps_1 : decode cX7_steps 1 = .ok (.getfield 22, 3) := by decide +kernel
theorem dX7_steps_4 : decode cX7_steps 4 = .ok (.ireturn, 1) := by decide +kernel
theorem dX7_wear_0 : decode cX7_wear 0 = .ok (.bipush 20, 2) := by decide +kernel
theorem dX7_wear_2 : decode cX7_wear 2 = .ok (.aload_n 0, 1) := by decide +kernel
theorem dX7_wear_3 : decode cX7_wear 3 = .ok (.getfield 22, 3) := by decide +kernel
theorem dX7_wear_6 : decode cX7_wear 6 = .ok (.bipush 100, 2) := by decide +kernel
theorem dX7_wear_8 : decode cX7_wear 8 = .ok (.idiv, 1) := by decide +kernel
theorem dX7_wear_9 : decode cX7_wear 9 = .ok (.invokestatic 25, 3) := by decide +kernel
theorem dX7_wear_12 : decode cX7_wear 12 = .ok (.ireturn, 1) := by decide +kernel
theorem dX7_tighten_0 : decode cX7_tighten 0 = .ok (.aload_n 0, 1) := by decide +kernel
theorem dX7_tighten_1 : decode cX7_tighten 1 = .ok (.dup, 1) := by decide +kernel
theorem dX7_tighten_2 : decode cX7_tighten 2 = .ok (.getfield 7, 3) := by decide +kernel
theorem dX7_tighten_5 : decode cX7_tighten 5 = .ok (.iload_n 1, 1) := by decide +kernel
theorem dX7_tighten_6 : decode cX7_tighten 6 = .ok (.iadd, 1) := by decide +kernel
theorem dX7_tighten_7 : decode cX7_tighten 7 = .ok (.putfield 7, 3) := by decide +kernel
theorem dX7_tighten_10 : decode cX7_tighten 10 = .ok (.aload_n 0, 1) := by decide +kernel
theorem dX7_tighten_11 : decode cX7_tighten 11 = .ok (.getfield 7, 3) := by decide +kernel

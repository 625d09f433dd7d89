theorem dX9_first_35 : decode cX9_first 35 = .ok (.iadd, 1) := by decide +kernel
theorem dX9_first_36 : decode cX9_first 36 = .ok (.istore 4, 2) := by decide +kernel
theorem dX9_first_38 : decode cX9_first 38 = .ok (.aload_n 0, 1) := by decide +kernel
theorem dX9_first_39 : decode cX9_first 39 = .ok (.getfield 39, 3) := by decide +kernel
theorem dX9_first_42 : decode cX9_first 42 = .ok (.iload 4, 2) := by decide +kernel
theorem dX9_first_44 : decode cX9_first 44 = .ok (.iaload, 1) := by decide +kernel
theorem dX9_first_45 : decode cX9_first 45 = .ok (.ifCond .ge 8, 3) := by decide +kernel
theorem dX9_first_48 : decode cX9_first 48 = .ok (.bipush (-9), 2) := by decide +kernel
theorem dX9_first_50 : decode cX9_first 50 = .ok (.goto 24, 3) := by decide +kernel
theorem dX9_first_53 : decode cX9_first 53 = .ok (.iload_n 3, 1) := by decide +kernel
theorem dX9_first_54 : decode cX9_first 54 = .ok (.ifCond .ne 13, 3) := by decide +kernel
theorem dX9_first_57 : decode cX9_first 57 = .ok (.aload_n 0, 1) := by decide +kernel
theorem dX9_first_58 : decode cX9_first 58 = .ok (.getfield 39, 3) := by decide +kernel
theorem dX9_first_61 : decode cX9_first 61 = .ok (.iload 4, 2) := by decide +kernel
theorem dX9_first_63 : decode cX9_first 63 = .ok (.iaload, 1) := by decide +kernel
theorem dX9_first_64 : decode cX9_first 64 = .ok (.goto 10, 3) := by decide +kernel
theorem dX9_first_67 : decode cX9_first 67 = .ok (.aload_n 0, 1) := by decide +kernel
theorem dX9_first_68 : decode cX9_first 68 = .ok (.getfield 42, 3) := by decide +kernel
theorem dX9_first_71 : decode cX9_first 71 = .ok (.iload 4, 2) := by decide +kernel
theorem dX9_first_73 : decode cX9_first 73 = .ok (.iaload, 1) := by decide +kernel
theorem dX9_first_74 : decode cX9_first 74 = .ok (.ireturn, 1) := by decide +kernel
theorem dX9_marks_0 : decode cX9_marks 0 = .ok (.iconst 0, 1) := by decide +kernel
theorem dX9_marks_1 : decode cX9_marks 1 = .ok (.istore_n 1, 1) := by decide +kernel
theorem dX9_marks_2 : decode cX9_marks 2 = .ok (.iconst 0, 1) := by decide +kernel
theorem dX9_marks_3 : decode cX9_marks 3 = .ok (.istore_n 2, 1) := by decide +kernel
theorem dX9_marks_4 : decode cX9_marks 4 = .ok (.iload_n 2, 1) := by decide +kernel
theorem dX9_marks_5 : decode cX9_marks 5 = .ok (.sipush 1200, 3) := by decide +kernel
theorem dX9_marks_8 : decode cX9_marks 8 = .ok (.if_icmp .ge 26, 3) := by decide +kernel
theorem dX9_marks_11 : decode cX9_marks 11 = .ok (.iload_n 1, 1) := by decide +kernel
theorem dX9_marks_12 : decode cX9_marks 12 = .ok (.aload_n 0, 1) := by decide +kernel
theorem dX9_marks_13 : decode cX9_marks 13 = .ok (.getfield 39, 3) := by decide +kernel
theorem dX9_marks_16 : decode cX9_marks 16 = .ok (.iload_n 2, 1) := by decide +kernel
theorem dX9_marks_17 : decode cX9_marks 17 = .ok (.iaload, 1) := by decide +kernel
theorem dX9_marks_18 : decode cX9_marks 18 = .ok (.ifCond .ge 7, 3) := by decide +kernel
theorem dX9_marks_21 : decode cX9_marks 21 = .ok (.iconst 0, 1) := by decide +kernel
theorem dX9_marks_22 : decode cX9_marks 22 = .ok (.goto 4, 3) := by decide +kernel
theorem dX9_marks_25 : decode cX9_marks 25 = .ok (.iconst 1, 1) := by decide +kernel
theorem dX9_marks_26 : decode cX9_marks 26 = .ok (.iadd, 1) := by decide +kernel
theorem dX9_marks_27 : decode cX9_marks 27 = .ok (.istore_n 1, 1) := by decide +kernel
theorem dX9_marks_28 : decode cX9_marks 28 = .ok (.iinc 2 1, 3) := by decide +kernel
theorem dX9_marks_31 : decode cX9_marks 31 = .ok (.goto (-27), 3) := by decide +kernel
theorem dX9_marks_34 : decode cX9_marks 34 = .ok (.iload_n 1, 1) := by decide +kernel
theorem dX9_marks_35 : decode cX9_marks 35 = .ok (.ireturn, 1) := by decide +kernel
set_option maxRecDepth 20000 in
theorem ggX9_see_X9_isCell : GoodIn wsX9_see wsX9_isCell := goodIn_r _ [6, 7, 8, 5, 9] (by decide +kernel) (by decide +kernel)
set_option maxRecDepth 20000 in
theorem gX9_see_X9_isCell : GoodIn wsX9_see (va_wsS RX9 172 yX9_isCell wsX9_isCell) := goodIn_app (goodIn_of _ (by decide +kernel)) ggX9_see_X9_isCell
set_option maxRecDepth 20000 in
theorem ggX9_see_X9_refuse : GoodIn wsX9_see wsX9_refuse := goodIn_r _ [13, 14, 15, 16, 17, 18, 19, 20, 21, 22, 23, 24, 25, 26, 27, 28, 29, 30, 31, 32, 33, 34, 35, 36, 37, 38, 39, 40, 41, 42, 43, 44, 45, 46] (by decide +kernel) (by decide +kernel)
set_option maxRecDepth 20000 in
theorem gX9_see_X9_refuse : GoodIn wsX9_see (wsV RX9 79 RX9 yX9_refuse wsX9_refuse) := goodIn_app (goodIn_of _ (by decide +kernel)) ggX9_see_X9_refuse
theorem dX9_see_0 : decode cX9_see 0 = .ok (.iload_n 1, 1) := by decide +kernel
theorem dX9_see_1 : decode cX9_see 1 = .ok (.iload_n 2, 1) := by decide +kernel
theorem dX9_see_2 : decode cX9_see 2 = .ok (.invokestatic 172, 3) := by decide +kernel
theorem dX9_see_5 : decode cX9_see 5 = .ok (.ifCond .ne 9, 3) := by decide +kernel
theorem dX9_see_8 : decode cX9_see 8 = .ok (.aload_n 0, 1) := by decide +kernel
theorem dX9_see_9 : decode cX9_see 9 = .ok (.iconst (-1), 1) := by decide +kernel
theorem dX9_see_10 : decode cX9_see 10 = .ok (.invokevirtual 79, 3) := by decide +kernel
theorem dX9_see_13 : decode cX9_see 13 = .ok (.ireturn, 1) := by decide +kernel
theorem dX9_see_14 : decode cX9_see 14 = .ok (.bipush 10, 2) := by decide +kernel
theorem dX9_see_16 : decode cX9_see 16 = .ok (.iload_n 1, 1) := by decide +kernel
theorem dX9_see_17 : decode cX9_see 17 = .ok (.imul, 1) := by decide +kernel
theorem dX9_see_18 : decode cX9_see 18 = .ok (.iload_n 2, 1) := by decide +kernel
theorem dX9_see_19 : decode cX9_see 19 = .ok (.iadd, 1) := by decide +kernel
theorem dX9_see_20 : decode cX9_see 20 = .ok (.istore 4, 2) := by decide +kernel
theorem dX9_see_22 : decode cX9_see 22 = .ok (.aload_n 0, 1) := by decide +kernel
theorem dX9_see_23 : decode cX9_see 23 = .ok (.getfield 39, 3) := by decide +kernel
theorem dX9_see_26 : decode cX9_see 26 = .ok (.iload 4, 2) := by decide +kernel
theorem dX9_see_28 : decode cX9_see 28 = .ok (.iaload, 1) := by decide +kernel
theorem dX9_see_29 : decode cX9_see 29 = .ok (.ifCond .lt 7, 3) := by decide +kernel
theorem dX9_see_32 : decode cX9_see 32 = .ok (.iconst 1, 1) := by decide +kernel
theorem dX9_see_33 : decode cX9_see 33 = .ok (.goto 4, 3) := by decide +kernel
theorem dX9_see_36 : decode cX9_see 36 = .ok (.iconst 0, 1) := by decide +kernel
theorem dX9_see_37 : decode cX9_see 37 = .ok (.istore 5, 2) := by decide +kernel
theorem dX9_see_39 : decode cX9_see 39 = .ok (.iload 5, 2) := by decide +kernel
theorem dX9_see_41 : decode cX9_see 41 = .ok (.iload_n 3, 1) := by decide +kernel
theorem dX9_see_42 : decode cX9_see 42 = .ok (.if_icmp .ne 5, 3) := by decide +kernel
theorem dX9_see_45 : decode cX9_see 45 = .ok (.iconst 0, 1) := by decide +kernel
theorem dX9_see_46 : decode cX9_see 46 = .ok (.ireturn, 1) := by decide +kernel
theorem dX9_see_47 : decode cX9_see 47 = .ok (.aload_n 0, 1) := by decide +kernel
theorem dX9_see_48 : decode cX9_see 48 = .ok (.getfield 39, 3) := by decide +kernel
theorem dX9_see_51 : decode cX9_see 51 = .ok (.iload 4, 2) := by decide +kernel
theorem dX9_see_53 : decode cX9_see 53 = .ok (.iload_n 3, 1) := by decide +kernel
theorem dX9_see_54 : decode cX9_see 54 = .ok (.ifCond .eq 8, 3) := by decide +kernel
theorem dX9_see_57 : decode cX9_see 57 = .ok (.bipush 99, 2) := by decide +kernel
theorem dX9_see_59 : decode cX9_see 59 = .ok (.goto 4, 3) := by decide +kernel
theorem dX9_see_62 : decode cX9_see 62 = .ok (.iconst (-1), 1) := by decide +kernel
theorem dX9_see_63 : decode cX9_see 63 = .ok (.iastore, 1) := by decide +kernel
theorem dX9_see_64 : decode cX9_see 64 = .ok (.aload_n 0, 1) := by decide +kernel
theorem dX9_see_65 : decode cX9_see 65 = .ok (.getfield 42, 3) := by decide +kernel
theorem dX9_see_68 : decode cX9_see 68 = .ok (.iload 4, 2) := by decide +kernel
theorem dX9_see_70 : decode cX9_see 70 = .ok (.iload_n 3, 1) := by decide +kernel
theorem dX9_see_71 : decode cX9_see 71 = .ok (.ifCond .eq 8, 3) := by decide +kernel
theorem dX9_see_74 : decode cX9_see 74 = .ok (.bipush 99, 2) := by decide +kernel
theorem dX9_see_76 : decode cX9_see 76 = .ok (.goto 4, 3) := by decide +kernel
theorem dX9_see_79 : decode cX9_see 79 = .ok (.iconst (-1), 1) := by decide +kernel
theorem dX9_see_80 : decode cX9_see 80 = .ok (.iastore, 1) := by decide +kernel
theorem dX9_see_81 : decode cX9_see 81 = .ok (.iconst 1, 1) := by decide +kernel
theorem dX9_see_82 : decode cX9_see 82 = .ok (.ireturn, 1) := by decide +kernel
set_option maxRecDepth 20000 in
theorem ggX9_fault_X9_in : GoodIn wsX9_fault wsX9_in := goodIn_r _ [6] (by decide +kernel) (by decide +kernel)
set_option maxRecDepth 20000 in
theorem gX9_fault_X9_in : GoodIn wsX9_fault (va_wsS RX9 75 yX9_in wsX9_in) := goodIn_app (goodIn_of _ (by decide +kernel)) ggX9_fault_X9_in
set_option maxRecDepth 20000 in
theorem ggX9_fault_X9_refuse : GoodIn wsX9_fault wsX9_refuse := goodIn_r _ [10, 11, 12, 13, 14, 15, 16, 17, 18, 19, 20, 21, 22, 23, 24, 25, 26, 27, 28, 29, 30, 31, 32, 33, 34, 35, 36, 37, 38, 39, 40, 41, 42, 43] (by decide +kernel) (by decide +kernel)
set_option maxRecDepth 20000 in
theorem gX9_fault_X9_refuse : GoodIn wsX9_fault (wsV RX9 79 RX9 yX9_refuse wsX9_refuse) := goodIn_app (goodIn_of _ (by decide +kernel)) ggX9_fault_X9_refuse
theorem dX9_fault_0 : decode cX9_fault 0 = .ok (.iload_n 1, 1) := by decide +kernel
theorem dX9_fault_1 : decode cX9_fault 1 = .ok (.iconst 1, 1) := by decide +kernel
theorem dX9_fault_2 : decode cX9_fault 2 = .ok (.iconst 3, 1) := by decide +kernel
theorem dX9_fault_3 : decode cX9_fault 3 = .ok (.invokestatic 75, 3) := by decide +kernel
theorem dX9_fault_6 : decode cX9_fault 6 = .ok (.ifCond .ne 10, 3) := by decide +kernel
theorem dX9_fault_9 : decode cX9_fault 9 = .ok (.aload_n 0, 1) := by decide +kernel
theorem dX9_fault_10 : decode cX9_fault 10 = .ok (.bipush (-2), 2) := by decide +kernel
theorem dX9_fault_12 : decode cX9_fault 12 = .ok (.invokevirtual 79, 3) := by decide +kernel
theorem dX9_fault_15 : decode cX9_fault 15 = .ok (.ireturn, 1) := by decide +kernel
theorem dX9_fault_16 : decode cX9_fault 16 = .ok (.iload_n 2, 1) := by decide +kernel
theorem dX9_fault_17 : decode cX9_fault 17 = .ok (.iconst 0, 1) := by decide +kernel
theorem dX9_fault_18 : decode cX9_fault 18 = .ok (.iload_n 1, 1) := by decide +kernel
theorem dX9_fault_19 : decode cX9_fault 19 = .ok (.iconst 1, 1) := by decide +kernel
theorem dX9_fault_20 : decode cX9_fault 20 = .ok (.if_icmp .ne 8, 3) := by decide +kernel
theorem dX9_fault_23 : decode cX9_fault 23 = .ok (.bipush 11, 2) := by decide +kernel
theorem dX9_fault_25 : decode cX9_fault 25 = .ok (.goto 18, 3) := by decide +kernel
theorem dX9_fault_28 : decode cX9_fault 28 = .ok (.iload_n 1, 1) := by decide +kernel
theorem dX9_fault_29 : decode cX9_fault 29 = .ok (.iconst 2, 1) := by decide +kernel
theorem dX9_fault_30 : decode cX9_fault 30 = .ok (.if_icmp .ne 12, 3) := by decide +kernel
theorem dX9_fault_33 : decode cX9_fault 33 = .ok (.aload_n 0, 1) := by decide +kernel
theorem dX9_fault_34 : decode cX9_fault 34 = .ok (.getfield 104, 3) := by decide +kernel
theorem dX9_fault_37 : decode cX9_fault 37 = .ok (.iconst 1, 1) := by decide +kernel
theorem dX9_fault_38 : decode cX9_fault 38 = .ok (.isub, 1) := by decide +kernel
theorem dX9_fault_39 : decode cX9_fault 39 = .ok (.goto 4, 3) := by decide +kernel
theorem dX9_fault_42 : decode cX9_fault 42 = .ok (.iconst 1, 1) := by decide +kernel
theorem dX9_fault_43 : decode cX9_fault 43 = .ok (.invokestatic 75, 3) := by decide +kernel
theorem dX9_fault_46 : decode cX9_fault 46 = .ok (.ifCond .ne 9, 3) := by decide +kernel
theorem dX9_fault_49 : decode cX9_fault 49 = .ok (.aload_n 0, 1) := by decide +kernel
theorem dX9_fault_50 : decode cX9_fault 50 = .ok (.iconst (-1), 1) := by decide +kernel
theorem dX9_fault_51 : decode cX9_fault 51 = .ok (.invokevirtual 79, 3) := by decide +kernel
theorem dX9_fault_54 : decode cX9_fault 54 = .ok (.ireturn, 1) := by decide +kernel
theorem dX9_fault_55 : decode cX9_fault 55 = .ok (.aload_n 0, 1) := by decide +kernel
theorem dX9_fault_56 : decode cX9_fault 56 = .ok (.getfield 45, 3) := by decide +kernel
theorem dX9_fault_59 : decode cX9_fault 59 = .ok (.iload_n 1, 1) := by decide +kernel
theorem dX9_fault_60 : decode cX9_fault 60 = .ok (.iload_n 2, 1) := by decide +kernel
theorem dX9_fault_61 : decode cX9_fault 61 = .ok (.iastore, 1) := by decide +kernel
theorem dX9_fault_62 : decode cX9_fault 62 = .ok (.iconst 1, 1) := by decide +kernel
theorem dX9_fault_63 : decode cX9_fault 63 = .ok (.ireturn, 1) := by decide +kernel
theorem dX9_faultMany_0 : decode cX9_faultMany 0 = .ok (.aload_n 0, 1) := by decide +kernel
theorem dX9_faultMany_1 : decode cX9_faultMany 1 = .ok (.getfield 45, 3) := by decide +kernel
theorem dX9_faultMany_4 : decode cX9_faultMany 4 = .ok (.iconst 1, 1) := by decide +kernel
theorem dX9_faultMany_5 : decode cX9_faultMany 5 = .ok (.iaload, 1) := by decide +kernel
theorem dX9_faultMany_6 : decode cX9_faultMany 6 = .ok (.ifCond .ge 7, 3) := by decide +kernel
theorem dX9_faultMany_9 : decode cX9_faultMany 9 = .ok (.iconst 0, 1) := by decide +kernel
theorem dX9_faultMany_10 : decode cX9_faultMany 10 = .ok (.goto 4, 3) := by decide +kernel
theorem dX9_faultMany_13 : decode cX9_faultMany 13 = .ok (.iconst 1, 1) := by decide +kernel
theorem dX9_faultMany_14 : decode cX9_faultMany 14 = .ok (.aload_n 0, 1) := by decide +kernel
theorem dX9_faultMany_15 : decode cX9_faultMany 15 = .ok (.getfield 45, 3) := by decide +kernel
theorem dX9_faultMany_18 : decode cX9_faultMany 18 = .ok (.iconst 2, 1) := by decide +kernel
theorem dX9_faultMany_19 : decode cX9_faultMany 19 = .ok (.iaload, 1) := by decide +kernel
theorem dX9_faultMany_20 : decode cX9_faultMany 20 = .ok (.ifCond .ge 7, 3) := by decide +kernel
theorem dX9_faultMany_23 : decode cX9_faultMany 23 = .ok (.iconst 0, 1) := by decide +kernel
theorem dX9_faultMany_24 : decode cX9_faultMany 24 = .ok (.goto 4, 3) := by decide +kernel
theorem dX9_faultMany_27 : decode cX9_faultMany 27 = .ok (.iconst 1, 1) := by decide +kernel
theorem dX9_faultMany_28 : decode cX9_faultMany 28 = .ok (.iadd, 1) := by decide +kernel
theorem dX9_faultMany_29 : decode cX9_faultMany 29 = .ok (.aload_n 0, 1) := by decide +kernel
theorem dX9_faultMany_30 : decode cX9_faultMany 30 = .ok (.getfield 45, 3) := by decide +kernel
theorem dX9_faultMany_33 : decode cX9_faultMany 33 = .ok (.iconst 3, 1) := by decide +kernel
theorem dX9_faultMany_34 : decode cX9_faultMany 34 = .ok (.iaload, 1) := by decide +kernel
theorem dX9_faultMany_35 : decode cX9_faultMany 35 = .ok (.ifCond .ge 7, 3) := by decide +kernel
theorem dX9_faultMany_38 : decode cX9_faultMany 38 = .ok (.iconst 0, 1) := by decide +kernel
theorem dX9_faultMany_39 : decode cX9_faultMany 39 = .ok (.goto 4, 3) := by decide +kernel
theorem dX9_faultMany_42 : decode cX9_faultMany 42 = .ok (.iconst 1, 1) := by decide +kernel
theorem dX9_faultMany_43 : decode cX9_faultMany 43 = .ok (.iadd, 1) := by decide +kernel
theorem dX9_faultMany_44 : decode cX9_faultMany 44 = .ok (.ireturn, 1) := by decide +kernel
set_option maxRecDepth 20000 in
theorem ggX9_mend_X9_faultMany : GoodIn wsX9_mend wsX9_faultMany := goodIn_r _ [6, 1, 7, 8, 9, 10, 11, 12, 13, 14, 15, 16, 17, 18, 19, 20, 21, 22, 23, 24, 25, 26, 27, 28, 29, 30, 31, 32, 33, 34, 35, 36, 37, 38] (by decide +kernel) (by decide +kernel)
set_option maxRecDepth 20000 in
theorem gX9_mend_X9_faultMany : GoodIn wsX9_mend (wsV RX9 175 RX9 yX9_faultMany wsX9_faultMany) := goodIn_app (goodIn_of _ (by decide +kernel)) ggX9_mend_X9_faultMany
theorem dX9_mend_0 : decode cX9_mend 0 = .ok (.aload_n 0, 1) := by decide +kernel
theorem dX9_mend_1 : decode cX9_mend 1 = .ok (.invokevirtual 175, 3) := by decide +kernel
theorem dX9_mend_4 : decode cX9_mend 4 = .ok (.istore_n 1, 1) := by decide +kernel
theorem dX9_mend_5 : decode cX9_mend 5 = .ok (.iconst 1, 1) := by decide +kernel
theorem dX9_mend_6 : decode cX9_mend 6 = .ok (.istore_n 2, 1) := by decide +kernel
theorem dX9_mend_7 : decode cX9_mend 7 = .ok (.iload_n 2, 1) := by decide +kernel
theorem dX9_mend_8 : decode cX9_mend 8 = .ok (.iconst 4, 1) := by decide +kernel
theorem dX9_mend_9 : decode cX9_mend 9 = .ok (.if_icmp .ge 16, 3) := by decide +kernel
theorem dX9_mend_12 : decode cX9_mend 12 = .ok (.aload_n 0, 1) := by decide +kernel
theorem dX9_mend_13 : decode cX9_mend 13 = .ok (.getfield 45, 3) := by decide +kernel
theorem dX9_mend_16 : decode cX9_mend 16 = .ok (.iload_n 2, 1) := by decide +kernel
theorem dX9_mend_17 : decode cX9_mend 17 = .ok (.iconst (-1), 1) := by decide +kernel
theorem dX9_mend_18 : decode cX9_mend 18 = .ok (.iastore, 1) := by decide +kernel
theorem dX9_mend_19 : decode cX9_mend 19 = .ok (.iinc 2 1, 3) := by decide +kernel
theorem dX9_mend_22 : decode cX9_mend 22 = .ok (.goto (-15), 3) := by decide +kernel
theorem dX9_mend_25 : decode cX9_mend 25 = .ok (.iload_n 1, 1) := by decide +kernel
theorem dX9_mend_26 : decode cX9_mend 26 = .ok (.ireturn, 1) := by decide +kernel
set_option maxRecDepth 20000 in
theorem ggX9_isWritten_X9_holdFaults : GoodIn wsX9_isWritten wsX9_holdFaults := goodIn_r _ [10, 11, 3, 12, 51, 52, 53, 54, 55, 56, 57, 58, 59, 60, 61, 62, 63, 64, 65, 66, 67, 68, 69, 70, 71, 72, 73, 74, 75, 76, 77, 78, 79, 80, 81, 82] (by decide +kernel) (by decide +kernel)
set_option maxRecDepth 20000 in
theorem gX9_isWritten_X9_holdFaults : GoodIn wsX9_isWritten (wsV RX9 146 RX9 yX9_holdFaults wsX9_holdFaults) := goodIn_app (goodIn_of _ (by decide +kernel)) ggX9_isWritten_X9_holdFaults
set_option maxRecDepth 20000 in
theorem ggX9_isWritten_X9_newMarks : GoodIn wsX9_isWritten wsX9_newMarks := goodIn_r _ [16, 5, 17, 51, 52, 53, 54, 55, 56, 57, 58, 59, 60, 61, 62, 63, 64, 65, 66, 67, 68, 69, 70, 71, 72, 73, 74, 75, 76, 77, 78, 79, 80, 81, 82] (by decide +kernel) (by decide +kernel)
set_option maxRecDepth 20000 in
theorem gX9_isWritten_X9_newMarks : GoodIn wsX9_isWritten (wsV RX9 150 RX9 yX9_newMarks wsX9_newMarks) := goodIn_app (goodIn_of _ (by decide +kernel)) ggX9_isWritten_X9_newMarks
set_option maxRecDepth 20000 in
theorem ggX9_isWritten_X9_write : GoodIn wsX9_isWritten wsX9_write := goodIn_r _ [21, 22, 23, 24, 9, 25, 26, 27, 28, 29, 30, 31, 32, 11, 33, 34, 35, 36, 37, 38, 12, 39, 40, 41, 42, 43, 44, 45, 46, 47, 5, 17, 48, 49, 50, 51, 52, 53, 54, 55, 56, 57, 58, 59, 60, 61, 62, 63, 64, 65, 66, 67, 68, 69, 70, 71, 72, 73, 74, 75, 76, 77, 78, 79, 80, 81, 82] (by decide +kernel) (by decide +kernel)
set_option maxRecDepth 20000 in
theorem gX9_isWritten_X9_write : GoodIn wsX9_isWritten (wsV RX9 162 RX9 yX9_write wsX9_write) := goodIn_app (goodIn_of _ (by decide +kernel)) ggX9_isWritten_X9_write
theorem dX9_isWritten_0 : decode cX9_isWritten 0 = .ok (.aload_n 0, 1) := by decide +kernel
theorem dX9_isWritten_1 : decode cX9_isWritten 1 = .ok (.iload_n 1, 1) := by decide +kernel
theorem dX9_isWritten_2 : decode cX9_isWritten 2 = .ok (.iload_n 2, 1) := by decide +kernel
theorem dX9_isWritten_3 : decode cX9_isWritten 3 = .ok (.iload_n 3, 1) := by decide +kernel
theorem dX9_isWritten_4 : decode cX9_isWritten 4 = .ok (.invokevirtual 146, 3) := by decide +kernel
theorem dX9_isWritten_7 : decode cX9_isWritten 7 = .ok (.aload_n 0, 1) := by decide +kernel
theorem dX9_isWritten_8 : decode cX9_isWritten 8 = .ok (.invokevirtual 150, 3) := by decide +kernel
theorem dX9_isWritten_11 : decode cX9_isWritten 11 = .ok (.iconst 0, 1) := by decide +kernel
theorem dX9_isWritten_12 : decode cX9_isWritten 12 = .ok (.istore 4, 2) := by decide +kernel
theorem dX9_isWritten_14 : decode cX9_isWritten 14 = .ok (.iload 4, 2) := by decide +kernel
theorem dX9_isWritten_16 : decode cX9_isWritten 16 = .ok (.aload_n 0, 1) := by decide +kernel
theorem dX9_isWritten_17 : decode cX9_isWritten 17 = .ok (.getfield 104, 3) := by decide +kernel
theorem dX9_isWritten_20 : decode cX9_isWritten 20 = .ok (.if_icmp .ge 44, 3) := by decide +kernel
theorem dX9_isWritten_23 : decode cX9_isWritten 23 = .ok (.iconst 0, 1) := by decide +kernel
theorem dX9_isWritten_24 : decode cX9_isWritten 24 = .ok (.istore 5, 2) := by decide +kernel
theorem dX9_isWritten_26 : decode cX9_isWritten 26 = .ok (.iload 5, 2) := by decide +kernel
theorem dX9_isWritten_28 : decode cX9_isWritten 28 = .ok (.aload_n 0, 1) := by decide +kernel
theorem dX9_isWritten_29 : decode cX9_isWritten 29 = .ok (.getfield 7, 3) := by decide +kernel
theorem dX9_isWritten_32 : decode cX9_isWritten 32 = .ok (.if_icmp .ge 26, 3) := by decide +kernel
theorem dX9_isWritten_35 : decode cX9_isWritten 35 = .ok (.iload 4, 2) := by decide +kernel
theorem dX9_isWritten_37 : decode cX9_isWritten 37 = .ok (.aload_n 0, 1) := by decide +kernel
theorem dX9_isWritten_38 : decode cX9_isWritten 38 = .ok (.getfield 116, 3) := by decide +kernel
theorem dX9_isWritten_41 : decode cX9_isWritten 41 = .ok (.if_icmp .eq 17, 3) := by decide +kernel
theorem dX9_isWritten_44 : decode cX9_isWritten 44 = .ok (.aload_n 0, 1) := by decide +kernel
theorem dX9_isWritten_45 : decode cX9_isWritten 45 = .ok (.iload 4, 2) := by decide +kernel
theorem dX9_isWritten_47 : decode cX9_isWritten 47 = .ok (.iload 5, 2) := by decide +kernel
theorem dX9_isWritten_49 : decode cX9_isWritten 49 = .ok (.invokevirtual 162, 3) := by decide +kernel
theorem dX9_isWritten_52 : decode cX9_isWritten 52 = .ok (.iinc 5 1, 3) := by decide +kernel
theorem dX9_isWritten_55 : decode cX9_isWritten 55 = .ok (.goto (-29), 3) := by decide +kernel
theorem dX9_isWritten_58 : decode cX9_isWritten 58 = .ok (.iinc 4 1, 3) := by decide +kernel
theorem dX9_isWritten_61 : decode cX9_isWritten 61 = .ok (.goto (-47), 3) := by decide +kernel
theorem dX9_isWritten_64 : decode cX9_isWritten 64 = .ok (.iconst 1, 1) := by decide +kernel
theorem dX9_isWritten_65 : decode cX9_isWritten 65 = .ok (.istore 4, 2) := by decide +kernel
theorem dX9_isWritten_67 : decode cX9_isWritten 67 = .ok (.iconst 0, 1) := by decide +kernel
theorem dX9_isWritten_68 : decode cX9_isWritten 68 = .ok (.istore 5, 2) := by decide +kernel
theorem dX9_isWritten_70 : decode cX9_isWritten 70 = .ok (.iload 5, 2) := by decide +kernel
theorem dX9_isWritten_72 : decode cX9_isWritten 72 = .ok (.sipush 1200, 3) := by decide +kernel
theorem dX9_isWritten_75 : decode cX9_isWritten 75 = .ok (.if_icmp .ge 54, 3) := by decide +kernel
theorem dX9_isWritten_78 : decode cX9_isWritten 78 = .ok (.iload 4, 2) := by decide +kernel
theorem dX9_isWritten_80 : decode cX9_isWritten 80 = .ok (.ifCond .eq 40, 3) := by decide +kernel
theorem dX9_isWritten_83 : decode cX9_isWritten 83 = .ok (.aload_n 0, 1) := by decide +kernel
theorem dX9_isWritten_84 : decode cX9_isWritten 84 = .ok (.getfield 39, 3) := by decide +kernel
theorem dX9_isWritten_87 : decode cX9_isWritten 87 = .ok (.iload 5, 2) := by decide +kernel
theorem dX9_isWritten_89 : decode cX9_isWritten 89 = .ok (.iaload, 1) := by decide +kernel
theorem dX9_isWritten_90 : decode cX9_isWritten 90 = .ok (.ifCond .ge 7, 3) := by decide +kernel
theorem dX9_isWritten_93 : decode cX9_isWritten 93 = .ok (.iconst 1, 1) := by decide +kernel
theorem dX9_isWritten_94 : decode cX9_isWritten 94 = .ok (.goto 4, 3) := by decide +kernel
theorem dX9_isWritten_97 : decode cX9_isWritten 97 = .ok (.iconst 0, 1) := by decide +kernel
theorem dX9_isWritten_98 : decode cX9_isWritten 98 = .ok (.aload_n 0, 1) := by decide +kernel
theorem dX9_isWritten_99 : decode cX9_isWritten 99 = .ok (.getfield 66, 3) := by decide +kernel
theorem dX9_isWritten_102 : decode cX9_isWritten 102 = .ok (.iload 5, 2) := by decide +kernel
theorem dX9_isWritten_104 : decode cX9_isWritten 104 = .ok (.iaload, 1) := by decide +kernel
theorem dX9_isWritten_105 : decode cX9_isWritten 105 = .ok (.ifCond .ge 7, 3) := by decide +kernel
theorem dX9_isWritten_108 : decode cX9_isWritten 108 = .ok (.iconst 1, 1) := by decide +kernel
theorem dX9_isWritten_109 : decode cX9_isWritten 109 = .ok (.goto 4, 3) := by decide +kernel
theorem dX9_isWritten_112 : decode cX9_isWritten 112 = .ok (.iconst 0, 1) := by decide +kernel
theorem dX9_isWritten_113 : decode cX9_isWritten 113 = .ok (.if_icmp .ne 7, 3) := by decide +kernel
theorem dX9_isWritten_116 : decode cX9_isWritten 116 = .ok (.iconst 1, 1) := by decide +kernel
theorem dX9_isWritten_117 : decode cX9_isWritten 117 = .ok (.goto 4, 3) := by decide +kernel
theorem dX9_isWritten_120 : decode cX9_isWritten 120 = .ok (.iconst 0, 1) := by decide +kernel
theorem dX9_isWritten_121 : decode cX9_isWritten 121 = .ok (.istore 4, 2) := by decide +kernel
theorem dX9_isWritten_123 : decode cX9_isWritten 123 = .ok (.iinc 5 1, 3) := by decide +kernel
theorem dX9_isWritten_126 : decode cX9_isWritten 126 = .ok (.goto (-56), 3) := by decide +kernel
theorem dX9_isWritten_129 : decode cX9_isWritten 129 = .ok (.iload 4, 2) := by decide +kernel
theorem dX9_isWritten_131 : decode cX9_isWritten 131 = .ok (.ireturn, 1) := by decide +kernel
set_option maxRecDepth 20000 in
theorem ggX9_findKind_X9_isWritten : GoodIn wsX9_findKind wsX9_isWritten := goodIn_r _ [8, 3, 9, 10, 11, 12, 13, 14, 15, 7, 16, 17, 18, 19, 20, 21, 22, 23, 24, 25, 26, 27, 28, 29, 30, 31, 32, 33, 34, 35, 36, 37, 38, 39, 40, 41, 42, 43, 44, 45, 46, 47, 48, 49, 50, 51, 52, 53, 54, 55, 56, 57, 58, 59, 60, 61, 62, 63, 64, 65, 66, 67, 68, 69, 70, 71, 72, 73, 74, 75, 76, 77, 78, 79, 80, 81, 82, 83, 84, 85, 86, 87, 88] (by decide +kernel) (by decide +kernel)
set_option maxRecDepth 20000 in
theorem gX9_findKind_X9_isWritten : GoodIn wsX9_findKind (wsV RX9 181 RX9 yX9_isWritten wsX9_isWritten) := goodIn_app (goodIn_of _ (by decide +kernel)) ggX9_findKind_X9_isWritten
theorem dX9_findKind_0 : decode cX9_findKind 0 = .ok (.aload_n 0, 1) := by decide +kernel
theorem dX9_findKind_1 : decode cX9_findKind 1 = .ok (.bipush (-9), 2) := by decide +kernel
theorem dX9_findKind_3 : decode cX9_findKind 3 = .ok (.putfield 178, 3) := by decide +kernel
theorem dX9_findKind_6 : decode cX9_findKind 6 = .ok (.aload_n 0, 1) := by decide +kernel
theorem dX9_findKind_7 : decode cX9_findKind 7 = .ok (.iconst (-1), 1) := by decide +kernel
theorem dX9_findKind_8 : decode cX9_findKind 8 = .ok (.iconst (-1), 1) := by decide +kernel
theorem dX9_findKind_9 : decode cX9_findKind 9 = .ok (.iconst (-1), 1) := by decide +kernel
theorem dX9_findKind_10 : decode cX9_findKind 10 = .ok (.invokevirtual 181, 3) := by decide +kernel
theorem dX9_findKind_13 : decode cX9_findKind 13 = .ok (.ifCond .eq 5, 3) := by decide +kernel
theorem dX9_findKind_16 : decode cX9_findKind 16 = .ok (.iconst 0, 1) := by decide +kernel
theorem dX9_findKind_17 : decode cX9_findKind 17 = .ok (.ireturn, 1) := by decide +kernel
theorem dX9_findKind_18 : decode cX9_findKind 18 = .ok (.iconst 0, 1) := by decide +kernel
theorem dX9_findKind_19 : decode cX9_findKind 19 = .ok (.istore_n 1, 1) := by decide +kernel
theorem dX9_findKind_20 : decode cX9_findKind 20 = .ok (.iload_n 1, 1) := by decide +kernel
theorem dX9_findKind_21 : decode cX9_findKind 21 = .ok (.bipush 12, 2) := by decide +kernel
theorem dX9_findKind_23 : decode cX9_findKind 23 = .ok (.if_icmp .ge 35, 3) := by decide +kernel
theorem dX9_findKind_26 : decode cX9_findKind 26 = .ok (.aload_n 0, 1) := by decide +kernel
theorem dX9_findKind_27 : decode cX9_findKind 27 = .ok (.getfield 13, 3) := by decide +kernel
theorem dX9_findKind_30 : decode cX9_findKind 30 = .ok (.iload_n 1, 1) := by decide +kernel
theorem dX9_findKind_31 : decode cX9_findKind 31 = .ok (.baload, 1) := by decide +kernel
theorem dX9_findKind_32 : decode cX9_findKind 32 = .ok (.ifCond .eq 20, 3) := by decide +kernel
theorem dX9_findKind_35 : decode cX9_findKind 35 = .ok (.aload_n 0, 1) := by decide +kernel
theorem dX9_findKind_36 : decode cX9_findKind 36 = .ok (.iload_n 1, 1) := by decide +kernel
theorem dX9_findKind_37 : decode cX9_findKind 37 = .ok (.iconst (-1), 1) := by decide +kernel
theorem dX9_findKind_38 : decode cX9_findKind 38 = .ok (.iconst (-1), 1) := by decide +kernel
theorem dX9_findKind_39 : decode cX9_findKind 39 = .ok (.invokevirtual 181, 3) := by decide +kernel
theorem dX9_findKind_42 : decode cX9_findKind 42 = .ok (.ifCond .eq 10, 3) := by decide +kernel
theorem dX9_findKind_45 : decode cX9_findKind 45 = .ok (.aload_n 0, 1) := by decide +kernel
theorem dX9_findKind_46 : decode cX9_findKind 46 = .ok (.iload_n 1, 1) := by decide +kernel
theorem dX9_findKind_47 : decode cX9_findKind 47 = .ok (.putfield 178, 3) := by decide +kernel
theorem dX9_findKind_50 : decode cX9_findKind 50 = .ok (.iconst 1, 1) := by decide +kernel
theorem dX9_findKind_51 : decode cX9_findKind 51 = .ok (.ireturn, 1) := by decide +kernel
theorem dX9_findKind_52 : decode cX9_findKind 52 = .ok (.iinc 1 1, 3) := by decide +kernel
theorem dX9_findKind_55 : decode cX9_findKind 55 = .ok (.goto (-35), 3) := by decide +kernel
theorem dX9_findKind_58 : decode cX9_findKind 58 = .ok (.iconst 0, 1) := by decide +kernel
theorem dX9_findKind_59 : decode cX9_findKind 59 = .ok (.istore_n 1, 1) := by decide +kernel
theorem dX9_findKind_60 : decode cX9_findKind 60 = .ok (.iload_n 1, 1) := by decide +kernel
theorem dX9_findKind_61 : decode cX9_findKind 61 = .ok (.aload_n 0, 1) := by decide +kernel
theorem dX9_findKind_62 : decode cX9_findKind 62 = .ok (.getfield 104, 3) := by decide +kernel
theorem dX9_findKind_65 : decode cX9_findKind 65 = .ok (.if_icmp .ge 26, 3) := by decide +kernel
theorem dX9_findKind_68 : decode cX9_findKind 68 = .ok (.aload_n 0, 1) := by decide +kernel
theorem dX9_findKind_69 : decode cX9_findKind 69 = .ok (.iconst (-1), 1) := by decide +kernel
theorem dX9_findKind_70 : decode cX9_findKind 70 = .ok (.iload_n 1, 1) := by decide +kernel
theorem dX9_findKind_71 : decode cX9_findKind 71 = .ok (.iconst (-1), 1) := by decide +kernel
theorem dX9_findKind_72 : decode cX9_findKind 72 = .ok (.invokevirtual 181, 3) := by decide +kernel
theorem dX9_findKind_75 : decode cX9_findKind 75 = .ok (.ifCond .eq 10, 3) := by decide +kernel
theorem dX9_findKind_78 : decode cX9_findKind 78 = .ok (.aload_n 0, 1) := by decide +kernel
theorem dX9_findKind_79 : decode cX9_findKind 79 = .ok (.iload_n 1, 1) := by decide +kernel
theorem dX9_findKind_80 : decode cX9_findKind 80 = .ok (.putfield 178, 3) := by decide +kernel
theorem dX9_findKind_83 : decode cX9_findKind 83 = .ok (.iconst 2, 1) := by decide +kernel
theorem dX9_findKind_84 : decode cX9_findKind 84 = .ok (.ireturn, 1) := by decide +kernel
theorem dX9_findKind_85 : decode cX9_findKind 85 = .ok (.iinc 1 1, 3) := by decide +kernel
theorem dX9_findKind_88 : decode cX9_findKind 88 = .ok (.goto (-28), 3) := by decide +kernel
theorem dX9_findKind_91 : decode cX9_findKind 91 = .ok (.iconst 0, 1) := by decide +kernel
theorem dX9_findKind_92 : decode cX9_findKind 92 = .ok (.istore_n 1, 1) := by decide +kernel
theorem dX9_findKind_93 : decode cX9_findKind 93 = .ok (.iload_n 1, 1) := by decide +kernel
theorem dX9_findKind_94 : decode cX9_findKind 94 = .ok (.iconst 2, 1) := by decide +kernel
theorem dX9_findKind_95 : decode cX9_findKind 95 = .ok (.if_icmp .ge 26, 3) := by decide +kernel
theorem dX9_findKind_98 : decode cX9_findKind 98 = .ok (.aload_n 0, 1) := by decide +kernel
theorem dX9_findKind_99 : decode cX9_findKind 99 = .ok (.iconst (-1), 1) := by decide +kernel
theorem dX9_findKind_100 : decode cX9_findKind 100 = .ok (.iconst (-1), 1) := by decide +kernel
theorem dX9_findKind_101 : decode cX9_findKind 101 = .ok (.iload_n 1, 1) := by decide +kernel
theorem dX9_findKind_102 : decode cX9_findKind 102 = .ok (.invokevirtual 181, 3) := by decide +kernel
theorem dX9_findKind_105 : decode cX9_findKind 105 = .ok (.ifCond .eq 10, 3) := by decide +kernel
theorem dX9_findKind_108 : decode cX9_findKind 108 = .ok (.aload_n 0, 1) := by decide +kernel
theorem dX9_findKind_109 : decode cX9_findKind 109 = .ok (.iload_n 1, 1) := by decide +kernel
theorem dX9_findKind_110 : decode cX9_findKind 110 = .ok (.putfield 178, 3) := by decide +kernel
theorem dX9_findKind_113 : decode cX9_findKind 113 = .ok (.iconst 3, 1) := by decide +kernel
theorem dX9_findKind_114 : decode cX9_findKind 114 = .ok (.ireturn, 1) := by decide +kernel
theorem dX9_findKind_115 : decode cX9_findKind 115 = .ok (.iinc 1 1, 3) := by decide +kernel
theorem dX9_findKind_118 : decode cX9_findKind 118 = .ok (.goto (-25), 3) := by decide +kernel
theorem dX9_findKind_121 : decode cX9_findKind 121 = .ok (.bipush (-9), 2) := by decide +kernel
theorem dX9_findKind_123 : decode cX9_findKind 123 = .ok (.ireturn, 1) := by decide +kernel
set_option maxRecDepth 20000 in
theorem ggX9_explained_X9_in : GoodIn wsX9_explained wsX9_in := goodIn_r _ [5] (by decide +kernel) (by decide +kernel)
set_option maxRecDepth 20000 in
theorem gX9_explained_X9_in : GoodIn wsX9_explained (va_wsS RX9 75 yX9_in wsX9_in) := goodIn_app (goodIn_of _ (by decide +kernel)) ggX9_explained_X9_in
set_option maxRecDepth 20000 in
theorem ggX9_explained_X9_refuse : GoodIn wsX9_explained wsX9_refuse := goodIn_r _ [9, 10, 77, 78, 79, 80, 81, 82, 83, 84, 85, 86, 87, 88, 89, 90, 91, 92, 93, 94, 95, 96, 97, 98, 99, 100, 101, 102, 103, 104, 105, 106, 107, 108] (by decide +kernel) (by decide +kernel)
set_option maxRecDepth 20000 in
theorem gX9_explained_X9_refuse : GoodIn wsX9_explained (wsV RX9 79 RX9 yX9_refuse wsX9_refuse) := goodIn_app (goodIn_of _ (by decide +kernel)) ggX9_explained_X9_refuse
set_option maxRecDepth 20000 in
theorem ggX9_explained_X9_areCut : GoodIn wsX9_explained wsX9_areCut := goodIn_r _ [14, 15, 16, 17, 18, 19, 4, 20, 21, 22, 23, 24, 77, 78, 79, 80, 81, 82, 83, 84, 85, 86, 87, 88, 89, 90, 91, 92, 93, 94, 95, 96, 97, 98, 99, 100, 101, 102, 103, 104, 105, 106, 107, 108] (by decide +kernel) (by decide +kernel)
set_option maxRecDepth 20000 in
theorem gX9_explained_X9_areCut : GoodIn wsX9_explained (wsV RX9 142 RX9 yX9_areCut wsX9_areCut) := goodIn_app (goodIn_of _ (by decide +kernel)) ggX9_explained_X9_areCut
set_option maxRecDepth 20000 in
theorem ggX9_explained_X9_findKind : GoodIn wsX9_explained wsX9_findKind := goodIn_r _ [28, 1, 21, 15, 29, 30, 31, 4, 32, 33, 34, 35, 36, 37, 38, 39, 40, 41, 42, 43, 44, 45, 46, 47, 48, 49, 50, 51, 52, 53, 54, 55, 24, 16, 56, 57, 58, 59, 60, 61, 62, 63, 64, 65, 22, 66, 67, 68, 69, 23, 70, 71, 72, 73, 74, 75, 76, 77, 78, 79, 80, 81, 82, 83, 84, 85, 86, 87, 88, 89, 90, 91, 92, 93, 94, 95, 96, 97, 98, 99, 100, 101, 102, 103, 104, 105, 106, 107, 108] (by decide +kernel) (by decide +kernel)
set_option maxRecDepth 20000 in
theorem gX9_explained_X9_findKind : GoodIn wsX9_explained (wsV RX9 184 RX9 yX9_findKind wsX9_findKind) := goodIn_app (goodIn_of _ (by decide +kernel)) ggX9_explained_X9_findKind
theorem dX9_explained_0 : decode cX9_explained 0 = .ok (.iload_n 1, 1) := by decide +kernel
theorem dX9_explained_1 : decode cX9_explained 1 = .ok (.iconst 0, 1) := by decide +kernel
theorem dX9_explained_2 : decode cX9_explained 2 = .ok (.iconst 1, 1) := by decide +kernel
theorem dX9_explained_3 : decode cX9_explained 3 = .ok (.invokestatic 75, 3) := by decide +kernel
theorem dX9_explained_6 : decode cX9_explained 6 = .ok (.ifCond .ne 10, 3) := by decide +kernel
theorem dX9_explained_9 : decode cX9_explained 9 = .ok (.aload_n 0, 1) := by decide +kernel
theorem dX9_explained_10 : decode cX9_explained 10 = .ok (.bipush (-2), 2) := by decide +kernel
theorem dX9_explained_12 : decode cX9_explained 12 = .ok (.invokevirtual 79, 3) := by decide +kernel
theorem dX9_explained_15 : decode cX9_explained 15 = .ok (.ireturn, 1) := by decide +kernel
theorem dX9_explained_16 : decode cX9_explained 16 = .ok (.aload_n 0, 1) := by decide +kernel
theorem dX9_explained_17 : decode cX9_explained 17 = .ok (.invokevirtual 142, 3) := by decide +kernel
theorem dX9_explained_20 : decode cX9_explained 20 = .ok (.ifCond .ne 10, 3) := by decide +kernel
theorem dX9_explained_23 : decode cX9_explained 23 = .ok (.aload_n 0, 1) := by decide +kernel
theorem dX9_explained_24 : decode cX9_explained 24 = .ok (.bipush (-3), 2) := by decide +kernel
theorem dX9_explained_26 : decode cX9_explained 26 = .ok (.invokevirtual 79, 3) := by decide +kernel
theorem dX9_explained_29 : decode cX9_explained 29 = .ok (.ireturn, 1) := by decide +kernel
theorem dX9_explained_30 : decode cX9_explained 30 = .ok (.aload_n 0, 1) := by decide +kernel
theorem dX9_explained_31 : decode cX9_explained 31 = .ok (.invokevirtual 184, 3) := by decide +kernel
theorem dX9_explained_34 : decode cX9_explained 34 = .ok (.istore_n 2, 1) := by decide +kernel
theorem dX9_explained_35 : decode cX9_explained 35 = .ok (.iload_n 1, 1) := by decide +kernel
theorem dX9_explained_36 : decode cX9_explained 36 = .ok (.ifCond .ne 7, 3) := by decide +kernel
theorem dX9_explained_39 : decode cX9_explained 39 = .ok (.iload_n 2, 1) := by decide +kernel
theorem dX9_explained_40 : decode cX9_explained 40 = .ok (.goto 7, 3) := by decide +kernel
theorem dX9_explained_43 : decode cX9_explained 43 = .ok (.aload_n 0, 1) := by decide +kernel
theorem dX9_explained_44 : decode cX9_explained 44 = .ok (.getfield 178, 3) := by decide +kernel
theorem dX9_explained_47 : decode cX9_explained 47 = .ok (.ireturn, 1) := by decide +kernel
theorem dX9_timesIn_0 : decode cX9_timesIn 0 = .ok (.iconst 0, 1) := by decide +kernel
theorem dX9_timesIn_1 : decode cX9_timesIn 1 = .ok (.istore_n 3, 1) := by decide +kernel
theorem dX9_timesIn_2 : decode cX9_timesIn 2 = .ok (.iconst 0, 1) := by decide +kernel
theorem dX9_timesIn_3 : decode cX9_timesIn 3 = .ok (.istore 4, 2) := by decide +kernel
theorem dX9_timesIn_5 : decode cX9_timesIn 5 = .ok (.iload 4, 2) := by decide +kernel
theorem dX9_timesIn_7 : decode cX9_timesIn 7 = .ok (.aload_n 0, 1) := by decide +kernel
theorem dX9_timesIn_8 : decode cX9_timesIn 8 = .ok (.getfield 7, 3) := by decide +kernel
theorem dX9_timesIn_11 : decode cX9_timesIn 11 = .ok (.if_icmp .ge 33, 3) := by decide +kernel
theorem dX9_timesIn_14 : decode cX9_timesIn 14 = .ok (.iload_n 3, 1) := by decide +kernel
theorem dX9_timesIn_15 : decode cX9_timesIn 15 = .ok (.aload_n 0, 1) := by decide +kernel
theorem dX9_timesIn_16 : decode cX9_timesIn 16 = .ok (.getfield 17, 3) := by decide +kernel
theorem dX9_timesIn_19 : decode cX9_timesIn 19 = .ok (.bipush 16, 2) := by decide +kernel
theorem dX9_timesIn_21 : decode cX9_timesIn 21 = .ok (.iload_n 1, 1) := by decide +kernel
theorem dX9_timesIn_22 : decode cX9_timesIn 22 = .ok (.imul, 1) := by decide +kernel
theorem dX9_timesIn_23 : decode cX9_timesIn 23 = .ok (.iload 4, 2) := by decide +kernel
theorem dX9_timesIn_25 : decode cX9_timesIn 25 = .ok (.iadd, 1) := by decide +kernel
theorem dX9_timesIn_26 : decode cX9_timesIn 26 = .ok (.iaload, 1) := by decide +kernel
theorem dX9_timesIn_27 : decode cX9_timesIn 27 = .ok (.iload_n 2, 1) := by decide +kernel
theorem dX9_timesIn_28 : decode cX9_timesIn 28 = .ok (.if_icmp .ne 7, 3) := by decide +kernel
theorem dX9_timesIn_31 : decode cX9_timesIn 31 = .ok (.iconst 1, 1) := by decide +kernel
theorem dX9_timesIn_32 : decode cX9_timesIn 32 = .ok (.goto 4, 3) := by decide +kernel
theorem dX9_timesIn_35 : decode cX9_timesIn 35 = .ok (.iconst 0, 1) := by decide +kernel
theorem dX9_timesIn_36 : decode cX9_timesIn 36 = .ok (.iadd, 1) := by decide +kernel
theorem dX9_timesIn_37 : decode cX9_timesIn 37 = .ok (.istore_n 3, 1) := by decide +kernel
theorem dX9_timesIn_38 : decode cX9_timesIn 38 = .ok (.iinc 4 1, 3) := by decide +kernel
theorem dX9_timesIn_41 : decode cX9_timesIn 41 = .ok (.goto (-36), 3) := by decide +kernel
theorem dX9_timesIn_44 : decode cX9_timesIn 44 = .ok (.iload_n 3, 1) := by decide +kernel
theorem dX9_timesIn_45 : decode cX9_timesIn 45 = .ok (.ireturn, 1) := by decide +kernel
set_option maxRecDepth 20000 in
theorem ggX9_made_X9_isCam : GoodIn wsX9_made wsX9_isCam := goodIn_r _ [8, 9, 10, 7, 11] (by decide +kernel) (by decide +kernel)
set_option maxRecDepth 20000 in
theorem gX9_made_X9_isCam : GoodIn wsX9_made (va_wsS RX9 83 yX9_isCam wsX9_isCam) := goodIn_app (goodIn_of _ (by decide +kernel)) ggX9_made_X9_isCam
set_option maxRecDepth 20000 in
theorem ggX9_made_X9_in : GoodIn wsX9_made wsX9_in := goodIn_r _ [11] (by decide +kernel) (by decide +kernel)
set_option maxRecDepth 20000 in
theorem gX9_made_X9_in : GoodIn wsX9_made (va_wsS RX9 75 yX9_in wsX9_in) := goodIn_app (goodIn_of _ (by decide +kernel)) ggX9_made_X9_in
set_option maxRecDepth 20000 in
theorem ggX9_made_X9_refuse : GoodIn wsX9_made wsX9_refuse := goodIn_r _ [15, 16, 22, 23, 24, 25, 26, 27, 28, 29, 30, 31, 32, 33, 34, 35, 36, 37, 38, 39, 40, 41, 42, 43, 44, 45, 46, 47, 48, 49, 50, 51, 52, 53] (by decide +kernel) (by decide +kernel)
set_option maxRecDepth 20000 in
theorem gX9_made_X9_refuse : GoodIn wsX9_made (wsV RX9 79 RX9 yX9_refuse wsX9_refuse) := goodIn_app (goodIn_of _ (by decide +kernel)) ggX9_made_X9_refuse
set_option maxRecDepth 20000 in
theorem ggX9_made_X9_timesIn : GoodIn wsX9_made wsX9_timesIn := goodIn_r _ [20, 3, 21, 22, 23, 24, 25, 26, 27, 28, 29, 30, 31, 32, 33, 34, 35, 36, 37, 38, 39, 40, 41, 42, 43, 44, 45, 46, 47, 48, 49, 50, 51, 52, 53] (by decide +kernel) (by decide +kernel)
set_option maxRecDepth 20000 in
theorem gX9_made_X9_timesIn : GoodIn wsX9_made (wsV RX9 187 RX9 yX9_timesIn wsX9_timesIn) := goodIn_app (goodIn_of _ (by decide +kernel)) ggX9_made_X9_timesIn
theorem dX9_made_0 : decode cX9_made 0 = .ok (.iload_n 1, 1) := by decide +kernel
theorem dX9_made_1 : decode cX9_made 1 = .ok (.invokestatic 83, 3) := by decide +kernel
theorem dX9_made_4 : decode cX9_made 4 = .ok (.ifCond .eq 12, 3) := by decide +kernel
theorem dX9_made_7 : decode cX9_made 7 = .ok (.iload_n 2, 1) := by decide +kernel
theorem dX9_made_8 : decode cX9_made 8 = .ok (.iconst 0, 1) := by decide +kernel
theorem dX9_made_9 : decode cX9_made 9 = .ok (.iconst 3, 1) := by decide +kernel
theorem dX9_made_10 : decode cX9_made 10 = .ok (.invokestatic 75, 3) := by decide +kernel
theorem dX9_made_13 : decode cX9_made 13 = .ok (.ifCond .ne 9, 3) := by decide +kernel
theorem dX9_made_16 : decode cX9_made 16 = .ok (.aload_n 0, 1) := by decide +kernel
theorem dX9_made_17 : decode cX9_made 17 = .ok (.iconst (-1), 1) := by decide +kernel
theorem dX9_made_18 : decode cX9_made 18 = .ok (.invokevirtual 79, 3) := by decide +kernel
theorem dX9_made_21 : decode cX9_made 21 = .ok (.ireturn, 1) := by decide +kernel
theorem dX9_made_22 : decode cX9_made 22 = .ok (.aload_n 0, 1) := by decide +kernel
theorem dX9_made_23 : decode cX9_made 23 = .ok (.getfield 13, 3) := by decide +kernel
theorem dX9_made_26 : decode cX9_made 26 = .ok (.iload_n 1, 1) := by decide +kernel
theorem dX9_made_27 : decode cX9_made 27 = .ok (.baload, 1) := by decide +kernel
theorem dX9_made_28 : decode cX9_made 28 = .ok (.ifCond .ne 10, 3) := by decide +kernel
theorem dX9_made_31 : decode cX9_made 31 = .ok (.aload_n 0, 1) := by decide +kernel
theorem dX9_made_32 : decode cX9_made 32 = .ok (.bipush (-5), 2) := by decide +kernel
theorem dX9_made_34 : decode cX9_made 34 = .ok (.invokevirtual 79, 3) := by decide +kernel
theorem dX9_made_37 : decode cX9_made 37 = .ok (.ireturn, 1) := by decide +kernel
theorem dX9_made_38 : decode cX9_made 38 = .ok (.aload_n 0, 1) := by decide +kernel
theorem dX9_made_39 : decode cX9_made 39 = .ok (.getfield 51, 3) := by decide +kernel
theorem dX9_made_42 : decode cX9_made 42 = .ok (.iload_n 2, 1) := by decide +kernel
theorem dX9_made_43 : decode cX9_made 43 = .ok (.iaload, 1) := by decide +kernel
theorem dX9_made_44 : decode cX9_made 44 = .ok (.aload_n 0, 1) := by decide +kernel
theorem dX9_made_45 : decode cX9_made 45 = .ok (.getfield 7, 3) := by decide +kernel
theorem dX9_made_48 : decode cX9_made 48 = .ok (.iadd, 1) := by decide +kernel
theorem dX9_made_49 : decode cX9_made 49 = .ok (.sipush 1000, 3) := by decide +kernel
theorem dX9_made_52 : decode cX9_made 52 = .ok (.if_icmp .le 10, 3) := by decide +kernel
theorem dX9_made_55 : decode cX9_made 55 = .ok (.aload_n 0, 1) := by decide +kernel
theorem dX9_made_56 : decode cX9_made 56 = .ok (.bipush (-6), 2) := by decide +kernel
theorem dX9_made_58 : decode cX9_made 58 = .ok (.invokevirtual 79, 3) := by decide +kernel
theorem dX9_made_61 : decode cX9_made 61 = .ok (.ireturn, 1) := by decide +kernel
theorem dX9_made_62 : decode cX9_made 62 = .ok (.iconst 0, 1) := by decide +kernel
theorem dX9_made_63 : decode cX9_made 63 = .ok (.istore_n 3, 1) := by decide +kernel
theorem dX9_made_64 : decode cX9_made 64 = .ok (.iload_n 3, 1) := by decide +kernel
theorem dX9_made_65 : decode cX9_made 65 = .ok (.bipush 10, 2) := by decide +kernel
theorem dX9_made_67 : decode cX9_made 67 = .ok (.if_icmp .ge 29, 3) := by decide +kernel
theorem dX9_made_70 : decode cX9_made 70 = .ok (.aload_n 0, 1) := by decide +kernel
theorem dX9_made_71 : decode cX9_made 71 = .ok (.getfield 48, 3) := by decide +kernel
theorem dX9_made_74 : decode cX9_made 74 = .ok (.bipush 10, 2) := by decide +kernel
theorem dX9_made_76 : decode cX9_made 76 = .ok (.iload_n 2, 1) := by decide +kernel
theorem dX9_made_77 : decode cX9_made 77 = .ok (.imul, 1) := by decide +kernel
theorem dX9_made_78 : decode cX9_made 78 = .ok (.iload_n 3, 1) := by decide +kernel
theorem dX9_made_79 : decode cX9_made 79 = .ok (.iadd, 1) := by decide +kernel
theorem dX9_made_80 : decode cX9_made 80 = .ok (.dup2, 1) := by decide +kernel
theorem dX9_made_81 : decode cX9_made 81 = .ok (.iaload, 1) := by decide +kernel
theorem dX9_made_82 : decode cX9_made 82 = .ok (.aload_n 0, 1) := by decide +kernel
theorem dX9_made_83 : decode cX9_made 83 = .ok (.iload_n 1, 1) := by decide +kernel
theorem dX9_made_84 : decode cX9_made 84 = .ok (.iload_n 3, 1) := by decide +kernel
theorem dX9_made_85 : decode cX9_made 85 = .ok (.invokevirtual 187, 3) := by decide +kernel
theorem dX9_made_88 : decode cX9_made 88 = .ok (.iadd, 1) := by decide +kernel
theorem dX9_made_89 : decode cX9_made 89 = .ok (.iastore, 1) := by decide +kernel
theorem dX9_made_90 : decode cX9_made 90 = .ok (.iinc 3 1, 3) := by decide +kernel
theorem dX9_made_93 : decode cX9_made 93 = .ok (.goto (-29), 3) := by decide +kernel
theorem dX9_made_96 : decode cX9_made 96 = .ok (.aload_n 0, 1) := by decide +kernel
theorem dX9_made_97 : decode cX9_made 97 = .ok (.getfield 51, 3) := by decide +kernel
theorem dX9_made_100 : decode cX9_made 100 = .ok (.iload_n 2, 1) := by decide +kernel
theorem dX9_made_101 : decode cX9_made 101 = .ok (.dup2, 1) := by decide +kernel
theorem dX9_made_102 : decode cX9_made 102 = .ok (.iaload, 1) := by decide +kernel
theorem dX9_made_103 : decode cX9_made 103 = .ok (.aload_n 0, 1) := by decide +kernel
theorem dX9_made_104 : decode cX9_made 104 = .ok (.getfield 7, 3) := by decide +kernel
theorem dX9_made_107 : decode cX9_made 107 = .ok (.iadd, 1) := by decide +kernel
theorem dX9_made_108 : decode cX9_made 108 = .ok (.iastore, 1) := by decide +kernel
theorem dX9_made_109 : decode cX9_made 109 = .ok (.aload_n 0, 1) := by decide +kernel
theorem dX9_made_110 : decode cX9_made 110 = .ok (.getfield 51, 3) := by decide +kernel
theorem dX9_made_113 : decode cX9_made 113 = .ok (.iload_n 2, 1) := by decide +kernel
theorem dX9_made_114 : decode cX9_made 114 = .ok (.iaload, 1) := by decide +kernel
theorem dX9_made_115 : decode cX9_made 115 = .ok (.ireturn, 1) := by decide +kernel
set_option maxRecDepth 20000 in
theorem ggX9_likeness_X9_timesIn : GoodIn wsX9_likeness wsX9_timesIn := goodIn_r _ [8, 3, 9, 10, 11, 12, 13, 14, 15, 16, 17, 18, 19, 20, 21, 22, 23, 24, 25, 26, 27, 28, 29, 30, 31, 32, 33, 34, 35, 36, 37, 38, 39, 40, 41] (by decide +kernel) (by decide +kernel)
set_option maxRecDepth 20000 in
theorem gX9_likeness_X9_timesIn : GoodIn wsX9_likeness (wsV RX9 187 RX9 yX9_timesIn wsX9_timesIn) := goodIn_app (goodIn_of _ (by decide +kernel)) ggX9_likeness_X9_timesIn
theorem dX9_likeness_0 : decode cX9_likeness 0 = .ok (.iconst 0, 1) := by decide +kernel
theorem dX9_likeness_1 : decode cX9_likeness 1 = .ok (.istore_n 3, 1) := by decide +kernel
theorem dX9_likeness_2 : decode cX9_likeness 2 = .ok (.iconst 0, 1) := by decide +kernel
theorem dX9_likeness_3 : decode cX9_likeness 3 = .ok (.istore 4, 2) := by decide +kernel
theorem dX9_likeness_5 : decode cX9_likeness 5 = .ok (.iload 4, 2) := by decide +kernel
theorem dX9_likeness_7 : decode cX9_likeness 7 = .ok (.bipush 10, 2) := by decide +kernel
theorem dX9_likeness_9 : decode cX9_likeness 9 = .ok (.if_icmp .ge 59, 3) := by decide +kernel
theorem dX9_likeness_12 : decode cX9_likeness 12 = .ok (.aload_n 0, 1) := by decide +kernel
theorem dX9_likeness_13 : decode cX9_likeness 13 = .ok (.iload_n 1, 1) := by decide +kernel
theorem dX9_likeness_14 : decode cX9_likeness 14 = .ok (.iload 4, 2) := by decide +kernel
theorem dX9_likeness_16 : decode cX9_likeness 16 = .ok (.invokevirtual 187, 3) := by decide +kernel
theorem dX9_likeness_19 : decode cX9_likeness 19 = .ok (.aload_n 0, 1) := by decide +kernel
theorem dX9_likeness_20 : decode cX9_likeness 20 = .ok (.getfield 51, 3) := by decide +kernel
theorem dX9_likeness_23 : decode cX9_likeness 23 = .ok (.iload_n 2, 1) := by decide +kernel
theorem dX9_likeness_24 : decode cX9_likeness 24 = .ok (.iaload, 1) := by decide +kernel
theorem dX9_likeness_25 : decode cX9_likeness 25 = .ok (.imul, 1) := by decide +kernel
theorem dX9_likeness_26 : decode cX9_likeness 26 = .ok (.aload_n 0, 1) := by decide +kernel
theorem dX9_likeness_27 : decode cX9_likeness 27 = .ok (.getfield 48, 3) := by decide +kernel
theorem dX9_likeness_30 : decode cX9_likeness 30 = .ok (.bipush 10, 2) := by decide +kernel
theorem dX9_likeness_32 : decode cX9_likeness 32 = .ok (.iload_n 2, 1) := by decide +kernel
theorem dX9_likeness_33 : decode cX9_likeness 33 = .ok (.imul, 1) := by decide +kernel
theorem dX9_likeness_34 : decode cX9_likeness 34 = .ok (.iload 4, 2) := by decide +kernel
theorem dX9_likeness_36 : decode cX9_likeness 36 = .ok (.iadd, 1) := by decide +kernel
theorem dX9_likeness_37 : decode cX9_likeness 37 = .ok (.iaload, 1) := by decide +kernel
theorem dX9_likeness_38 : decode cX9_likeness 38 = .ok (.aload_n 0, 1) := by decide +kernel
theorem dX9_likeness_39 : decode cX9_likeness 39 = .ok (.getfield 7, 3) := by decide +kernel
theorem dX9_likeness_42 : decode cX9_likeness 42 = .ok (.imul, 1) := by decide +kernel
theorem dX9_likeness_43 : decode cX9_likeness 43 = .ok (.isub, 1) := by decide +kernel
theorem dX9_likeness_44 : decode cX9_likeness 44 = .ok (.istore 5, 2) := by decide +kernel
theorem dX9_likeness_46 : decode cX9_likeness 46 = .ok (.iload_n 3, 1) := by decide +kernel
theorem dX9_likeness_47 : decode cX9_likeness 47 = .ok (.iload 5, 2) := by decide +kernel
theorem dX9_likeness_49 : decode cX9_likeness 49 = .ok (.ifCond .ge 9, 3) := by decide +kernel
theorem dX9_likeness_52 : decode cX9_likeness 52 = .ok (.iload 5, 2) := by decide +kernel
theorem dX9_likeness_54 : decode cX9_likeness 54 = .ok (.ineg, 1) := by decide +kernel
theorem dX9_likeness_55 : decode cX9_likeness 55 = .ok (.goto 5, 3) := by decide +kernel
theorem dX9_likeness_58 : decode cX9_likeness 58 = .ok (.iload 5, 2) := by decide +kernel
theorem dX9_likeness_60 : decode cX9_likeness 60 = .ok (.iadd, 1) := by decide +kernel
theorem dX9_likeness_61 : decode cX9_likeness 61 = .ok (.istore_n 3, 1) := by decide +kernel
theorem dX9_likeness_62 : decode cX9_likeness 62 = .ok (.iinc 4 1, 3) := by decide +kernel
theorem dX9_likeness_65 : decode cX9_likeness 65 = .ok (.goto (-60), 3) := by decide +kernel
theorem dX9_likeness_68 : decode cX9_likeness 68 = .ok (.iload_n 3, 1) := by decide +kernel
theorem dX9_likeness_69 : decode cX9_likeness 69 = .ok (.ireturn, 1) := by decide +kernel
set_option maxRecDepth 20000 in
theorem ggX9_like_X9_isCam : GoodIn wsX9_like wsX9_isCam := goodIn_r _ [6, 7, 8, 5, 9] (by decide +kernel) (by decide +kernel)
set_option maxRecDepth 20000 in
theorem gX9_like_X9_isCam : GoodIn wsX9_like (va_wsS RX9 83 yX9_isCam wsX9_isCam) := goodIn_app (goodIn_of _ (by decide +kernel)) ggX9_like_X9_isCam
set_option maxRecDepth 20000 in
theorem ggX9_like_X9_in : GoodIn wsX9_like wsX9_in := goodIn_r _ [9] (by decide +kernel) (by decide +kernel)
set_option maxRecDepth 20000 in
theorem gX9_like_X9_in : GoodIn wsX9_like (va_wsS RX9 75 yX9_in wsX9_in) := goodIn_app (goodIn_of _ (by decide +kernel)) ggX9_like_X9_in
set_option maxRecDepth 20000 in
theorem ggX9_like_X9_refuse : GoodIn wsX9_like wsX9_refuse := goodIn_r _ [13, 14, 26, 27, 28, 29, 30, 31, 32, 33, 34, 35, 36, 37, 38, 39, 40, 41, 42, 43, 44, 45, 46, 47, 48, 49, 50, 51, 52, 53, 54, 55, 56, 57] (by decide +kernel) (by decide +kernel)
set_option maxRecDepth 20000 in
theorem gX9_like_X9_refuse : GoodIn wsX9_like (wsV RX9 79 RX9 yX9_refuse wsX9_refuse) := goodIn_app (goodIn_of _ (by decide +kernel)) ggX9_like_X9_refuse
set_option maxRecDepth 20000 in
theorem ggX9_like_X9_likeness : GoodIn wsX9_like wsX9_likeness := goodIn_r _ [18, 2, 19, 20, 21, 22, 23, 5, 24, 25, 26, 27, 28, 29, 30, 31, 32, 33, 34, 35, 36, 37, 38, 39, 40, 41, 42, 43, 44, 45, 46, 47, 48, 49, 50, 51, 52, 53, 54, 55, 56, 57] (by decide +kernel) (by decide +kernel)
set_option maxRecDepth 20000 in
theorem gX9_like_X9_likeness : GoodIn wsX9_like (wsV RX9 190 RX9 yX9_likeness wsX9_likeness) := goodIn_app (goodIn_of _ (by decide +kernel)) ggX9_like_X9_likeness
theorem dX9_like_0 : decode cX9_like 0 = .ok (.iload_n 1, 1) := by decide +kernel
theorem dX9_like_1 : decode cX9_like 1 = .ok (.invokestatic 83, 3) := by decide +kernel
theorem dX9_like_4 : decode cX9_like 4 = .ok (.ifCond .eq 12, 3) := by decide +kernel
theorem dX9_like_7 : decode cX9_like 7 = .ok (.iload_n 2, 1) := by decide +kernel
theorem dX9_like_8 : decode cX9_like 8 = .ok (.iconst 0, 1) := by decide +kernel
theorem dX9_like_9 : decode cX9_like 9 = .ok (.iconst 3, 1) := by decide +kernel
theorem dX9_like_10 : decode cX9_like 10 = .ok (.invokestatic 75, 3) := by decide +kernel
theorem dX9_like_13 : decode cX9_like 13 = .ok (.ifCond .ne 9, 3) := by decide +kernel
theorem dX9_like_16 : decode cX9_like 16 = .ok (.aload_n 0, 1) := by decide +kernel
theorem dX9_like_17 : decode cX9_like 17 = .ok (.iconst (-1), 1) := by decide +kernel
theorem dX9_like_18 : decode cX9_like 18 = .ok (.invokevirtual 79, 3) := by decide +kernel
theorem dX9_like_21 : decode cX9_like 21 = .ok (.ireturn, 1) := by decide +kernel
theorem dX9_like_22 : decode cX9_like 22 = .ok (.aload_n 0, 1) := by decide +kernel
theorem dX9_like_23 : decode cX9_like 23 = .ok (.getfield 13, 3) := by decide +kernel
theorem dX9_like_26 : decode cX9_like 26 = .ok (.iload_n 1, 1) := by decide +kernel
theorem dX9_like_27 : decode cX9_like 27 = .ok (.baload, 1) := by decide +kernel
theorem dX9_like_28 : decode cX9_like 28 = .ok (.ifCond .ne 10, 3) := by decide +kernel
theorem dX9_like_31 : decode cX9_like 31 = .ok (.aload_n 0, 1) := by decide +kernel
theorem dX9_like_32 : decode cX9_like 32 = .ok (.bipush (-5), 2) := by decide +kernel
theorem dX9_like_34 : decode cX9_like 34 = .ok (.invokevirtual 79, 3) := by decide +kernel
theorem dX9_like_37 : decode cX9_like 37 = .ok (.ireturn, 1) := by decide +kernel
theorem dX9_like_38 : decode cX9_like 38 = .ok (.aload_n 0, 1) := by decide +kernel
theorem dX9_like_39 : decode cX9_like 39 = .ok (.getfield 51, 3) := by decide +kernel
theorem dX9_like_42 : decode cX9_like 42 = .ok (.iload_n 2, 1) := by decide +kernel
theorem dX9_like_43 : decode cX9_like 43 = .ok (.iaload, 1) := by decide +kernel
theorem dX9_like_44 : decode cX9_like 44 = .ok (.ifCond .ne 12, 3) := by decide +kernel
theorem dX9_like_47 : decode cX9_like 47 = .ok (.aload_n 0, 1) := by decide +kernel
theorem dX9_like_48 : decode cX9_like 48 = .ok (.bipush (-3), 2) := by decide +kernel
theorem dX9_like_50 : decode cX9_like 50 = .ok (.invokevirtual 79, 3) := by decide +kernel
theorem dX9_like_53 : decode cX9_like 53 = .ok (.goto 9, 3) := by decide +kernel
theorem dX9_like_56 : decode cX9_like 56 = .ok (.aload_n 0, 1) := by decide +kernel
theorem dX9_like_57 : decode cX9_like 57 = .ok (.iload_n 1, 1) := by decide +kernel
theorem dX9_like_58 : decode cX9_like 58 = .ok (.iload_n 2, 1) := by decide +kernel
theorem dX9_like_59 : decode cX9_like 59 = .ok (.invokevirtual 190, 3) := by decide +kernel
theorem dX9_like_62 : decode cX9_like 62 = .ok (.ireturn, 1) := by decide +kernel
set_option maxRecDepth 20000 in
theorem ggX9_whose_X9_lacks : GoodIn wsX9_whose wsX9_lacks := goodIn_r _ [6, 7, 8, 9, 5, 10, 11, 12, 13, 30, 31, 32, 33, 34, 35, 36, 37, 38, 39, 40, 41, 42, 43, 44, 45, 46, 47, 48, 49, 50, 51, 52, 53, 54, 55, 56, 57, 58, 59, 60, 61] (by decide +kernel) (by decide +kernel)
set_option maxRecDepth 20000 in
theorem gX9_whose_X9_lacks : GoodIn wsX9_whose (wsV RX9 87 RX9 yX9_lacks wsX9_lacks) := goodIn_app (goodIn_of _ (by decide +kernel)) ggX9_whose_X9_lacks
set_option maxRecDepth 20000 in
theorem ggX9_whose_X9_refuse : GoodIn wsX9_whose wsX9_refuse := goodIn_r _ [17, 18, 30, 31, 32, 33, 34, 35, 36, 37, 38, 39, 40, 41, 42, 43, 44, 45, 46, 47, 48, 49, 50, 51, 52, 53, 54, 55, 56, 57, 58, 59, 60, 61] (by decide +kernel) (by decide +kernel)
set_option maxRecDepth 20000 in
theorem gX9_whose_X9_refuse : GoodIn wsX9_whose (wsV RX9 79 RX9 yX9_refuse wsX9_refuse) := goodIn_app (goodIn_of _ (by decide +kernel)) ggX9_whose_X9_refuse
set_option maxRecDepth 20000 in
theorem ggX9_whose_X9_likeness : GoodIn wsX9_whose wsX9_likeness := goodIn_r _ [22, 1, 23, 24, 25, 26, 27, 5, 28, 29, 30, 31, 32, 33, 34, 35, 36, 37, 38, 39, 40, 41, 42, 43, 44, 45, 46, 47, 48, 49, 50, 51, 52, 53, 54, 55, 56, 57, 58, 59, 60, 61] (by decide +kernel) (by decide +kernel)
set_option maxRecDepth 20000 in
theorem gX9_whose_X9_likeness : GoodIn wsX9_whose (wsV RX9 190 RX9 yX9_likeness wsX9_likeness) := goodIn_app (goodIn_of _ (by decide +kernel)) ggX9_whose_X9_likeness
theorem dX9_whose_0 : decode cX9_whose 0 = .ok (.aload_n 0, 1) := by decide +kernel
theorem dX9_whose_1 : decode cX9_whose 1 = .ok (.iload_n 1, 1) := by decide +kernel
theorem dX9_whose_2 : decode cX9_whose 2 = .ok (.invokevirtual 87, 3) := by decide +kernel
theorem dX9_whose_5 : decode cX9_whose 5 = .ok (.istore_n 2, 1) := by decide +kernel
theorem dX9_whose_6 : decode cX9_whose 6 = .ok (.iload_n 2, 1) := by decide +kernel
theorem dX9_whose_7 : decode cX9_whose 7 = .ok (.ifCond .ge 9, 3) := by decide +kernel
theorem dX9_whose_10 : decode cX9_whose 10 = .ok (.aload_n 0, 1) := by decide +kernel
theorem dX9_whose_11 : decode cX9_whose 11 = .ok (.iload_n 2, 1) := by decide +kernel
theorem dX9_whose_12 : decode cX9_whose 12 = .ok (.invokevirtual 79, 3) := by decide +kernel
theorem dX9_whose_15 : decode cX9_whose 15 = .ok (.ireturn, 1) := by decide +kernel
theorem dX9_whose_16 : decode cX9_whose 16 = .ok (.bipush (-9), 2) := by decide +kernel
theorem dX9_whose_18 : decode cX9_whose 18 = .ok (.istore_n 3, 1) := by decide +kernel
theorem dX9_whose_19 : decode cX9_whose 19 = .ok (.iconst 0, 1) := by decide +kernel
theorem dX9_whose_20 : decode cX9_whose 20 = .ok (.istore 4, 2) := by decide +kernel
theorem dX9_whose_22 : decode cX9_whose 22 = .ok (.iload 4, 2) := by decide +kernel
theorem dX9_whose_24 : decode cX9_whose 24 = .ok (.iconst 4, 1) := by decide +kernel
theorem dX9_whose_25 : decode cX9_whose 25 = .ok (.if_icmp .ge 62, 3) := by decide +kernel
theorem dX9_whose_28 : decode cX9_whose 28 = .ok (.aload_n 0, 1) := by decide +kernel
theorem dX9_whose_29 : decode cX9_whose 29 = .ok (.getfield 51, 3) := by decide +kernel
theorem dX9_whose_32 : decode cX9_whose 32 = .ok (.iload 4, 2) := by decide +kernel
theorem dX9_whose_34 : decode cX9_whose 34 = .ok (.iaload, 1) := by decide +kernel
theorem dX9_whose_35 : decode cX9_whose 35 = .ok (.ifCond .le 46, 3) := by decide +kernel
theorem dX9_whose_38 : decode cX9_whose 38 = .ok (.iload_n 3, 1) := by decide +kernel
theorem dX9_whose_39 : decode cX9_whose 39 = .ok (.ifCond .lt 39, 3) := by decide +kernel
theorem dX9_whose_42 : decode cX9_whose 42 = .ok (.aload_n 0, 1) := by decide +kernel
theorem dX9_whose_43 : decode cX9_whose 43 = .ok (.iload_n 1, 1) := by decide +kernel
theorem dX9_whose_44 : decode cX9_whose 44 = .ok (.iload 4, 2) := by decide +kernel
theorem dX9_whose_46 : decode cX9_whose 46 = .ok (.invokevirtual 190, 3) := by decide +kernel
theorem dX9_whose_49 : decode cX9_whose 49 = .ok (.i2l, 1) := by decide +kernel
theorem dX9_whose_50 : decode cX9_whose 50 = .ok (.aload_n 0, 1) := by decide +kernel
theorem dX9_whose_51 : decode cX9_whose 51 = .ok (.getfield 51, 3) := by decide +kernel
theorem dX9_whose_54 : decode cX9_whose 54 = .ok (.iload_n 3, 1) := by decide +kernel
theorem dX9_whose_55 : decode cX9_whose 55 = .ok (.iaload, 1) := by decide +kernel
theorem dX9_whose_56 : decode cX9_whose 56 = .ok (.i2l, 1) := by decide +kernel
theorem dX9_whose_57 : decode cX9_whose 57 = .ok (.lmul, 1) := by decide +kernel
theorem dX9_whose_58 : decode cX9_whose 58 = .ok (.aload_n 0, 1) := by decide +kernel
theorem dX9_whose_59 : decode cX9_whose 59 = .ok (.iload_n 1, 1) := by decide +kernel
theorem dX9_whose_60 : decode cX9_whose 60 = .ok (.iload_n 3, 1) := by decide +kernel
theorem dX9_whose_61 : decode cX9_whose 61 = .ok (.invokevirtual 190, 3) := by decide +kernel
theorem dX9_whose_64 : decode cX9_whose 64 = .ok (.i2l, 1) := by decide +kernel
theorem dX9_whose_65 : decode cX9_whose 65 = .ok (.aload_n 0, 1) := by decide +kernel
theorem dX9_whose_66 : decode cX9_whose 66 = .ok (.getfield 51, 3) := by decide +kernel
theorem dX9_whose_69 : decode cX9_whose 69 = .ok (.iload 4, 2) := by decide +kernel
theorem dX9_whose_71 : decode cX9_whose 71 = .ok (.iaload, 1) := by decide +kernel
theorem dX9_whose_72 : decode cX9_whose 72 = .ok (.i2l, 1) := by decide +kernel
theorem dX9_whose_73 : decode cX9_whose 73 = .ok (.lmul, 1) := by decide +kernel
theorem dX9_whose_74 : decode cX9_whose 74 = .ok (.lcmp, 1) := by decide +kernel
theorem dX9_whose_75 : decode cX9_whose 75 = .ok (.ifCond .ge 6, 3) := by decide +kernel
theorem dX9_whose_78 : decode cX9_whose 78 = .ok (.iload 4, 2) := by decide +kernel
theorem dX9_whose_80 : decode cX9_whose 80 = .ok (.istore_n 3, 1) := by decide +kernel
theorem dX9_whose_81 : decode cX9_whose 81 = .ok (.iinc 4 1, 3) := by decide +kernel
theorem dX9_whose_84 : decode cX9_whose 84 = .ok (.goto (-62), 3) := by decide +kernel
theorem dX9_whose_87 : decode cX9_whose 87 = .ok (.iload_n 3, 1) := by decide +kernel
theorem dX9_whose_88 : decode cX9_whose 88 = .ok (.ireturn, 1) := by decide +kernel
set_option maxRecDepth 20000 in
theorem ggX9_count_X9_faultMany : GoodIn wsX9_count wsX9_faultMany := goodIn_r _ [16, 17, 21, 22, 23, 24, 25, 26, 27, 28, 29, 30, 31, 32, 33, 34, 35, 36, 37, 38, 39, 40, 41, 42, 43, 44, 45, 46, 47, 48, 49, 50, 51, 52] (by decide +kernel) (by decide +kernel)
set_option maxRecDepth 20000 in
theorem gX9_count_X9_faultMany : GoodIn wsX9_count (wsV RX9 175 RX9 yX9_faultMany wsX9_faultMany) := goodIn_app (goodIn_of _ (by decide +kernel)) ggX9_count_X9_faultMany
set_option maxRecDepth 20000 in
theorem ggX9_count_X9_in : GoodIn wsX9_count wsX9_in := goodIn_r _ [20] (by decide +kernel) (by decide +kernel)
set_option maxRecDepth 20000 in
theorem gX9_count_X9_in : GoodIn wsX9_count (va_wsS RX9 75 yX9_in wsX9_in) := goodIn_app (goodIn_of _ (by decide +kernel)) ggX9_count_X9_in
theorem dX9_count_0 : decode cX9_count 0 = .ok (.iconst 0, 1) := by decide +kernel
theorem dX9_count_1 : decode cX9_count 1 = .ok (.istore_n 2, 1) := by decide +kernel
theorem dX9_count_2 : decode cX9_count 2 = .ok (.iload_n 1, 1) := by decide +kernel
theorem dX9_count_3 : decode cX9_count 3 = .ok (.tableswitch 140 0 10 #[57, 62, 95, 100, 105, 110, 115, 120, 125, 130, 135], 57) := by decide +kernel
theorem dX9_count_60 : decode cX9_count 60 = .ok (.aload_n 0, 1) := by decide +kernel
theorem dX9_count_61 : decode cX9_count 61 = .ok (.getfield 7, 3) := by decide +kernel
theorem dX9_count_64 : decode cX9_count 64 = .ok (.ireturn, 1) := by decide +kernel
theorem dX9_count_65 : decode cX9_count 65 = .ok (.iconst 0, 1) := by decide +kernel
theorem dX9_count_66 : decode cX9_count 66 = .ok (.istore_n 3, 1) := by decide +kernel
theorem dX9_count_67 : decode cX9_count 67 = .ok (.iload_n 3, 1) := by decide +kernel
theorem dX9_count_68 : decode cX9_count 68 = .ok (.bipush 12, 2) := by decide +kernel
theorem dX9_count_70 : decode cX9_count 70 = .ok (.if_icmp .ge 26, 3) := by decide +kernel
theorem dX9_count_73 : decode cX9_count 73 = .ok (.iload_n 2, 1) := by decide +kernel
theorem dX9_count_74 : decode cX9_count 74 = .ok (.aload_n 0, 1) := by decide +kernel
theorem dX9_count_75 : decode cX9_count 75 = .ok (.getfield 13, 3) := by decide +kernel
theorem dX9_count_78 : decode cX9_count 78 = .ok (.iload_n 3, 1) := by decide +kernel
theorem dX9_count_79 : decode cX9_count 79 = .ok (.baload, 1) := by decide +kernel
theorem dX9_count_80 : decode cX9_count 80 = .ok (.ifCond .eq 7, 3) := by decide +kernel
theorem dX9_count_83 : decode cX9_count 83 = .ok (.iconst 1, 1) := by decide +kernel
theorem dX9_count_84 : decode cX9_count 84 = .ok (.goto 4, 3) := by decide +kernel
theorem dX9_count_87 : decode cX9_count 87 = .ok (.iconst 0, 1) := by decide +kernel
theorem dX9_count_88 : decode cX9_count 88 = .ok (.iadd, 1) := by decide +kernel
theorem dX9_count_89 : decode cX9_count 89 = .ok (.istore_n 2, 1) := by decide +kernel
theorem dX9_count_90 : decode cX9_count 90 = .ok (.iinc 3 1, 3) := by decide +kernel
theorem dX9_count_93 : decode cX9_count 93 = .ok (.goto (-26), 3) := by decide +kernel
theorem dX9_count_96 : decode cX9_count 96 = .ok (.iload_n 2, 1) := by decide +kernel
theorem dX9_count_97 : decode cX9_count 97 = .ok (.ireturn, 1) := by decide +kernel
theorem dX9_count_98 : decode cX9_count 98 = .ok (.aload_n 0, 1) := by decide +kernel
theorem dX9_count_99 : decode cX9_count 99 = .ok (.getfield 104, 3) := by decide +kernel
theorem dX9_count_102 : decode cX9_count 102 = .ok (.ireturn, 1) := by decide +kernel
theorem dX9_count_103 : decode cX9_count 103 = .ok (.aload_n 0, 1) := by decide +kernel
theorem dX9_count_104 : decode cX9_count 104 = .ok (.getfield 110, 3) := by decide +kernel
theorem dX9_count_107 : decode cX9_count 107 = .ok (.ireturn, 1) := by decide +kernel
theorem dX9_count_108 : decode cX9_count 108 = .ok (.aload_n 0, 1) := by decide +kernel
theorem dX9_count_109 : decode cX9_count 109 = .ok (.getfield 156, 3) := by decide +kernel
theorem dX9_count_112 : decode cX9_count 112 = .ok (.ireturn, 1) := by decide +kernel
theorem dX9_count_113 : decode cX9_count 113 = .ok (.aload_n 0, 1) := by decide +kernel
theorem dX9_count_114 : decode cX9_count 114 = .ok (.getfield 107, 3) := by decide +kernel
theorem dX9_count_117 : decode cX9_count 117 = .ok (.ireturn, 1) := by decide +kernel
theorem dX9_count_118 : decode cX9_count 118 = .ok (.aload_n 0, 1) := by decide +kernel
theorem dX9_count_119 : decode cX9_count 119 = .ok (.getfield 159, 3) := by decide +kernel
theorem dX9_count_122 : decode cX9_count 122 = .ok (.ireturn, 1) := by decide +kernel
theorem dX9_count_123 : decode cX9_count 123 = .ok (.aload_n 0, 1) := by decide +kernel
theorem dX9_count_124 : decode cX9_count 124 = .ok (.getfield 166, 3) := by decide +kernel
theorem dX9_count_127 : decode cX9_count 127 = .ok (.ireturn, 1) := by decide +kernel
theorem dX9_count_128 : decode cX9_count 128 = .ok (.aload_n 0, 1) := by decide +kernel
theorem dX9_count_129 : decode cX9_count 129 = .ok (.getfield 153, 3) := by decide +kernel
theorem dX9_count_132 : decode cX9_count 132 = .ok (.ireturn, 1) := by decide +kernel
theorem dX9_count_133 : decode cX9_count 133 = .ok (.aload_n 0, 1) := by decide +kernel
theorem dX9_count_134 : decode cX9_count 134 = .ok (.getfield 169, 3) := by decide +kernel
theorem dX9_count_137 : decode cX9_count 137 = .ok (.ireturn, 1) := by decide +kernel
theorem dX9_count_138 : decode cX9_count 138 = .ok (.aload_n 0, 1) := by decide +kernel
theorem dX9_count_139 : decode cX9_count 139 = .ok (.invokevirtual 175, 3) := by decide +kernel
theorem dX9_count_142 : decode cX9_count 142 = .ok (.ireturn, 1) := by decide +kernel
theorem dX9_count_143 : decode cX9_count 143 = .ok (.iload_n 1, 1) := by decide +kernel
theorem dX9_count_144 : decode cX9_count 144 = .ok (.bipush 11, 2) := by decide +kernel
theorem dX9_count_146 : decode cX9_count 146 = .ok (.bipush 17, 2) := by decide +kernel
theorem dX9_count_148 : decode cX9_count 148 = .ok (.invokestatic 75, 3) := by decide +kernel
theorem dX9_count_151 : decode cX9_count 151 = .ok (.ifCond .eq 15, 3) := by decide +kernel
theorem dX9_count_154 : decode cX9_count 154 = .ok (.aload_n 0, 1) := by decide +kernel
theorem dX9_count_155 : decode cX9_count 155 = .ok (.getfield 54, 3) := by decide +kernel
theorem dX9_count_158 : decode cX9_count 158 = .ok (.iload_n 1, 1) := by decide +kernel
theorem dX9_count_159 : decode cX9_count 159 = .ok (.bipush 10, 2) := by decide +kernel
theorem dX9_count_161 : decode cX9_count 161 = .ok (.isub, 1) := by decide +kernel
theorem dX9_count_162 : decode cX9_count 162 = .ok (.iaload, 1) := by decide +kernel
theorem dX9_count_163 : decode cX9_count 163 = .ok (.goto 5, 3) := by decide +kernel
theorem dX9_count_166 : decode cX9_count 166 = .ok (.bipush (-9), 2) := by decide +kernel
theorem dX9_count_168 : decode cX9_count 168 = .ok (.ireturn, 1) := by decide +kernel
theorem dJ13_bitCount_95d88_0 : decode cJ13_bitCount_95d88 0 = .ok (.lload_n 0, 1) := by decide +kernel
theorem dJ13_bitCount_95d88_1 : decode cJ13_bitCount_95d88 1 = .ok (.lload_n 0, 1) := by decide +kernel
theorem dJ13_bitCount_95d88_2 : decode cJ13_bitCount_95d88 2 = .ok (.iconst 1, 1) := by decide +kernel
theorem dJ13_bitCount_95d88_3 : decode cJ13_bitCount_95d88 3 = .ok (.lushr, 1) := by decide +kernel
theorem dJ13_bitCount_95d88_4 : decode cJ13_bitCount_95d88 4 = .ok (.ldc2_w 314, 3) := by decide +kernel
theorem dJ13_bitCount_95d88_7 : decode cJ13_bitCount_95d88 7 = .ok (.land, 1) := by decide +kernel
theorem dJ13_bitCount_95d88_8 : decode cJ13_bitCount_95d88 8 = .ok (.lsub, 1) := by decide +kernel
theorem dJ13_bitCount_95d88_9 : decode cJ13_bitCount_95d88 9 = .ok (.lstore_n 0, 1) := by decide +kernel
theorem dJ13_bitCount_95d88_10 : decode cJ13_bitCount_95d88 10 = .ok (.lload_n 0, 1) := by decide +kernel
theorem dJ13_bitCount_95d88_11 : decode cJ13_bitCount_95d88 11 = .ok (.ldc2_w 316, 3) := by decide +kernel
theorem dJ13_bitCount_95d88_14 : decode cJ13_bitCount_95d88 14 = .ok (.land, 1) := by decide +kernel
theorem dJ13_bitCount_95d88_15 : decode cJ13_bitCount_95d88 15 = .ok (.lload_n 0, 1) := by decide +kernel
theorem dJ13_bitCount_95d88_16 : decode cJ13_bitCount_95d88 16 = .ok (.iconst 2, 1) := by decide +kernel
theorem dJ13_bitCount_95d88_17 : decode cJ13_bitCount_95d88 17 = .ok (.lushr, 1) := by decide +kernel
theorem dJ13_bitCount_95d88_18 : decode cJ13_bitCount_95d88 18 = .ok (.ldc2_w 316, 3) := by decide +kernel
theorem dJ13_bitCount_95d88_21 : decode cJ13_bitCount_95d88 21 = .ok (.land, 1) := by decide +kernel
theorem dJ13_bitCount_95d88_22 : decode cJ13_bitCount_95d88 22 = .ok (.ladd, 1) := by decide +kernel
theorem dJ13_bitCount_95d88_23 : decode cJ13_bitCount_95d88 23 = .ok (.lstore_n 0, 1) := by decide +kernel
theorem dJ13_bitCount_95d88_24 : decode cJ13_bitCount_95d88 24 = .ok (.lload_n 0, 1) := by decide +kernel
theorem dJ13_bitCount_95d88_25 : decode cJ13_bitCount_95d88 25 = .ok (.lload_n 0, 1) := by decide +kernel
theorem dJ13_bitCount_95d88_26 : decode cJ13_bitCount_95d88 26 = .ok (.iconst 4, 1) := by decide +kernel
theorem dJ13_bitCount_95d88_27 : decode cJ13_bitCount_95d88 27 = .ok (.lushr, 1) := by decide +kernel
theorem dJ13_bitCount_95d88_28 : decode cJ13_bitCount_95d88 28 = .ok (.ladd, 1) := by decide +kernel
theorem dJ13_bitCount_95d88_29 : decode cJ13_bitCount_95d88 29 = .ok (.ldc2_w 318, 3) := by decide +kernel
theorem dJ13_bitCount_95d88_32 : decode cJ13_bitCount_95d88 32 = .ok (.land, 1) := by decide +kernel
theorem dJ13_bitCount_95d88_33 : decode cJ13_bitCount_95d88 33 = .ok (.lstore_n 0, 1) := by decide +kernel
theorem dJ13_bitCount_95d88_34 : decode cJ13_bitCount_95d88 34 = .ok (.lload_n 0, 1) := by decide +kernel
theorem dJ13_bitCount_95d88_35 : decode cJ13_bitCount_95d88 35 = .ok (.lload_n 0, 1) := by decide +kernel
theorem dJ13_bitCount_95d88_36 : decode cJ13_bitCount_95d88 36 = .ok (.bipush 8, 2) := by decide +kernel
theorem dJ13_bitCount_95d88_38 : decode cJ13_bitCount_95d88 38 = .ok (.lushr, 1) := by decide +kernel
theorem dJ13_bitCount_95d88_39 : decode cJ13_bitCount_95d88 39 = .ok (.ladd, 1) := by decide +kernel
theorem dJ13_bitCount_95d88_40 : decode cJ13_bitCount_95d88 40 = .ok (.lstore_n 0, 1) := by decide +kernel
theorem dJ13_bitCount_95d88_41 : decode cJ13_bitCount_95d88 41 = .ok (.lload_n 0, 1) := by decide +kernel
theorem dJ13_bitCount_95d88_42 : decode cJ13_bitCount_95d88 42 = .ok (.lload_n 0, 1) := by decide +kernel
theorem dJ13_bitCount_95d88_43 : decode cJ13_bitCount_95d88 43 = .ok (.bipush 16, 2) := by decide +kernel
theorem dJ13_bitCount_95d88_45 : decode cJ13_bitCount_95d88 45 = .ok (.lushr, 1) := by decide +kernel
theorem dJ13_bitCount_95d88_46 : decode cJ13_bitCount_95d88 46 = .ok (.ladd, 1) := by decide +kernel
theorem dJ13_bitCount_95d88_47 : decode cJ13_bitCount_95d88 47 = .ok (.lstore_n 0, 1) := by decide +kernel
theorem dJ13_bitCount_95d88_48 : decode cJ13_bitCount_95d88 48 = .ok (.lload_n 0, 1) := by decide +kernel
theorem dJ13_bitCount_95d88_49 : decode cJ13_bitCount_95d88 49 = .ok (.lload_n 0, 1) := by decide +kernel
theorem dJ13_bitCount_95d88_50 : decode cJ13_bitCount_95d88 50 = .ok (.bipush 32, 2) := by decide +kernel
theorem dJ13_bitCount_95d88_52 : decode cJ13_bitCount_95d88 52 = .ok (.lushr, 1) := by decide +kernel
theorem dJ13_bitCount_95d88_53 : decode cJ13_bitCount_95d88 53 = .ok (.ladd, 1) := by decide +kernel
theorem dJ13_bitCount_95d88_54 : decode cJ13_bitCount_95d88 54 = .ok (.lstore_n 0, 1) := by decide +kernel
theorem dJ13_bitCount_95d88_55 : decode cJ13_bitCount_95d88 55 = .ok (.lload_n 0, 1) := by decide +kernel
theorem dJ13_bitCount_95d88_56 : decode cJ13_bitCount_95d88 56 = .ok (.l2i, 1) := by decide +kernel
theorem dJ13_bitCount_95d88_57 : decode cJ13_bitCount_95d88 57 = .ok (.bipush 127, 2) := by decide +kernel
theorem dJ13_bitCount_95d88_59 : decode cJ13_bitCount_95d88 59 = .ok (.iand, 1) := by decide +kernel
theorem dJ13_bitCount_95d88_60 : decode cJ13_bitCount_95d88 60 = .ok (.ireturn, 1) := by decide +kernel
theorem dJ9_floorDiv_7cf53_0 : decode cJ9_floorDiv_7cf53 0 = .ok (.iload_n 0, 1) := by decide +kernel
theorem dJ9_floorDiv_7cf53_1 : decode cJ9_floorDiv_7cf53 1 = .ok (.iload_n 1, 1) := by decide +kernel
theorem dJ9_floorDiv_7cf53_2 : decode cJ9_floorDiv_7cf53 2 = .ok (.idiv, 1) := by decide +kernel
theorem dJ9_floorDiv_7cf53_3 : decode cJ9_floorDiv_7cf53 3 = .ok (.istore_n 2, 1) := by decide +kernel
theorem dJ9_floorDiv_7cf53_4 : decode cJ9_floorDiv_7cf53 4 = .ok (.iload_n 0, 1) := by decide +kernel
theorem dJ9_floorDiv_7cf53_5 : decode cJ9_floorDiv_7cf53 5 = .ok (.iload_n 1, 1) := by decide +kernel
theorem dJ9_floorDiv_7cf53_6 : decode cJ9_floorDiv_7cf53 6 = .ok (.ixor, 1) := by decide +kernel
theorem dJ9_floorDiv_7cf53_7 : decode cJ9_floorDiv_7cf53 7 = .ok (.ifCond .ge 14, 3) := by decide +kernel
theorem dJ9_floorDiv_7cf53_10 : decode cJ9_floorDiv_7cf53 10 = .ok (.iload_n 2, 1) := by decide +kernel
theorem dJ9_floorDiv_7cf53_11 : decode cJ9_floorDiv_7cf53 11 = .ok (.iload_n 1, 1) := by decide +kernel
theorem dJ9_floorDiv_7cf53_12 : decode cJ9_floorDiv_7cf53 12 = .ok (.imul, 1) := by decide +kernel
theorem dJ9_floorDiv_7cf53_13 : decode cJ9_floorDiv_7cf53 13 = .ok (.iload_n 0, 1) := by decide +kernel
theorem dJ9_floorDiv_7cf53_14 : decode cJ9_floorDiv_7cf53 14 = .ok (.if_icmp .eq 7, 3) := by decide +kernel
theorem dJ9_floorDiv_7cf53_17 : decode cJ9_floorDiv_7cf53 17 = .ok (.iload_n 2, 1) := by decide +kernel
theorem dJ9_floorDiv_7cf53_18 : decode cJ9_floorDiv_7cf53 18 = .ok (.iconst 1, 1) := by decide +kernel
theorem dJ9_floorDiv_7cf53_19 : decode cJ9_floorDiv_7cf53 19 = .ok (.isub, 1) := by decide +kernel
theorem dJ9_floorDiv_7cf53_20 : decode cJ9_floorDiv_7cf53 20 = .ok (.ireturn, 1) := by decide +kernel
theorem dJ9_floorDiv_7cf53_21 : decode cJ9_floorDiv_7cf53 21 = .ok (.iload_n 2, 1) := by decide +kernel
theorem dJ9_floorDiv_7cf53_22 : decode cJ9_floorDiv_7cf53 22 = .ok (.ireturn, 1) := by decide +kernel
theorem dJ9_abs_0f7a4_0 : decode cJ9_abs_0f7a4 0 = .ok (.iload_n 0, 1) := by decide +kernel
theorem dJ9_abs_0f7a4_1 : decode cJ9_abs_0f7a4 1 = .ok (.ifCond .ge 8, 3) := by decide +kernel
theorem dJ9_abs_0f7a4_4 : decode cJ9_abs_0f7a4 4 = .ok (.iload_n 0, 1) := by decide +kernel
theorem dJ9_abs_0f7a4_5 : decode cJ9_abs_0f7a4 5 = .ok (.ineg, 1) := by decide +kernel
theorem dJ9_abs_0f7a4_6 : decode cJ9_abs_0f7a4 6 = .ok (.goto 4, 3) := by decide +kernel
theorem dJ9_abs_0f7a4_9 : decode cJ9_abs_0f7a4 9 = .ok (.iload_n 0, 1) := by decide +kernel
theorem dJ9_abs_0f7a4_10 : decode cJ9_abs_0f7a4 10 = .ok (.ireturn, 1) := by decide +kernel
theorem dJ9_max_7cf53_0 : decode cJ9_max_7cf53 0 = .ok (.iload_n 0, 1) := by decide +kernel
theorem dJ9_max_7cf53_1 : decode cJ9_max_7cf53 1 = .ok (.iload_n 1, 1) := by decide +kernel
theorem dJ9_max_7cf53_2 : decode cJ9_max_7cf53 2 = .ok (.if_icmp .lt 7, 3) := by decide +kernel
theorem dJ9_max_7cf53_5 : decode cJ9_max_7cf53 5 = .ok (.iload_n 0, 1) := by decide +kernel
theorem dJ9_max_7cf53_6 : decode cJ9_max_7cf53 6 = .ok (.goto 4, 3) := by decide +kernel
theorem dJ9_max_7cf53_9 : decode cJ9_max_7cf53 9 = .ok (.iload_n 1, 1) := by decide +kernel
theorem dJ9_max_7cf53_10 : decode cJ9_max_7cf53 10 = .ok (.ireturn, 1) := by decide +kernel
theorem dJ9_min_7cf53_0 : decode cJ9_min_7cf53 0 = .ok (.iload_n 0, 1) := by decide +kernel
theorem dJ9_min_7cf53_1 : decode cJ9_min_7cf53 1 = .ok (.iload_n 1, 1) := by decide +kernel
theorem dJ9_min_7cf53_2 : decode cJ9_min_7cf53 2 = .ok (.if_icmp .gt 7, 3) := by decide +kernel
theorem dJ9_min_7cf53_5 : decode cJ9_min_7cf53 5 = .ok (.iload_n 0, 1) := by decide +kernel
theorem dJ9_min_7cf53_6 : decode cJ9_min_7cf53 6 = .ok (.goto 4, 3) := by decide +kernel
theorem dJ9_min_7cf53_9 : decode cJ9_min_7cf53 9 = .ok (.iload_n 1, 1) := by decide +kernel
theorem dJ9_min_7cf53_10 : decode cJ9_min_7cf53 10 = .ok (.ireturn, 1) := by decide +kernel
theorem dJ7_fill_d0a16_0 : decode cJ7_fill_d0a16 0 = .ok (.iconst 0, 1) := by decide +kernel
theorem dJ7_fill_d0a16_1 : decode cJ7_fill_d0a16 1 = .ok (.istore_n 3, 1) := by decide +kernel
theorem dJ7_fill_d0a16_2 : decode cJ7_fill_d0a16 2 = .ok (.aload_n 0, 1) := by decide +kernel
theorem dJ7_fill_d0a16_3 : decode cJ7_fill_d0a16 3 = .ok (.arraylength, 1) := by decide +kernel
theorem dJ7_fill_d0a16_4 : decode cJ7_fill_d0a16 4 = .ok (.istore 4, 2) := by decide +kernel
theorem dJ7_fill_d0a16_6 : decode cJ7_fill_d0a16 6 = .ok (.iload_n 3, 1) := by decide +kernel
theorem dJ7_fill_d0a16_7 : decode cJ7_fill_d0a16 7 = .ok (.iload 4, 2) := by decide +kernel
theorem dJ7_fill_d0a16_9 : decode cJ7_fill_d0a16 9 = .ok (.if_icmp .ge 13, 3) := by decide +kernel
theorem dJ7_fill_d0a16_12 : decode cJ7_fill_d0a16 12 = .ok (.aload_n 0, 1) := by decide +kernel
theorem dJ7_fill_d0a16_13 : decode cJ7_fill_d0a16 13 = .ok (.iload_n 3, 1) := by decide +kernel
theorem dJ7_fill_d0a16_14 : decode cJ7_fill_d0a16 14 = .ok (.lload_n 1, 1) := by decide +kernel
theorem dJ7_fill_d0a16_15 : decode cJ7_fill_d0a16 15 = .ok (.lastore, 1) := by decide +kernel
theorem dJ7_fill_d0a16_16 : decode cJ7_fill_d0a16 16 = .ok (.iinc 3 1, 3) := by decide +kernel
theorem dJ7_fill_d0a16_19 : decode cJ7_fill_d0a16 19 = .ok (.goto (-13), 3) := by decide +kernel
theorem dJ7_fill_d0a16_22 : decode cJ7_fill_d0a16 22 = .ok (.return_, 1) := by decide +kernel
theorem dJ7_fill_53178_0 : decode cJ7_fill_53178 0 = .ok (.iconst 0, 1) := by decide +kernel
theorem dJ7_fill_53178_1 : decode cJ7_fill_53178 1 = .ok (.istore_n 2, 1) := by decide +kernel
theorem dJ7_fill_53178_2 : decode cJ7_fill_53178 2 = .ok (.aload_n 0, 1) := by decide +kernel
theorem dJ7_fill_53178_3 : decode cJ7_fill_53178 3 = .ok (.arraylength, 1) := by decide +kernel
theorem dJ7_fill_53178_4 : decode cJ7_fill_53178 4 = .ok (.istore_n 3, 1) := by decide +kernel
theorem dJ7_fill_53178_5 : decode cJ7_fill_53178 5 = .ok (.iload_n 2, 1) := by decide +kernel
theorem dJ7_fill_53178_6 : decode cJ7_fill_53178 6 = .ok (.iload_n 3, 1) := by decide +kernel
theorem dJ7_fill_53178_7 : decode cJ7_fill_53178 7 = .ok (.if_icmp .ge 13, 3) := by decide +kernel
theorem dJ7_fill_53178_10 : decode cJ7_fill_53178 10 = .ok (.aload_n 0, 1) := by decide +kernel
theorem dJ7_fill_53178_11 : decode cJ7_fill_53178 11 = .ok (.iload_n 2, 1) := by decide +kernel
theorem dJ7_fill_53178_12 : decode cJ7_fill_53178 12 = .ok (.iload_n 1, 1) := by decide +kernel
theorem dJ7_fill_53178_13 : decode cJ7_fill_53178 13 = .ok (.iastore, 1) := by decide +kernel
theorem dJ7_fill_53178_14 : decode cJ7_fill_53178 14 = .ok (.iinc 2 1, 3) := by decide +kernel
theorem dJ7_fill_53178_17 : decode cJ7_fill_53178 17 = .ok (.goto (-12), 3) := by decide +kernel
theorem dJ7_fill_53178_20 : decode cJ7_fill_53178 20 = .ok (.return_, 1) := by decide +kernel
abbrev vwCl : List vw_C := [(RX0, TX0, 4), (RX1, TX1, 3), (RX2, TX2, 7), (RX3, TX3, 2), (RX4, TX4, 3), (RX5, TX5, 6), (RX6, TX6, 2), (RX7, TX7, 5), (RX8, TX8, 11), (RX9, TX9, 32)]

theorem dX4_review_152 : decode cX4_review 152 = .ok (.iconst 1, 1) := by decide +kernel
theorem dX4_review_153 : decode cX4_review 153 = .ok (.isub, 1) := by decide +kernel
theorem dX4_review_154 : decode cX4_review 154 = .ok (.ireturn, 1) := by decide +kernel
set_option maxRecDepth 20000 in
theorem ggX4_openRemarks_X4_count : GoodIn wsX4_openRemarks wsX4_count := goodIn_r _ [7] (by decide +kernel) (by decide +kernel)
set_option maxRecDepth 20000 in
theorem gX4_openRemarks_X4_count : GoodIn wsX4_openRemarks (wsV RX4 121 RX4 yX4_count wsX4_count) := goodIn_app (goodIn_of _ (by decide +kernel)) ggX4_openRemarks_X4_count
theorem dX4_openRemarks_0 : decode cX4_openRemarks 0 = .ok (.aload_n 0, 1) := by decide +kernel
theorem dX4_openRemarks_1 : decode cX4_openRemarks 1 = .ok (.getfield 51, 3) := by decide +kernel
theorem dX4_openRemarks_4 : decode cX4_openRemarks 4 = .ok (.iload_n 1, 1) := by decide +kernel
theorem dX4_openRemarks_5 : decode cX4_openRemarks 5 = .ok (.iaload, 1) := by decide +kernel
theorem dX4_openRemarks_6 : decode cX4_openRemarks 6 = .ok (.aload_n 0, 1) := by decide +kernel
theorem dX4_openRemarks_7 : decode cX4_openRemarks 7 = .ok (.aload_n 0, 1) := by decide +kernel
theorem dX4_openRemarks_8 : decode cX4_openRemarks 8 = .ok (.getfield 54, 3) := by decide +kernel
theorem dX4_openRemarks_11 : decode cX4_openRemarks 11 = .ok (.iconst 4, 1) := by decide +kernel
theorem dX4_openRemarks_12 : decode cX4_openRemarks 12 = .ok (.iload_n 1, 1) := by decide +kernel
theorem dX4_openRemarks_13 : decode cX4_openRemarks 13 = .ok (.imul, 1) := by decide +kernel
theorem dX4_openRemarks_14 : decode cX4_openRemarks 14 = .ok (.aload_n 0, 1) := by decide +kernel
theorem dX4_openRemarks_15 : decode cX4_openRemarks 15 = .ok (.getfield 51, 3) := by decide +kernel
theorem dX4_openRemarks_18 : decode cX4_openRemarks 18 = .ok (.iload_n 1, 1) := by decide +kernel
theorem dX4_openRemarks_19 : decode cX4_openRemarks 19 = .ok (.iaload, 1) := by decide +kernel
theorem dX4_openRemarks_20 : decode cX4_openRemarks 20 = .ok (.invokevirtual 121, 3) := by decide +kernel
theorem dX4_openRemarks_23 : decode cX4_openRemarks 23 = .ok (.isub, 1) := by decide +kernel
theorem dX4_openRemarks_24 : decode cX4_openRemarks 24 = .ok (.ireturn, 1) := by decide +kernel
set_option maxRecDepth 20000 in
theorem ggX4_answer_X4_isPaper : GoodIn wsX4_answer wsX4_isPaper := goodIn_r _ [8, 9, 10, 11, 7, 12, 26, 27, 28, 29, 30, 31, 32, 33, 34, 35, 36, 37, 38, 39, 40, 41, 42, 43, 44, 45, 46, 47, 48, 49, 50, 51, 52, 53, 54, 55, 56] (by decide +kernel) (by decide +kernel)
set_option maxRecDepth 20000 in
theorem gX4_answer_X4_isPaper : GoodIn wsX4_answer (wsV RX4 110 RX4 yX4_isPaper wsX4_isPaper) := goodIn_app (goodIn_of _ (by decide +kernel)) ggX4_answer_X4_isPaper
set_option maxRecDepth 20000 in
theorem ggX4_answer_X4_isIn : GoodIn wsX4_answer wsX4_isIn := goodIn_r _ [12] (by decide +kernel) (by decide +kernel)
set_option maxRecDepth 20000 in
theorem gX4_answer_X4_isIn : GoodIn wsX4_answer (va_wsS RX4 96 yX4_isIn wsX4_isIn) := goodIn_app (goodIn_of _ (by decide +kernel)) ggX4_answer_X4_isIn
set_option maxRecDepth 20000 in
theorem ggX4_answer_X4_can : GoodIn wsX4_answer wsX4_can := goodIn_r _ [16, 17, 26, 27, 28, 29, 30, 31, 32, 33, 34, 35, 36, 37, 38, 39, 40, 41, 42, 43, 44, 45, 46, 47, 48, 49, 50, 51, 52, 53, 54, 55, 56] (by decide +kernel) (by decide +kernel)
set_option maxRecDepth 20000 in
theorem gX4_answer_X4_can : GoodIn wsX4_answer (wsV RX4 107 RX4 yX4_can wsX4_can) := goodIn_app (goodIn_of _ (by decide +kernel)) ggX4_answer_X4_can
set_option maxRecDepth 20000 in
theorem ggX4_answer_X4_openRemarks : GoodIn wsX4_answer wsX4_openRemarks := goodIn_r _ [21, 2, 3, 22, 23, 24, 7, 25, 26, 27, 28, 29, 30, 31, 32, 33, 34, 35, 36, 37, 38, 39, 40, 41, 42, 43, 44, 45, 46, 47, 48, 49, 50, 51, 52, 53, 54, 55, 56] (by decide +kernel) (by decide +kernel)
set_option maxRecDepth 20000 in
theorem gX4_answer_X4_openRemarks : GoodIn wsX4_answer (wsV RX4 129 RX4 yX4_openRemarks wsX4_openRemarks) := goodIn_app (goodIn_of _ (by decide +kernel)) ggX4_answer_X4_openRemarks
theorem dX4_answer_0 : decode cX4_answer 0 = .ok (.aload_n 0, 1) := by decide +kernel
theorem dX4_answer_1 : decode cX4_answer 1 = .ok (.iload_n 1, 1) := by decide +kernel
theorem dX4_answer_2 : decode cX4_answer 2 = .ok (.invokevirtual 110, 3) := by decide +kernel
theorem dX4_answer_5 : decode cX4_answer 5 = .ok (.ifCond .eq 32, 3) := by decide +kernel
theorem dX4_answer_8 : decode cX4_answer 8 = .ok (.aload_n 0, 1) := by decide +kernel
theorem dX4_answer_9 : decode cX4_answer 9 = .ok (.getfield 30, 3) := by decide +kernel
theorem dX4_answer_12 : decode cX4_answer 12 = .ok (.iload_n 1, 1) := by decide +kernel
theorem dX4_answer_13 : decode cX4_answer 13 = .ok (.baload, 1) := by decide +kernel
theorem dX4_answer_14 : decode cX4_answer 14 = .ok (.ifCond .eq 19, 3) := by decide +kernel
theorem dX4_answer_17 : decode cX4_answer 17 = .ok (.iload_n 2, 1) := by decide +kernel
theorem dX4_answer_18 : decode cX4_answer 18 = .ok (.iconst 0, 1) := by decide +kernel
theorem dX4_answer_19 : decode cX4_answer 19 = .ok (.aload_n 0, 1) := by decide +kernel
theorem dX4_answer_20 : decode cX4_answer 20 = .ok (.getfield 51, 3) := by decide +kernel
theorem dX4_answer_23 : decode cX4_answer 23 = .ok (.iload_n 1, 1) := by decide +kernel
theorem dX4_answer_24 : decode cX4_answer 24 = .ok (.iaload, 1) := by decide +kernel
theorem dX4_answer_25 : decode cX4_answer 25 = .ok (.iconst 1, 1) := by decide +kernel
theorem dX4_answer_26 : decode cX4_answer 26 = .ok (.isub, 1) := by decide +kernel
theorem dX4_answer_27 : decode cX4_answer 27 = .ok (.invokestatic 96, 3) := by decide +kernel
theorem dX4_answer_30 : decode cX4_answer 30 = .ok (.ifCond .eq 7, 3) := by decide +kernel
theorem dX4_answer_33 : decode cX4_answer 33 = .ok (.iconst 1, 1) := by decide +kernel
theorem dX4_answer_34 : decode cX4_answer 34 = .ok (.goto 4, 3) := by decide +kernel
theorem dX4_answer_37 : decode cX4_answer 37 = .ok (.iconst 0, 1) := by decide +kernel
theorem dX4_answer_38 : decode cX4_answer 38 = .ok (.istore_n 3, 1) := by decide +kernel
theorem dX4_answer_39 : decode cX4_answer 39 = .ok (.aload_n 0, 1) := by decide +kernel
theorem dX4_answer_40 : decode cX4_answer 40 = .ok (.iload_n 3, 1) := by decide +kernel
theorem dX4_answer_41 : decode cX4_answer 41 = .ok (.ifCond .ne 7, 3) := by decide +kernel
theorem dX4_answer_44 : decode cX4_answer 44 = .ok (.iconst 1, 1) := by decide +kernel
theorem dX4_answer_45 : decode cX4_answer 45 = .ok (.goto 30, 3) := by decide +kernel
theorem dX4_answer_48 : decode cX4_answer 48 = .ok (.aload_n 0, 1) := by decide +kernel
theorem dX4_answer_49 : decode cX4_answer 49 = .ok (.getfield 30, 3) := by decide +kernel
theorem dX4_answer_52 : decode cX4_answer 52 = .ok (.iload_n 1, 1) := by decide +kernel
theorem dX4_answer_53 : decode cX4_answer 53 = .ok (.baload, 1) := by decide +kernel
theorem dX4_answer_54 : decode cX4_answer 54 = .ok (.ifCond .eq 16, 3) := by decide +kernel
theorem dX4_answer_57 : decode cX4_answer 57 = .ok (.aload_n 0, 1) := by decide +kernel
theorem dX4_answer_58 : decode cX4_answer 58 = .ok (.getfield 54, 3) := by decide +kernel
theorem dX4_answer_61 : decode cX4_answer 61 = .ok (.iconst 4, 1) := by decide +kernel
theorem dX4_answer_62 : decode cX4_answer 62 = .ok (.iload_n 1, 1) := by decide +kernel
theorem dX4_answer_63 : decode cX4_answer 63 = .ok (.imul, 1) := by decide +kernel
theorem dX4_answer_64 : decode cX4_answer 64 = .ok (.iload_n 2, 1) := by decide +kernel
theorem dX4_answer_65 : decode cX4_answer 65 = .ok (.iadd, 1) := by decide +kernel
theorem dX4_answer_66 : decode cX4_answer 66 = .ok (.baload, 1) := by decide +kernel
theorem dX4_answer_67 : decode cX4_answer 67 = .ok (.ifCond .eq 7, 3) := by decide +kernel
theorem dX4_answer_70 : decode cX4_answer 70 = .ok (.iconst 2, 1) := by decide +kernel
theorem dX4_answer_71 : decode cX4_answer 71 = .ok (.goto 4, 3) := by decide +kernel
theorem dX4_answer_74 : decode cX4_answer 74 = .ok (.iconst 0, 1) := by decide +kernel
theorem dX4_answer_75 : decode cX4_answer 75 = .ok (.invokevirtual 107, 3) := by decide +kernel
theorem dX4_answer_78 : decode cX4_answer 78 = .ok (.ifCond .ne 5, 3) := by decide +kernel
theorem dX4_answer_81 : decode cX4_answer 81 = .ok (.iconst 0, 1) := by decide +kernel
theorem dX4_answer_82 : decode cX4_answer 82 = .ok (.ireturn, 1) := by decide +kernel
theorem dX4_answer_83 : decode cX4_answer 83 = .ok (.aload_n 0, 1) := by decide +kernel
theorem dX4_answer_84 : decode cX4_answer 84 = .ok (.getfield 54, 3) := by decide +kernel
theorem dX4_answer_87 : decode cX4_answer 87 = .ok (.iconst 4, 1) := by decide +kernel
theorem dX4_answer_88 : decode cX4_answer 88 = .ok (.iload_n 1, 1) := by decide +kernel
theorem dX4_answer_89 : decode cX4_answer 89 = .ok (.imul, 1) := by decide +kernel
theorem dX4_answer_90 : decode cX4_answer 90 = .ok (.iload_n 2, 1) := by decide +kernel
theorem dX4_answer_91 : decode cX4_answer 91 = .ok (.iadd, 1) := by decide +kernel
theorem dX4_answer_92 : decode cX4_answer 92 = .ok (.iconst 1, 1) := by decide +kernel
theorem dX4_answer_93 : decode cX4_answer 93 = .ok (.bastore, 1) := by decide +kernel
theorem dX4_answer_94 : decode cX4_answer 94 = .ok (.aload_n 0, 1) := by decide +kernel
theorem dX4_answer_95 : decode cX4_answer 95 = .ok (.iload_n 1, 1) := by decide +kernel
theorem dX4_answer_96 : decode cX4_answer 96 = .ok (.invokevirtual 129, 3) := by decide +kernel
theorem dX4_answer_99 : decode cX4_answer 99 = .ok (.ireturn, 1) := by decide +kernel
set_option maxRecDepth 20000 in
theorem ggX4_isOver_X4_nextReviewer : GoodIn wsX4_isOver wsX4_nextReviewer := goodIn_r _ [6, 1, 7, 8, 19, 20, 21, 22, 23, 24, 25, 26, 27, 28, 29, 30, 31, 32, 33, 34, 35, 36, 37, 38, 39, 40, 41, 42, 43, 44, 45, 46, 47, 48, 49] (by decide +kernel) (by decide +kernel)
set_option maxRecDepth 20000 in
theorem gX4_isOver_X4_nextReviewer : GoodIn wsX4_isOver (wsV RX4 125 RX4 yX4_nextReviewer wsX4_nextReviewer) := goodIn_app (goodIn_of _ (by decide +kernel)) ggX4_isOver_X4_nextReviewer
set_option maxRecDepth 20000 in
theorem ggX4_isOver_X4_openRemarks : GoodIn wsX4_isOver wsX4_openRemarks := goodIn_r _ [12, 13, 14, 15, 16, 17, 5, 18, 19, 20, 21, 22, 23, 24, 25, 26, 27, 28, 29, 30, 31, 32, 33, 34, 35, 36, 37, 38, 39, 40, 41, 42, 43, 44, 45, 46, 47, 48, 49] (by decide +kernel) (by decide +kernel)
set_option maxRecDepth 20000 in
theorem gX4_isOver_X4_openRemarks : GoodIn wsX4_isOver (wsV RX4 129 RX4 yX4_openRemarks wsX4_openRemarks) := goodIn_app (goodIn_of _ (by decide +kernel)) ggX4_isOver_X4_openRemarks
theorem dX4_isOver_0 : decode cX4_isOver 0 = .ok (.aload_n 0, 1) := by decide +kernel
theorem dX4_isOver_1 : decode cX4_isOver 1 = .ok (.getfield 42, 3) := by decide +kernel
theorem dX4_isOver_4 : decode cX4_isOver 4 = .ok (.iload_n 1, 1) := by decide +kernel
theorem dX4_isOver_5 : decode cX4_isOver 5 = .ok (.iaload, 1) := by decide +kernel
theorem dX4_isOver_6 : decode cX4_isOver 6 = .ok (.ifCond .le 24, 3) := by decide +kernel
theorem dX4_isOver_9 : decode cX4_isOver 9 = .ok (.aload_n 0, 1) := by decide +kernel
theorem dX4_isOver_10 : decode cX4_isOver 10 = .ok (.iload_n 1, 1) := by decide +kernel
theorem dX4_isOver_11 : decode cX4_isOver 11 = .ok (.invokevirtual 125, 3) := by decide +kernel
theorem dX4_isOver_14 : decode cX4_isOver 14 = .ok (.iconst (-1), 1) := by decide +kernel
theorem dX4_isOver_15 : decode cX4_isOver 15 = .ok (.if_icmp .ne 15, 3) := by decide +kernel
theorem dX4_isOver_18 : decode cX4_isOver 18 = .ok (.aload_n 0, 1) := by decide +kernel
theorem dX4_isOver_19 : decode cX4_isOver 19 = .ok (.iload_n 1, 1) := by decide +kernel
theorem dX4_isOver_20 : decode cX4_isOver 20 = .ok (.invokevirtual 129, 3) := by decide +kernel
theorem dX4_isOver_23 : decode cX4_isOver 23 = .ok (.ifCond .ne 7, 3) := by decide +kernel
theorem dX4_isOver_26 : decode cX4_isOver 26 = .ok (.iconst 1, 1) := by decide +kernel
theorem dX4_isOver_27 : decode cX4_isOver 27 = .ok (.goto 4, 3) := by decide +kernel
theorem dX4_isOver_30 : decode cX4_isOver 30 = .ok (.iconst 0, 1) := by decide +kernel
theorem dX4_isOver_31 : decode cX4_isOver 31 = .ok (.ireturn, 1) := by decide +kernel
theorem dX4_approves_0 : decode cX4_approves 0 = .ok (.aload_n 0, 1) := by decide +kernel
theorem dX4_approves_1 : decode cX4_approves 1 = .ok (.getfield 17, 3) := by decide +kernel
theorem dX4_approves_4 : decode cX4_approves 4 = .ok (.iload_n 2, 1) := by decide +kernel
theorem dX4_approves_5 : decode cX4_approves 5 = .ok (.baload, 1) := by decide +kernel
theorem dX4_approves_6 : decode cX4_approves 6 = .ok (.istore_n 3, 1) := by decide +kernel
theorem dX4_approves_7 : decode cX4_approves 7 = .ok (.iconst 0, 1) := by decide +kernel
theorem dX4_approves_8 : decode cX4_approves 8 = .ok (.istore 4, 2) := by decide +kernel
theorem dX4_approves_10 : decode cX4_approves 10 = .ok (.iload 4, 2) := by decide +kernel
theorem dX4_approves_12 : decode cX4_approves 12 = .ok (.bipush 6, 2) := by decide +kernel
theorem dX4_approves_14 : decode cX4_approves 14 = .ok (.if_icmp .ge 40, 3) := by decide +kernel
theorem dX4_approves_17 : decode cX4_approves 17 = .ok (.iload_n 3, 1) := by decide +kernel
theorem dX4_approves_18 : decode cX4_approves 18 = .ok (.ifCond .ne 24, 3) := by decide +kernel
theorem dX4_approves_21 : decode cX4_approves 21 = .ok (.aload_n 0, 1) := by decide +kernel
theorem dX4_approves_22 : decode cX4_approves 22 = .ok (.getfield 17, 3) := by decide +kernel
theorem dX4_approves_25 : decode cX4_approves 25 = .ok (.iload 4, 2) := by decide +kernel
theorem dX4_approves_27 : decode cX4_approves 27 = .ok (.baload, 1) := by decide +kernel
theorem dX4_approves_28 : decode cX4_approves 28 = .ok (.ifCond .eq 18, 3) := by decide +kernel
theorem dX4_approves_31 : decode cX4_approves 31 = .ok (.aload_n 0, 1) := by decide +kernel
theorem dX4_approves_32 : decode cX4_approves 32 = .ok (.getfield 20, 3) := by decide +kernel
theorem dX4_approves_35 : decode cX4_approves 35 = .ok (.iload 4, 2) := by decide +kernel
theorem dX4_approves_37 : decode cX4_approves 37 = .ok (.iaload, 1) := by decide +kernel
theorem dX4_approves_38 : decode cX4_approves 38 = .ok (.iload_n 2, 1) := by decide +kernel
theorem dX4_approves_39 : decode cX4_approves 39 = .ok (.if_icmp .ne 7, 3) := by decide +kernel
theorem dX4_approves_42 : decode cX4_approves 42 = .ok (.iconst 1, 1) := by decide +kernel
theorem dX4_approves_43 : decode cX4_approves 43 = .ok (.goto 4, 3) := by decide +kernel
theorem dX4_approves_46 : decode cX4_approves 46 = .ok (.iconst 0, 1) := by decide +kernel
theorem dX4_approves_47 : decode cX4_approves 47 = .ok (.istore_n 3, 1) := by decide +kernel
theorem dX4_approves_48 : decode cX4_approves 48 = .ok (.iinc 4 1, 3) := by decide +kernel
theorem dX4_approves_51 : decode cX4_approves 51 = .ok (.goto (-41), 3) := by decide +kernel
theorem dX4_approves_54 : decode cX4_approves 54 = .ok (.iload_n 3, 1) := by decide +kernel
theorem dX4_approves_55 : decode cX4_approves 55 = .ok (.ifCond .eq 17, 3) := by decide +kernel
theorem dX4_approves_58 : decode cX4_approves 58 = .ok (.iload_n 2, 1) := by decide +kernel
theorem dX4_approves_59 : decode cX4_approves 59 = .ok (.aload_n 0, 1) := by decide +kernel
theorem dX4_approves_60 : decode cX4_approves 60 = .ok (.getfield 33, 3) := by decide +kernel
theorem dX4_approves_63 : decode cX4_approves 63 = .ok (.iload_n 1, 1) := by decide +kernel
theorem dX4_approves_64 : decode cX4_approves 64 = .ok (.iaload, 1) := by decide +kernel
theorem dX4_approves_65 : decode cX4_approves 65 = .ok (.if_icmp .eq 7, 3) := by decide +kernel
theorem dX4_approves_68 : decode cX4_approves 68 = .ok (.iconst 1, 1) := by decide +kernel
theorem dX4_approves_69 : decode cX4_approves 69 = .ok (.goto 4, 3) := by decide +kernel
theorem dX4_approves_72 : decode cX4_approves 72 = .ok (.iconst 0, 1) := by decide +kernel
theorem dX4_approves_73 : decode cX4_approves 73 = .ok (.ireturn, 1) := by decide +kernel
set_option maxRecDepth 20000 in
theorem ggX4_approve_X4_isPaper : GoodIn wsX4_approve wsX4_isPaper := goodIn_r _ [9, 10, 11, 12, 8, 13, 50, 51, 52, 53, 54, 55, 56, 57, 58, 59, 60, 61, 62, 63, 64, 65, 66, 67, 68, 69, 70, 71, 72, 73, 74, 75, 76, 77, 78, 79, 80] (by decide +kernel) (by decide +kernel)
set_option maxRecDepth 20000 in
theorem gX4_approve_X4_isPaper : GoodIn wsX4_approve (wsV RX4 110 RX4 yX4_isPaper wsX4_isPaper) := goodIn_app (goodIn_of _ (by decide +kernel)) ggX4_approve_X4_isPaper
set_option maxRecDepth 20000 in
theorem ggX4_approve_X4_isPerson : GoodIn wsX4_approve wsX4_isPerson := goodIn_r _ [16, 11, 12, 8, 13] (by decide +kernel) (by decide +kernel)
set_option maxRecDepth 20000 in
theorem gX4_approve_X4_isPerson : GoodIn wsX4_approve (va_wsS RX4 103 yX4_isPerson wsX4_isPerson) := goodIn_app (goodIn_of _ (by decide +kernel)) ggX4_approve_X4_isPerson
set_option maxRecDepth 20000 in
theorem ggX4_approve_X4_isIn : GoodIn wsX4_approve wsX4_isIn := goodIn_r _ [13] (by decide +kernel) (by decide +kernel)
set_option maxRecDepth 20000 in
theorem gX4_approve_X4_isIn : GoodIn wsX4_approve (va_wsS RX4 96 yX4_isIn wsX4_isIn) := goodIn_app (goodIn_of _ (by decide +kernel)) ggX4_approve_X4_isIn
set_option maxRecDepth 20000 in
theorem ggX4_approve_X4_isOver : GoodIn wsX4_approve wsX4_isOver := goodIn_r _ [20, 21, 22, 23, 24, 8, 25, 26, 27, 28, 29, 30, 31, 32, 33, 34, 35, 36, 37, 50, 51, 52, 53, 54, 55, 56, 57, 58, 59, 60, 61, 62, 63, 64, 65, 66, 67, 68, 69, 70, 71, 72, 73, 74, 75, 76, 77, 78, 79, 80] (by decide +kernel) (by decide +kernel)
set_option maxRecDepth 20000 in
theorem gX4_approve_X4_isOver : GoodIn wsX4_approve (wsV RX4 135 RX4 yX4_isOver wsX4_isOver) := goodIn_app (goodIn_of _ (by decide +kernel)) ggX4_approve_X4_isOver
set_option maxRecDepth 20000 in
theorem ggX4_approve_X4_approves : GoodIn wsX4_approve wsX4_approves := goodIn_r _ [41, 42, 43, 44, 50, 51, 52, 53, 54, 55, 56, 57, 58, 59, 60, 61, 62, 63, 64, 65, 66, 67, 68, 69, 70, 71, 72, 73, 74, 75, 76, 77, 78, 79, 80] (by decide +kernel) (by decide +kernel)
set_option maxRecDepth 20000 in
theorem gX4_approve_X4_approves : GoodIn wsX4_approve (wsV RX4 138 RX4 yX4_approves wsX4_approves) := goodIn_app (goodIn_of _ (by decide +kernel)) ggX4_approve_X4_approves
set_option maxRecDepth 20000 in
theorem ggX4_approve_X4_can : GoodIn wsX4_approve wsX4_can := goodIn_r _ [48, 49, 50, 51, 52, 53, 54, 55, 56, 57, 58, 59, 60, 61, 62, 63, 64, 65, 66, 67, 68, 69, 70, 71, 72, 73, 74, 75, 76, 77, 78, 79, 80] (by decide +kernel) (by decide +kernel)
set_option maxRecDepth 20000 in
theorem gX4_approve_X4_can : GoodIn wsX4_approve (wsV RX4 107 RX4 yX4_can wsX4_can) := goodIn_app (goodIn_of _ (by decide +kernel)) ggX4_approve_X4_can
theorem dX4_approve_0 : decode cX4_approve 0 = .ok (.aload_n 0, 1) := by decide +kernel
theorem dX4_approve_1 : decode cX4_approve 1 = .ok (.iload_n 1, 1) := by decide +kernel
theorem dX4_approve_2 : decode cX4_approve 2 = .ok (.invokevirtual 110, 3) := by decide +kernel
theorem dX4_approve_5 : decode cX4_approve 5 = .ok (.istore 4, 2) := by decide +kernel
theorem dX4_approve_7 : decode cX4_approve 7 = .ok (.iload_n 2, 1) := by decide +kernel
theorem dX4_approve_8 : decode cX4_approve 8 = .ok (.invokestatic 103, 3) := by decide +kernel
theorem dX4_approve_11 : decode cX4_approve 11 = .ok (.ifCond .eq 23, 3) := by decide +kernel
theorem dX4_approve_14 : decode cX4_approve 14 = .ok (.iload_n 3, 1) := by decide +kernel
theorem dX4_approve_15 : decode cX4_approve 15 = .ok (.aload_n 0, 1) := by decide +kernel
theorem dX4_approve_16 : decode cX4_approve 16 = .ok (.getfield 132, 3) := by decide +kernel
theorem dX4_approve_19 : decode cX4_approve 19 = .ok (.iconst 1, 1) := by decide +kernel
theorem dX4_approve_20 : decode cX4_approve 20 = .ok (.iadd, 1) := by decide +kernel
theorem dX4_approve_21 : decode cX4_approve 21 = .ok (.sipush 1000, 3) := by decide +kernel
theorem dX4_approve_24 : decode cX4_approve 24 = .ok (.invokestatic 96, 3) := by decide +kernel
theorem dX4_approve_27 : decode cX4_approve 27 = .ok (.ifCond .eq 7, 3) := by decide +kernel
theorem dX4_approve_30 : decode cX4_approve 30 = .ok (.iconst 1, 1) := by decide +kernel
theorem dX4_approve_31 : decode cX4_approve 31 = .ok (.goto 4, 3) := by decide +kernel
theorem dX4_approve_34 : decode cX4_approve 34 = .ok (.iconst 0, 1) := by decide +kernel
theorem dX4_approve_35 : decode cX4_approve 35 = .ok (.istore 5, 2) := by decide +kernel
theorem dX4_approve_37 : decode cX4_approve 37 = .ok (.iload 4, 2) := by decide +kernel
theorem dX4_approve_39 : decode cX4_approve 39 = .ok (.ifCond .eq 47, 3) := by decide +kernel
theorem dX4_approve_42 : decode cX4_approve 42 = .ok (.iload 5, 2) := by decide +kernel
theorem dX4_approve_44 : decode cX4_approve 44 = .ok (.ifCond .eq 42, 3) := by decide +kernel
theorem dX4_approve_47 : decode cX4_approve 47 = .ok (.aload_n 0, 1) := by decide +kernel
theorem dX4_approve_48 : decode cX4_approve 48 = .ok (.getfield 30, 3) := by decide +kernel
theorem dX4_approve_51 : decode cX4_approve 51 = .ok (.iload_n 1, 1) := by decide +kernel
theorem dX4_approve_52 : decode cX4_approve 52 = .ok (.baload, 1) := by decide +kernel
theorem dX4_approve_53 : decode cX4_approve 53 = .ok (.ifCond .eq 33, 3) := by decide +kernel
theorem dX4_approve_56 : decode cX4_approve 56 = .ok (.aload_n 0, 1) := by decide +kernel
theorem dX4_approve_57 : decode cX4_approve 57 = .ok (.iload_n 1, 1) := by decide +kernel
theorem dX4_approve_58 : decode cX4_approve 58 = .ok (.invokevirtual 135, 3) := by decide +kernel
theorem dX4_approve_61 : decode cX4_approve 61 = .ok (.ifCond .eq 25, 3) := by decide +kernel
theorem dX4_approve_64 : decode cX4_approve 64 = .ok (.aload_n 0, 1) := by decide +kernel
theorem dX4_approve_65 : decode cX4_approve 65 = .ok (.getfield 57, 3) := by decide +kernel
theorem dX4_approve_68 : decode cX4_approve 68 = .ok (.iload_n 1, 1) := by decide +kernel
theorem dX4_approve_69 : decode cX4_approve 69 = .ok (.baload, 1) := by decide +kernel
theorem dX4_approve_70 : decode cX4_approve 70 = .ok (.ifCond .ne 16, 3) := by decide +kernel
theorem dX4_approve_73 : decode cX4_approve 73 = .ok (.aload_n 0, 1) := by decide +kernel
theorem dX4_approve_74 : decode cX4_approve 74 = .ok (.iload_n 1, 1) := by decide +kernel
theorem dX4_approve_75 : decode cX4_approve 75 = .ok (.iload_n 2, 1) := by decide +kernel
theorem dX4_approve_76 : decode cX4_approve 76 = .ok (.invokevirtual 138, 3) := by decide +kernel
theorem dX4_approve_79 : decode cX4_approve 79 = .ok (.ifCond .eq 7, 3) := by decide +kernel
theorem dX4_approve_82 : decode cX4_approve 82 = .ok (.iconst 1, 1) := by decide +kernel
theorem dX4_approve_83 : decode cX4_approve 83 = .ok (.goto 4, 3) := by decide +kernel
theorem dX4_approve_86 : decode cX4_approve 86 = .ok (.iconst 0, 1) := by decide +kernel
theorem dX4_approve_87 : decode cX4_approve 87 = .ok (.istore 6, 2) := by decide +kernel
theorem dX4_approve_89 : decode cX4_approve 89 = .ok (.aload_n 0, 1) := by decide +kernel
theorem dX4_approve_90 : decode cX4_approve 90 = .ok (.iload 4, 2) := by decide +kernel
theorem dX4_approve_92 : decode cX4_approve 92 = .ok (.ifCond .ne 7, 3) := by decide +kernel
theorem dX4_approve_95 : decode cX4_approve 95 = .ok (.iconst 1, 1) := by decide +kernel
theorem dX4_approve_96 : decode cX4_approve 96 = .ok (.goto 22, 3) := by decide +kernel
theorem dX4_approve_99 : decode cX4_approve 99 = .ok (.iload 5, 2) := by decide +kernel
theorem dX4_approve_101 : decode cX4_approve 101 = .ok (.ifCond .ne 7, 3) := by decide +kernel
theorem dX4_approve_104 : decode cX4_approve 104 = .ok (.iconst 2, 1) := by decide +kernel
theorem dX4_approve_105 : decode cX4_approve 105 = .ok (.goto 13, 3) := by decide +kernel
theorem dX4_approve_108 : decode cX4_approve 108 = .ok (.iload 6, 2) := by decide +kernel
theorem dX4_approve_110 : decode cX4_approve 110 = .ok (.ifCond .eq 7, 3) := by decide +kernel
theorem dX4_approve_113 : decode cX4_approve 113 = .ok (.iconst 0, 1) := by decide +kernel
theorem dX4_approve_114 : decode cX4_approve 114 = .ok (.goto 4, 3) := by decide +kernel
theorem dX4_approve_117 : decode cX4_approve 117 = .ok (.iconst 3, 1) := by decide +kernel
theorem dX4_approve_118 : decode cX4_approve 118 = .ok (.invokevirtual 107, 3) := by decide +kernel
theorem dX4_approve_121 : decode cX4_approve 121 = .ok (.ifCond .eq 17, 3) := by decide +kernel
theorem dX4_approve_124 : decode cX4_approve 124 = .ok (.aload_n 0, 1) := by decide +kernel
theorem dX4_approve_125 : decode cX4_approve 125 = .ok (.getfield 57, 3) := by decide +kernel
theorem dX4_approve_128 : decode cX4_approve 128 = .ok (.iload_n 1, 1) := by decide +kernel
theorem dX4_approve_129 : decode cX4_approve 129 = .ok (.iconst 1, 1) := by decide +kernel
theorem dX4_approve_130 : decode cX4_approve 130 = .ok (.bastore, 1) := by decide +kernel
theorem dX4_approve_131 : decode cX4_approve 131 = .ok (.aload_n 0, 1) := by decide +kernel
theorem dX4_approve_132 : decode cX4_approve 132 = .ok (.getfield 60, 3) := by decide +kernel
theorem dX4_approve_135 : decode cX4_approve 135 = .ok (.iload_n 1, 1) := by decide +kernel
theorem dX4_approve_136 : decode cX4_approve 136 = .ok (.iload_n 3, 1) := by decide +kernel
theorem dX4_approve_137 : decode cX4_approve 137 = .ok (.iastore, 1) := by decide +kernel
theorem dX4_approve_138 : decode cX4_approve 138 = .ok (.return_, 1) := by decide +kernel
theorem dX4_nextReader_0 : decode cX4_nextReader 0 = .ok (.iconst (-1), 1) := by decide +kernel
theorem dX4_nextReader_1 : decode cX4_nextReader 1 = .ok (.istore_n 2, 1) := by decide +kernel
theorem dX4_nextReader_2 : decode cX4_nextReader 2 = .ok (.iconst 5, 1) := by decide +kernel
theorem dX4_nextReader_3 : decode cX4_nextReader 3 = .ok (.istore_n 3, 1) := by decide +kernel
theorem dX4_nextReader_4 : decode cX4_nextReader 4 = .ok (.iload_n 3, 1) := by decide +kernel
theorem dX4_nextReader_5 : decode cX4_nextReader 5 = .ok (.ifCond .lt 43, 3) := by decide +kernel
theorem dX4_nextReader_8 : decode cX4_nextReader 8 = .ok (.aload_n 0, 1) := by decide +kernel
theorem dX4_nextReader_9 : decode cX4_nextReader 9 = .ok (.getfield 63, 3) := by decide +kernel
theorem dX4_nextReader_12 : decode cX4_nextReader 12 = .ok (.bipush 6, 2) := by decide +kernel
theorem dX4_nextReader_14 : decode cX4_nextReader 14 = .ok (.iload_n 1, 1) := by decide +kernel
theorem dX4_nextReader_15 : decode cX4_nextReader 15 = .ok (.imul, 1) := by decide +kernel
theorem dX4_nextReader_16 : decode cX4_nextReader 16 = .ok (.iload_n 3, 1) := by decide +kernel
theorem dX4_nextReader_17 : decode cX4_nextReader 17 = .ok (.iadd, 1) := by decide +kernel
theorem dX4_nextReader_18 : decode cX4_nextReader 18 = .ok (.baload, 1) := by decide +kernel
theorem dX4_nextReader_19 : decode cX4_nextReader 19 = .ok (.ifCond .eq 21, 3) := by decide +kernel
theorem dX4_nextReader_22 : decode cX4_nextReader 22 = .ok (.aload_n 0, 1) := by decide +kernel
theorem dX4_nextReader_23 : decode cX4_nextReader 23 = .ok (.getfield 66, 3) := by decide +kernel
theorem dX4_nextReader_26 : decode cX4_nextReader 26 = .ok (.bipush 6, 2) := by decide +kernel
theorem dX4_nextReader_28 : decode cX4_nextReader 28 = .ok (.iload_n 1, 1) := by decide +kernel
theorem dX4_nextReader_29 : decode cX4_nextReader 29 = .ok (.imul, 1) := by decide +kernel
theorem dX4_nextReader_30 : decode cX4_nextReader 30 = .ok (.iload_n 3, 1) := by decide +kernel
theorem dX4_nextReader_31 : decode cX4_nextReader 31 = .ok (.iadd, 1) := by decide +kernel
theorem dX4_nextReader_32 : decode cX4_nextReader 32 = .ok (.baload, 1) := by decide +kernel
theorem dX4_nextReader_33 : decode cX4_nextReader 33 = .ok (.ifCond .ne 7, 3) := by decide +kernel
theorem dX4_nextReader_36 : decode cX4_nextReader 36 = .ok (.iload_n 3, 1) := by decide +kernel
theorem dX4_nextReader_37 : decode cX4_nextReader 37 = .ok (.goto 4, 3) := by decide +kernel
theorem dX4_nextReader_40 : decode cX4_nextReader 40 = .ok (.iload_n 2, 1) := by decide +kernel
theorem dX4_nextReader_41 : decode cX4_nextReader 41 = .ok (.istore_n 2, 1) := by decide +kernel
theorem dX4_nextReader_42 : decode cX4_nextReader 42 = .ok (.iinc 3 (-1), 3) := by decide +kernel
theorem dX4_nextReader_45 : decode cX4_nextReader 45 = .ok (.goto (-41), 3) := by decide +kernel
theorem dX4_nextReader_48 : decode cX4_nextReader 48 = .ok (.iload_n 2, 1) := by decide +kernel
theorem dX4_nextReader_49 : decode cX4_nextReader 49 = .ok (.ireturn, 1) := by decide +kernel
set_option maxRecDepth 20000 in
theorem ggX4_confirm_X4_isPaper : GoodIn wsX4_confirm wsX4_isPaper := goodIn_r _ [9, 10, 11, 12, 8, 13, 26, 27, 28, 29, 30, 31, 32, 33, 34, 35, 36, 37, 38, 39, 40, 41, 42, 43, 44, 45, 46, 47, 48, 49, 50, 51, 52, 53, 54, 55, 56] (by decide +kernel) (by decide +kernel)
set_option maxRecDepth 20000 in
theorem gX4_confirm_X4_isPaper : GoodIn wsX4_confirm (wsV RX4 110 RX4 yX4_isPaper wsX4_isPaper) := goodIn_app (goodIn_of _ (by decide +kernel)) ggX4_confirm_X4_isPaper
set_option maxRecDepth 20000 in
theorem ggX4_confirm_X4_isPerson : GoodIn wsX4_confirm wsX4_isPerson := goodIn_r _ [16, 11, 12, 8, 13] (by decide +kernel) (by decide +kernel)
set_option maxRecDepth 20000 in
theorem gX4_confirm_X4_isPerson : GoodIn wsX4_confirm (va_wsS RX4 103 yX4_isPerson wsX4_isPerson) := goodIn_app (goodIn_of _ (by decide +kernel)) ggX4_confirm_X4_isPerson
set_option maxRecDepth 20000 in
theorem ggX4_confirm_X4_can : GoodIn wsX4_confirm wsX4_can := goodIn_r _ [20, 21, 26, 27, 28, 29, 30, 31, 32, 33, 34, 35, 36, 37, 38, 39, 40, 41, 42, 43, 44, 45, 46, 47, 48, 49, 50, 51, 52, 53, 54, 55, 56] (by decide +kernel) (by decide +kernel)
set_option maxRecDepth 20000 in
theorem gX4_confirm_X4_can : GoodIn wsX4_confirm (wsV RX4 107 RX4 yX4_can wsX4_can) := goodIn_app (goodIn_of _ (by decide +kernel)) ggX4_confirm_X4_can
set_option maxRecDepth 20000 in
theorem ggX4_confirm_X4_count : GoodIn wsX4_confirm wsX4_count := goodIn_r _ [25] (by decide +kernel) (by decide +kernel)
set_option maxRecDepth 20000 in
theorem gX4_confirm_X4_count : GoodIn wsX4_confirm (wsV RX4 121 RX4 yX4_count wsX4_count) := goodIn_app (goodIn_of _ (by decide +kernel)) ggX4_confirm_X4_count
theorem dX4_confirm_0 : decode cX4_confirm 0 = .ok (.aload_n 0, 1) := by decide +kernel
theorem dX4_confirm_1 : decode cX4_confirm 1 = .ok (.iload_n 1, 1) := by decide +kernel
theorem dX4_confirm_2 : decode cX4_confirm 2 = .ok (.invokevirtual 110, 3) := by decide +kernel
theorem dX4_confirm_5 : decode cX4_confirm 5 = .ok (.istore_n 3, 1) := by decide +kernel
theorem dX4_confirm_6 : decode cX4_confirm 6 = .ok (.iload_n 2, 1) := by decide +kernel
theorem dX4_confirm_7 : decode cX4_confirm 7 = .ok (.invokestatic 103, 3) := by decide +kernel
theorem dX4_confirm_10 : decode cX4_confirm 10 = .ok (.istore 4, 2) := by decide +kernel
theorem dX4_confirm_12 : decode cX4_confirm 12 = .ok (.iload_n 3, 1) := by decide +kernel
theorem dX4_confirm_13 : decode cX4_confirm 13 = .ok (.ifCond .eq 58, 3) := by decide +kernel
theorem dX4_confirm_16 : decode cX4_confirm 16 = .ok (.iload 4, 2) := by decide +kernel
theorem dX4_confirm_18 : decode cX4_confirm 18 = .ok (.ifCond .eq 53, 3) := by decide +kernel
theorem dX4_confirm_21 : decode cX4_confirm 21 = .ok (.aload_n 0, 1) := by decide +kernel
theorem dX4_confirm_22 : decode cX4_confirm 22 = .ok (.getfield 30, 3) := by decide +kernel
theorem dX4_confirm_25 : decode cX4_confirm 25 = .ok (.iload_n 1, 1) := by decide +kernel
theorem dX4_confirm_26 : decode cX4_confirm 26 = .ok (.baload, 1) := by decide +kernel
theorem dX4_confirm_27 : decode cX4_confirm 27 = .ok (.ifCond .eq 44, 3) := by decide +kernel
theorem dX4_confirm_30 : decode cX4_confirm 30 = .ok (.aload_n 0, 1) := by decide +kernel
theorem dX4_confirm_31 : decode cX4_confirm 31 = .ok (.getfield 57, 3) := by decide +kernel
theorem dX4_confirm_34 : decode cX4_confirm 34 = .ok (.iload_n 1, 1) := by decide +kernel
theorem dX4_confirm_35 : decode cX4_confirm 35 = .ok (.baload, 1) := by decide +kernel
theorem dX4_confirm_36 : decode cX4_confirm 36 = .ok (.ifCond .eq 35, 3) := by decide +kernel
theorem dX4_confirm_39 : decode cX4_confirm 39 = .ok (.aload_n 0, 1) := by decide +kernel
theorem dX4_confirm_40 : decode cX4_confirm 40 = .ok (.getfield 63, 3) := by decide +kernel
theorem dX4_confirm_43 : decode cX4_confirm 43 = .ok (.bipush 6, 2) := by decide +kernel
theorem dX4_confirm_45 : decode cX4_confirm 45 = .ok (.iload_n 1, 1) := by decide +kernel
theorem dX4_confirm_46 : decode cX4_confirm 46 = .ok (.imul, 1) := by decide +kernel
theorem dX4_confirm_47 : decode cX4_confirm 47 = .ok (.iload_n 2, 1) := by decide +kernel
theorem dX4_confirm_48 : decode cX4_confirm 48 = .ok (.iadd, 1) := by decide +kernel
theorem dX4_confirm_49 : decode cX4_confirm 49 = .ok (.baload, 1) := by decide +kernel
theorem dX4_confirm_50 : decode cX4_confirm 50 = .ok (.ifCond .eq 21, 3) := by decide +kernel
theorem dX4_confirm_53 : decode cX4_confirm 53 = .ok (.aload_n 0, 1) := by decide +kernel
theorem dX4_confirm_54 : decode cX4_confirm 54 = .ok (.getfield 66, 3) := by decide +kernel
theorem dX4_confirm_57 : decode cX4_confirm 57 = .ok (.bipush 6, 2) := by decide +kernel
theorem dX4_confirm_59 : decode cX4_confirm 59 = .ok (.iload_n 1, 1) := by decide +kernel
theorem dX4_confirm_60 : decode cX4_confirm 60 = .ok (.imul, 1) := by decide +kernel
theorem dX4_confirm_61 : decode cX4_confirm 61 = .ok (.iload_n 2, 1) := by decide +kernel
theorem dX4_confirm_62 : decode cX4_confirm 62 = .ok (.iadd, 1) := by decide +kernel
theorem dX4_confirm_63 : decode cX4_confirm 63 = .ok (.baload, 1) := by decide +kernel
theorem dX4_confirm_64 : decode cX4_confirm 64 = .ok (.ifCond .ne 7, 3) := by decide +kernel
theorem dX4_confirm_67 : decode cX4_confirm 67 = .ok (.iconst 1, 1) := by decide +kernel
theorem dX4_confirm_68 : decode cX4_confirm 68 = .ok (.goto 4, 3) := by decide +kernel
theorem dX4_confirm_71 : decode cX4_confirm 71 = .ok (.iconst 0, 1) := by decide +kernel
theorem dX4_confirm_72 : decode cX4_confirm 72 = .ok (.istore 5, 2) := by decide +kernel
theorem dX4_confirm_74 : decode cX4_confirm 74 = .ok (.aload_n 0, 1) := by decide +kernel
theorem dX4_confirm_75 : decode cX4_confirm 75 = .ok (.iload_n 3, 1) := by decide +kernel
theorem dX4_confirm_76 : decode cX4_confirm 76 = .ok (.ifCond .ne 7, 3) := by decide +kernel
theorem dX4_confirm_79 : decode cX4_confirm 79 = .ok (.iconst 1, 1) := by decide +kernel
theorem dX4_confirm_80 : decode cX4_confirm 80 = .ok (.goto 22, 3) := by decide +kernel
theorem dX4_confirm_83 : decode cX4_confirm 83 = .ok (.iload 4, 2) := by decide +kernel
theorem dX4_confirm_85 : decode cX4_confirm 85 = .ok (.ifCond .ne 7, 3) := by decide +kernel
theorem dX4_confirm_88 : decode cX4_confirm 88 = .ok (.iconst 2, 1) := by decide +kernel
theorem dX4_confirm_89 : decode cX4_confirm 89 = .ok (.goto 13, 3) := by decide +kernel
theorem dX4_confirm_92 : decode cX4_confirm 92 = .ok (.iload 5, 2) := by decide +kernel
theorem dX4_confirm_94 : decode cX4_confirm 94 = .ok (.ifCond .eq 7, 3) := by decide +kernel
theorem dX4_confirm_97 : decode cX4_confirm 97 = .ok (.iconst 0, 1) := by decide +kernel
theorem dX4_confirm_98 : decode cX4_confirm 98 = .ok (.goto 4, 3) := by decide +kernel
theorem dX4_confirm_101 : decode cX4_confirm 101 = .ok (.iconst 3, 1) := by decide +kernel
theorem dX4_confirm_102 : decode cX4_confirm 102 = .ok (.invokevirtual 107, 3) := by decide +kernel
theorem dX4_confirm_105 : decode cX4_confirm 105 = .ok (.ifCond .ne 5, 3) := by decide +kernel
theorem dX4_confirm_108 : decode cX4_confirm 108 = .ok (.iconst 0, 1) := by decide +kernel
theorem dX4_confirm_109 : decode cX4_confirm 109 = .ok (.ireturn, 1) := by decide +kernel
theorem dX4_confirm_110 : decode cX4_confirm 110 = .ok (.aload_n 0, 1) := by decide +kernel
theorem dX4_confirm_111 : decode cX4_confirm 111 = .ok (.getfield 66, 3) := by decide +kernel
theorem dX4_confirm_114 : decode cX4_confirm 114 = .ok (.bipush 6, 2) := by decide +kernel
theorem dX4_confirm_116 : decode cX4_confirm 116 = .ok (.iload_n 1, 1) := by decide +kernel
theorem dX4_confirm_117 : decode cX4_confirm 117 = .ok (.imul, 1) := by decide +kernel
theorem dX4_confirm_118 : decode cX4_confirm 118 = .ok (.iload_n 2, 1) := by decide +kernel
theorem dX4_confirm_119 : decode cX4_confirm 119 = .ok (.iadd, 1) := by decide +kernel
theorem dX4_confirm_120 : decode cX4_confirm 120 = .ok (.iconst 1, 1) := by decide +kernel
theorem dX4_confirm_121 : decode cX4_confirm 121 = .ok (.bastore, 1) := by decide +kernel
theorem dX4_confirm_122 : decode cX4_confirm 122 = .ok (.aload_n 0, 1) := by decide +kernel
theorem dX4_confirm_123 : decode cX4_confirm 123 = .ok (.aload_n 0, 1) := by decide +kernel
theorem dX4_confirm_124 : decode cX4_confirm 124 = .ok (.getfield 63, 3) := by decide +kernel
theorem dX4_confirm_127 : decode cX4_confirm 127 = .ok (.bipush 6, 2) := by decide +kernel
theorem dX4_confirm_129 : decode cX4_confirm 129 = .ok (.iload_n 1, 1) := by decide +kernel
theorem dX4_confirm_130 : decode cX4_confirm 130 = .ok (.imul, 1) := by decide +kernel
theorem dX4_confirm_131 : decode cX4_confirm 131 = .ok (.bipush 6, 2) := by decide +kernel
theorem dX4_confirm_133 : decode cX4_confirm 133 = .ok (.invokevirtual 121, 3) := by decide +kernel
theorem dX4_confirm_136 : decode cX4_confirm 136 = .ok (.aload_n 0, 1) := by decide +kernel
theorem dX4_confirm_137 : decode cX4_confirm 137 = .ok (.aload_n 0, 1) := by decide +kernel
theorem dX4_confirm_138 : decode cX4_confirm 138 = .ok (.getfield 66, 3) := by decide +kernel
theorem dX4_confirm_141 : decode cX4_confirm 141 = .ok (.bipush 6, 2) := by decide +kernel
theorem dX4_confirm_143 : decode cX4_confirm 143 = .ok (.iload_n 1, 1) := by decide +kernel
theorem dX4_confirm_144 : decode cX4_confirm 144 = .ok (.imul, 1) := by decide +kernel
theorem dX4_confirm_145 : decode cX4_confirm 145 = .ok (.bipush 6, 2) := by decide +kernel
theorem dX4_confirm_147 : decode cX4_confirm 147 = .ok (.invokevirtual 121, 3) := by decide +kernel
theorem dX4_confirm_150 : decode cX4_confirm 150 = .ok (.isub, 1) := by decide +kernel
theorem dX4_confirm_151 : decode cX4_confirm 151 = .ok (.ireturn, 1) := by decide +kernel
theorem dX4_comes_0 : decode cX4_comes 0 = .ok (.aload_n 0, 1) := by decide +kernel
theorem dX4_comes_1 : decode cX4_comes 1 = .ok (.getfield 72, 3) := by decide +kernel
theorem dX4_comes_4 : decode cX4_comes 4 = .ok (.sipush 400, 3) := by decide +kernel
theorem dX4_comes_7 : decode cX4_comes 7 = .ok (.iload_n 1, 1) := by decide +kernel
theorem dX4_comes_8 : decode cX4_comes 8 = .ok (.imul, 1) := by decide +kernel
theorem dX4_comes_9 : decode cX4_comes 9 = .ok (.aload_n 0, 1) := by decide +kernel
theorem dX4_comes_10 : decode cX4_comes 10 = .ok (.getfield 69, 3) := by decide +kernel
theorem dX4_comes_13 : decode cX4_comes 13 = .ok (.iload_n 1, 1) := by decide +kernel
theorem dX4_comes_14 : decode cX4_comes 14 = .ok (.iaload, 1) := by decide +kernel
theorem dX4_comes_15 : decode cX4_comes 15 = .ok (.iadd, 1) := by decide +kernel
theorem dX4_comes_16 : decode cX4_comes 16 = .ok (.aload_n 0, 1) := by decide +kernel
theorem dX4_comes_17 : decode cX4_comes 17 = .ok (.getfield 132, 3) := by decide +kernel
theorem dX4_comes_20 : decode cX4_comes 20 = .ok (.iastore, 1) := by decide +kernel
theorem dX4_comes_21 : decode cX4_comes 21 = .ok (.aload_n 0, 1) := by decide +kernel
theorem dX4_comes_22 : decode cX4_comes 22 = .ok (.getfield 75, 3) := by decide +kernel
theorem dX4_comes_25 : decode cX4_comes 25 = .ok (.sipush 400, 3) := by decide +kernel
theorem dX4_comes_28 : decode cX4_comes 28 = .ok (.iload_n 1, 1) := by decide +kernel
theorem dX4_comes_29 : decode cX4_comes 29 = .ok (.imul, 1) := by decide +kernel
theorem dX4_comes_30 : decode cX4_comes 30 = .ok (.aload_n 0, 1) := by decide +kernel
theorem dX4_comes_31 : decode cX4_comes 31 = .ok (.getfield 69, 3) := by decide +kernel
theorem dX4_comes_34 : decode cX4_comes 34 = .ok (.iload_n 1, 1) := by decide +kernel
theorem dX4_comes_35 : decode cX4_comes 35 = .ok (.iaload, 1) := by decide +kernel
theorem dX4_comes_36 : decode cX4_comes 36 = .ok (.iadd, 1) := by decide +kernel
theorem dX4_comes_37 : decode cX4_comes 37 = .ok (.aload_n 0, 1) := by decide +kernel
theorem dX4_comes_38 : decode cX4_comes 38 = .ok (.getfield 36, 3) := by decide +kernel
theorem dX4_comes_41 : decode cX4_comes 41 = .ok (.iload_n 1, 1) := by decide +kernel
theorem dX4_comes_42 : decode cX4_comes 42 = .ok (.iaload, 1) := by decide +kernel
theorem dX4_comes_43 : decode cX4_comes 43 = .ok (.iastore, 1) := by decide +kernel
theorem dX4_comes_44 : decode cX4_comes 44 = .ok (.aload_n 0, 1) := by decide +kernel
theorem dX4_comes_45 : decode cX4_comes 45 = .ok (.getfield 69, 3) := by decide +kernel
theorem dX4_comes_48 : decode cX4_comes 48 = .ok (.iload_n 1, 1) := by decide +kernel
theorem dX4_comes_49 : decode cX4_comes 49 = .ok (.dup2, 1) := by decide +kernel
theorem dX4_comes_50 : decode cX4_comes 50 = .ok (.iaload, 1) := by decide +kernel
theorem dX4_comes_51 : decode cX4_comes 51 = .ok (.iconst 1, 1) := by decide +kernel
theorem dX4_comes_52 : decode cX4_comes 52 = .ok (.iadd, 1) := by decide +kernel
theorem dX4_comes_53 : decode cX4_comes 53 = .ok (.iastore, 1) := by decide +kernel
theorem dX4_comes_54 : decode cX4_comes 54 = .ok (.aload_n 0, 1) := by decide +kernel
theorem dX4_comes_55 : decode cX4_comes 55 = .ok (.getfield 30, 3) := by decide +kernel
theorem dX4_comes_58 : decode cX4_comes 58 = .ok (.iload_n 1, 1) := by decide +kernel
theorem dX4_comes_59 : decode cX4_comes 59 = .ok (.iconst 0, 1) := by decide +kernel
theorem dX4_comes_60 : decode cX4_comes 60 = .ok (.bastore, 1) := by decide +kernel
theorem dX4_comes_61 : decode cX4_comes 61 = .ok (.aload_n 0, 1) := by decide +kernel
theorem dX4_comes_62 : decode cX4_comes 62 = .ok (.getfield 78, 3) := by decide +kernel
theorem dX4_comes_65 : decode cX4_comes 65 = .ok (.iload_n 1, 1) := by decide +kernel
theorem dX4_comes_66 : decode cX4_comes 66 = .ok (.iconst 0, 1) := by decide +kernel
theorem dX4_comes_67 : decode cX4_comes 67 = .ok (.bastore, 1) := by decide +kernel
theorem dX4_comes_68 : decode cX4_comes 68 = .ok (.aload_n 0, 1) := by decide +kernel
theorem dX4_comes_69 : decode cX4_comes 69 = .ok (.getfield 81, 3) := by decide +kernel
theorem dX4_comes_72 : decode cX4_comes 72 = .ok (.iload_n 1, 1) := by decide +kernel
theorem dX4_comes_73 : decode cX4_comes 73 = .ok (.aload_n 0, 1) := by decide +kernel
theorem dX4_comes_74 : decode cX4_comes 74 = .ok (.getfield 132, 3) := by decide +kernel
theorem dX4_comes_77 : decode cX4_comes 77 = .ok (.iastore, 1) := by decide +kernel
theorem dX4_comes_78 : decode cX4_comes 78 = .ok (.iconst 0, 1) := by decide +kernel
theorem dX4_comes_79 : decode cX4_comes 79 = .ok (.istore_n 2, 1) := by decide +kernel
theorem dX4_comes_80 : decode cX4_comes 80 = .ok (.iload_n 2, 1) := by decide +kernel
theorem dX4_comes_81 : decode cX4_comes 81 = .ok (.aload_n 0, 1) := by decide +kernel
theorem dX4_comes_82 : decode cX4_comes 82 = .ok (.getfield 100, 3) := by decide +kernel
theorem dX4_comes_85 : decode cX4_comes 85 = .ok (.if_icmp .ge 52, 3) := by decide +kernel
theorem dX4_comes_88 : decode cX4_comes 88 = .ok (.aload_n 0, 1) := by decide +kernel
theorem dX4_comes_89 : decode cX4_comes 89 = .ok (.getfield 78, 3) := by decide +kernel
theorem dX4_comes_92 : decode cX4_comes 92 = .ok (.iload_n 2, 1) := by decide +kernel
theorem dX4_comes_93 : decode cX4_comes 93 = .ok (.aload_n 0, 1) := by decide +kernel
theorem dX4_comes_94 : decode cX4_comes 94 = .ok (.getfield 78, 3) := by decide +kernel
theorem dX4_comes_97 : decode cX4_comes 97 = .ok (.iload_n 2, 1) := by decide +kernel
theorem dX4_comes_98 : decode cX4_comes 98 = .ok (.baload, 1) := by decide +kernel
theorem dX4_comes_99 : decode cX4_comes 99 = .ok (.ifCond .ne 26, 3) := by decide +kernel
theorem dX4_comes_102 : decode cX4_comes 102 = .ok (.aload_n 0, 1) := by decide +kernel
theorem dX4_comes_103 : decode cX4_comes 103 = .ok (.getfield 27, 3) := by decide +kernel
theorem dX4_comes_106 : decode cX4_comes 106 = .ok (.bipush 8, 2) := by decide +kernel
theorem dX4_comes_108 : decode cX4_comes 108 = .ok (.iload_n 2, 1) := by decide +kernel
theorem dX4_comes_109 : decode cX4_comes 109 = .ok (.imul, 1) := by decide +kernel
theorem dX4_comes_110 : decode cX4_comes 110 = .ok (.iload_n 1, 1) := by decide +kernel
theorem dX4_comes_111 : decode cX4_comes 111 = .ok (.iadd, 1) := by decide +kernel
theorem dX4_comes_112 : decode cX4_comes 112 = .ok (.baload, 1) := by decide +kernel
theorem dX4_comes_113 : decode cX4_comes 113 = .ok (.ifCond .eq 16, 3) := by decide +kernel
theorem dX4_comes_116 : decode cX4_comes 116 = .ok (.aload_n 0, 1) := by decide +kernel
theorem dX4_comes_117 : decode cX4_comes 117 = .ok (.getfield 69, 3) := by decide +kernel
theorem dX4_comes_120 : decode cX4_comes 120 = .ok (.iload_n 2, 1) := by decide +kernel
theorem dX4_comes_121 : decode cX4_comes 121 = .ok (.iaload, 1) := by decide +kernel
theorem dX4_comes_122 : decode cX4_comes 122 = .ok (.ifCond .le 7, 3) := by decide +kernel
theorem dX4_comes_125 : decode cX4_comes 125 = .ok (.iconst 1, 1) := by decide +kernel
theorem dX4_comes_126 : decode cX4_comes 126 = .ok (.goto 4, 3) := by decide +kernel
theorem dX4_comes_129 : decode cX4_comes 129 = .ok (.iconst 0, 1) := by decide +kernel
theorem dX4_comes_130 : decode cX4_comes 130 = .ok (.bastore, 1) := by decide +kernel
theorem dX4_comes_131 : decode cX4_comes 131 = .ok (.iinc 2 1, 3) := by decide +kernel
theorem dX4_comes_134 : decode cX4_comes 134 = .ok (.goto (-54), 3) := by decide +kernel
theorem dX4_comes_137 : decode cX4_comes 137 = .ok (.return_, 1) := by decide +kernel
set_option maxRecDepth 20000 in
theorem ggX4_pass_X4_isIn : GoodIn wsX4_pass wsX4_isIn := goodIn_r _ [9] (by decide +kernel) (by decide +kernel)
set_option maxRecDepth 20000 in
theorem gX4_pass_X4_isIn : GoodIn wsX4_pass (va_wsS RX4 96 yX4_isIn wsX4_isIn) := goodIn_app (goodIn_of _ (by decide +kernel)) ggX4_pass_X4_isIn
set_option maxRecDepth 20000 in
theorem ggX4_pass_X4_can : GoodIn wsX4_pass wsX4_can := goodIn_r _ [13, 14, 32, 33, 34, 35, 36, 37, 38, 39, 40, 41, 42, 43, 44, 45, 46, 47, 48, 49, 50, 51, 52, 53, 54, 55, 56, 57, 58, 59, 60, 61, 62] (by decide +kernel) (by decide +kernel)
set_option maxRecDepth 20000 in
theorem gX4_pass_X4_can : GoodIn wsX4_pass (wsV RX4 107 RX4 yX4_can wsX4_can) := goodIn_app (goodIn_of _ (by decide +kernel)) ggX4_pass_X4_can
set_option maxRecDepth 20000 in
theorem ggX4_pass_X4_nextReader : GoodIn wsX4_pass wsX4_nextReader := goodIn_r _ [18, 19, 20, 32, 33, 34, 35, 36, 37, 38, 39, 40, 41, 42, 43, 44, 45, 46, 47, 48, 49, 50, 51, 52, 53, 54, 55, 56, 57, 58, 59, 60, 61, 62] (by decide +kernel) (by decide +kernel)
set_option maxRecDepth 20000 in
theorem gX4_pass_X4_nextReader : GoodIn wsX4_pass (wsV RX4 142 RX4 yX4_nextReader wsX4_nextReader) := goodIn_app (goodIn_of _ (by decide +kernel)) ggX4_pass_X4_nextReader
set_option maxRecDepth 20000 in
theorem ggX4_pass_X4_comes : GoodIn wsX4_pass wsX4_comes := goodIn_r _ [24, 25, 26, 1, 27, 28, 3, 29, 30, 2, 31, 32, 33, 34, 35, 36, 37, 38, 39, 40, 41, 42, 43, 44, 45, 46, 47, 48, 49, 50, 51, 52, 53, 54, 55, 56, 57, 58, 59, 60, 61, 62] (by decide +kernel) (by decide +kernel)
set_option maxRecDepth 20000 in
theorem gX4_pass_X4_comes : GoodIn wsX4_pass (wsV RX4 145 RX4 yX4_comes wsX4_comes) := goodIn_app (goodIn_of _ (by decide +kernel)) ggX4_pass_X4_comes
theorem dX4_pass_0 : decode cX4_pass 0 = .ok (.aload_n 0, 1) := by decide +kernel
theorem dX4_pass_1 : decode cX4_pass 1 = .ok (.iload_n 1, 1) := by decide +kernel
theorem dX4_pass_2 : decode cX4_pass 2 = .ok (.iconst 1, 1) := by decide +kernel
theorem dX4_pass_3 : decode cX4_pass 3 = .ok (.bipush 50, 2) := by decide +kernel
theorem dX4_pass_5 : decode cX4_pass 5 = .ok (.invokestatic 96, 3) := by decide +kernel
theorem dX4_pass_8 : decode cX4_pass 8 = .ok (.ifCond .ne 7, 3) := by decide +kernel
theorem dX4_pass_11 : decode cX4_pass 11 = .ok (.iconst 1, 1) := by decide +kernel
theorem dX4_pass_12 : decode cX4_pass 12 = .ok (.goto 20, 3) := by decide +kernel
theorem dX4_pass_15 : decode cX4_pass 15 = .ok (.aload_n 0, 1) := by decide +kernel
theorem dX4_pass_16 : decode cX4_pass 16 = .ok (.getfield 132, 3) := by decide +kernel
theorem dX4_pass_19 : decode cX4_pass 19 = .ok (.iload_n 1, 1) := by decide +kernel
theorem dX4_pass_20 : decode cX4_pass 20 = .ok (.iadd, 1) := by decide +kernel
theorem dX4_pass_21 : decode cX4_pass 21 = .ok (.sipush 1000, 3) := by decide +kernel
theorem dX4_pass_24 : decode cX4_pass 24 = .ok (.if_icmp .le 7, 3) := by decide +kernel
theorem dX4_pass_27 : decode cX4_pass 27 = .ok (.iconst 2, 1) := by decide +kernel
theorem dX4_pass_28 : decode cX4_pass 28 = .ok (.goto 4, 3) := by decide +kernel
theorem dX4_pass_31 : decode cX4_pass 31 = .ok (.iconst 0, 1) := by decide +kernel
theorem dX4_pass_32 : decode cX4_pass 32 = .ok (.invokevirtual 107, 3) := by decide +kernel
theorem dX4_pass_35 : decode cX4_pass 35 = .ok (.ifCond .ne 5, 3) := by decide +kernel
theorem dX4_pass_38 : decode cX4_pass 38 = .ok (.iconst 0, 1) := by decide +kernel
theorem dX4_pass_39 : decode cX4_pass 39 = .ok (.ireturn, 1) := by decide +kernel
theorem dX4_pass_40 : decode cX4_pass 40 = .ok (.iconst 0, 1) := by decide +kernel
theorem dX4_pass_41 : decode cX4_pass 41 = .ok (.istore_n 2, 1) := by decide +kernel
theorem dX4_pass_42 : decode cX4_pass 42 = .ok (.iconst 0, 1) := by decide +kernel
theorem dX4_pass_43 : decode cX4_pass 43 = .ok (.istore_n 3, 1) := by decide +kernel
theorem dX4_pass_44 : decode cX4_pass 44 = .ok (.iload_n 3, 1) := by decide +kernel
theorem dX4_pass_45 : decode cX4_pass 45 = .ok (.iload_n 1, 1) := by decide +kernel
theorem dX4_pass_46 : decode cX4_pass 46 = .ok (.if_icmp .ge 90, 3) := by decide +kernel
theorem dX4_pass_49 : decode cX4_pass 49 = .ok (.aload_n 0, 1) := by decide +kernel
theorem dX4_pass_50 : decode cX4_pass 50 = .ok (.dup, 1) := by decide +kernel
theorem dX4_pass_51 : decode cX4_pass 51 = .ok (.getfield 132, 3) := by decide +kernel
theorem dX4_pass_54 : decode cX4_pass 54 = .ok (.iconst 1, 1) := by decide +kernel
theorem dX4_pass_55 : decode cX4_pass 55 = .ok (.iadd, 1) := by decide +kernel
theorem dX4_pass_56 : decode cX4_pass 56 = .ok (.putfield 132, 3) := by decide +kernel
theorem dX4_pass_59 : decode cX4_pass 59 = .ok (.iconst 0, 1) := by decide +kernel
theorem dX4_pass_60 : decode cX4_pass 60 = .ok (.istore 4, 2) := by decide +kernel
theorem dX4_pass_62 : decode cX4_pass 62 = .ok (.iload 4, 2) := by decide +kernel
theorem dX4_pass_64 : decode cX4_pass 64 = .ok (.aload_n 0, 1) := by decide +kernel
theorem dX4_pass_65 : decode cX4_pass 65 = .ok (.getfield 100, 3) := by decide +kernel
theorem dX4_pass_68 : decode cX4_pass 68 = .ok (.if_icmp .ge 62, 3) := by decide +kernel
theorem dX4_pass_71 : decode cX4_pass 71 = .ok (.aload_n 0, 1) := by decide +kernel
theorem dX4_pass_72 : decode cX4_pass 72 = .ok (.getfield 30, 3) := by decide +kernel
theorem dX4_pass_75 : decode cX4_pass 75 = .ok (.iload 4, 2) := by decide +kernel
theorem dX4_pass_77 : decode cX4_pass 77 = .ok (.baload, 1) := by decide +kernel
theorem dX4_pass_78 : decode cX4_pass 78 = .ok (.ifCond .eq 46, 3) := by decide +kernel
theorem dX4_pass_81 : decode cX4_pass 81 = .ok (.aload_n 0, 1) := by decide +kernel
theorem dX4_pass_82 : decode cX4_pass 82 = .ok (.getfield 57, 3) := by decide +kernel
theorem dX4_pass_85 : decode cX4_pass 85 = .ok (.iload 4, 2) := by decide +kernel
theorem dX4_pass_87 : decode cX4_pass 87 = .ok (.baload, 1) := by decide +kernel
theorem dX4_pass_88 : decode cX4_pass 88 = .ok (.ifCond .eq 36, 3) := by decide +kernel
theorem dX4_pass_91 : decode cX4_pass 91 = .ok (.aload_n 0, 1) := by decide +kernel
theorem dX4_pass_92 : decode cX4_pass 92 = .ok (.getfield 60, 3) := by decide +kernel
theorem dX4_pass_95 : decode cX4_pass 95 = .ok (.iload 4, 2) := by decide +kernel
theorem dX4_pass_97 : decode cX4_pass 97 = .ok (.iaload, 1) := by decide +kernel
theorem dX4_pass_98 : decode cX4_pass 98 = .ok (.aload_n 0, 1) := by decide +kernel
theorem dX4_pass_99 : decode cX4_pass 99 = .ok (.getfield 132, 3) := by decide +kernel
theorem dX4_pass_102 : decode cX4_pass 102 = .ok (.if_icmp .gt 22, 3) := by decide +kernel
theorem dX4_pass_105 : decode cX4_pass 105 = .ok (.aload_n 0, 1) := by decide +kernel
theorem dX4_pass_106 : decode cX4_pass 106 = .ok (.iload 4, 2) := by decide +kernel
theorem dX4_pass_108 : decode cX4_pass 108 = .ok (.invokevirtual 142, 3) := by decide +kernel
theorem dX4_pass_111 : decode cX4_pass 111 = .ok (.iconst (-1), 1) := by decide +kernel
theorem dX4_pass_112 : decode cX4_pass 112 = .ok (.if_icmp .ne 12, 3) := by decide +kernel
theorem dX4_pass_115 : decode cX4_pass 115 = .ok (.aload_n 0, 1) := by decide +kernel
theorem dX4_pass_116 : decode cX4_pass 116 = .ok (.iload 4, 2) := by decide +kernel
theorem dX4_pass_118 : decode cX4_pass 118 = .ok (.invokevirtual 145, 3) := by decide +kernel
theorem dX4_pass_121 : decode cX4_pass 121 = .ok (.iinc 2 1, 3) := by decide +kernel
theorem dX4_pass_124 : decode cX4_pass 124 = .ok (.iinc 4 1, 3) := by decide +kernel
theorem dX4_pass_127 : decode cX4_pass 127 = .ok (.goto (-65), 3) := by decide +kernel
theorem dX4_pass_130 : decode cX4_pass 130 = .ok (.iinc 3 1, 3) := by decide +kernel
theorem dX4_pass_133 : decode cX4_pass 133 = .ok (.goto (-89), 3) := by decide +kernel
theorem dX4_pass_136 : decode cX4_pass 136 = .ok (.iload_n 2, 1) := by decide +kernel
theorem dX4_pass_137 : decode cX4_pass 137 = .ok (.ireturn, 1) := by decide +kernel
theorem dX4_falls_0 : decode cX4_falls 0 = .ok (.aload_n 0, 1) := by decide +kernel
theorem dX4_falls_1 : decode cX4_falls 1 = .ok (.getfield 69, 3) := by decide +kernel
theorem dX4_falls_4 : decode cX4_falls 4 = .ok (.iload_n 1, 1) := by decide +kernel
theorem dX4_falls_5 : decode cX4_falls 5 = .ok (.iaload, 1) := by decide +kernel
theorem dX4_falls_6 : decode cX4_falls 6 = .ok (.ifCond .le 34, 3) := by decide +kernel
theorem dX4_falls_9 : decode cX4_falls 9 = .ok (.aload_n 0, 1) := by decide +kernel
theorem dX4_falls_10 : decode cX4_falls 10 = .ok (.getfield 78, 3) := by decide +kernel
theorem dX4_falls_13 : decode cX4_falls 13 = .ok (.iload_n 1, 1) := by decide +kernel
theorem dX4_falls_14 : decode cX4_falls 14 = .ok (.baload, 1) := by decide +kernel
theorem dX4_falls_15 : decode cX4_falls 15 = .ok (.ifCond .ne 21, 3) := by decide +kernel
theorem dX4_falls_18 : decode cX4_falls 18 = .ok (.aload_n 0, 1) := by decide +kernel
theorem dX4_falls_19 : decode cX4_falls 19 = .ok (.getfield 132, 3) := by decide +kernel
theorem dX4_falls_22 : decode cX4_falls 22 = .ok (.aload_n 0, 1) := by decide +kernel
theorem dX4_falls_23 : decode cX4_falls 23 = .ok (.getfield 81, 3) := by decide +kernel
theorem dX4_falls_26 : decode cX4_falls 26 = .ok (.iload_n 1, 1) := by decide +kernel
theorem dX4_falls_27 : decode cX4_falls 27 = .ok (.iaload, 1) := by decide +kernel
theorem dX4_falls_28 : decode cX4_falls 28 = .ok (.isub, 1) := by decide +kernel
theorem dX4_falls_29 : decode cX4_falls 29 = .ok (.aload_n 0, 1) := by decide +kernel
theorem dX4_falls_30 : decode cX4_falls 30 = .ok (.getfield 7, 3) := by decide +kernel
theorem dX4_falls_33 : decode cX4_falls 33 = .ok (.if_icmp .lt 7, 3) := by decide +kernel
theorem dX4_falls_36 : decode cX4_falls 36 = .ok (.iconst 1, 1) := by decide +kernel
theorem dX4_falls_37 : decode cX4_falls 37 = .ok (.goto 4, 3) := by decide +kernel
theorem dX4_falls_40 : decode cX4_falls 40 = .ok (.iconst 0, 1) := by decide +kernel
theorem dX4_falls_41 : decode cX4_falls 41 = .ok (.ireturn, 1) := by decide +kernel
set_option maxRecDepth 20000 in
theorem ggX4_look_X4_isPaper : GoodIn wsX4_look wsX4_isPaper := goodIn_r _ [9, 10, 11, 12, 8, 13, 24, 25, 26, 27, 28, 29, 30, 31, 32, 33, 34, 35, 36, 37, 38, 39, 40, 41, 42, 43, 44, 45, 46, 47, 48, 49, 50, 51, 52, 53, 54] (by decide +kernel) (by decide +kernel)
set_option maxRecDepth 20000 in
theorem gX4_look_X4_isPaper : GoodIn wsX4_look (wsV RX4 110 RX4 yX4_isPaper wsX4_isPaper) := goodIn_app (goodIn_of _ (by decide +kernel)) ggX4_look_X4_isPaper
set_option maxRecDepth 20000 in
theorem ggX4_look_X4_can : GoodIn wsX4_look wsX4_can := goodIn_r _ [17, 18, 24, 25, 26, 27, 28, 29, 30, 31, 32, 33, 34, 35, 36, 37, 38, 39, 40, 41, 42, 43, 44, 45, 46, 47, 48, 49, 50, 51, 52, 53, 54] (by decide +kernel) (by decide +kernel)
set_option maxRecDepth 20000 in
theorem gX4_look_X4_can : GoodIn wsX4_look (wsV RX4 107 RX4 yX4_can wsX4_can) := goodIn_app (goodIn_of _ (by decide +kernel)) ggX4_look_X4_can
set_option maxRecDepth 20000 in
theorem ggX4_look_X4_falls : GoodIn wsX4_look wsX4_falls := goodIn_r _ [22, 1, 2, 4, 3, 23, 24, 25, 26, 27, 28, 29, 30, 31, 32, 33, 34, 35, 36, 37, 38, 39, 40, 41, 42, 43, 44, 45, 46, 47, 48, 49, 50, 51, 52, 53, 54] (by decide +kernel) (by decide +kernel)
set_option maxRecDepth 20000 in
theorem gX4_look_X4_falls : GoodIn wsX4_look (wsV RX4 148 RX4 yX4_falls wsX4_falls) := goodIn_app (goodIn_of _ (by decide +kernel)) ggX4_look_X4_falls
theorem dX4_look_0 : decode cX4_look 0 = .ok (.aload_n 0, 1) := by decide +kernel
theorem dX4_look_1 : decode cX4_look 1 = .ok (.aload_n 0, 1) := by decide +kernel
theorem dX4_look_2 : decode cX4_look 2 = .ok (.iload_n 1, 1) := by decide +kernel
theorem dX4_look_3 : decode cX4_look 3 = .ok (.invokevirtual 110, 3) := by decide +kernel
theorem dX4_look_6 : decode cX4_look 6 = .ok (.ifCond .ne 7, 3) := by decide +kernel
theorem dX4_look_9 : decode cX4_look 9 = .ok (.iconst 1, 1) := by decide +kernel
theorem dX4_look_10 : decode cX4_look 10 = .ok (.goto 17, 3) := by decide +kernel
theorem dX4_look_13 : decode cX4_look 13 = .ok (.aload_n 0, 1) := by decide +kernel
theorem dX4_look_14 : decode cX4_look 14 = .ok (.getfield 69, 3) := by decide +kernel
theorem dX4_look_17 : decode cX4_look 17 = .ok (.iload_n 1, 1) := by decide +kernel
theorem dX4_look_18 : decode cX4_look 18 = .ok (.iaload, 1) := by decide +kernel
theorem dX4_look_19 : decode cX4_look 19 = .ok (.ifCond .ne 7, 3) := by decide +kernel
theorem dX4_look_22 : decode cX4_look 22 = .ok (.iconst 2, 1) := by decide +kernel
theorem dX4_look_23 : decode cX4_look 23 = .ok (.goto 4, 3) := by decide +kernel
theorem dX4_look_26 : decode cX4_look 26 = .ok (.iconst 0, 1) := by decide +kernel
theorem dX4_look_27 : decode cX4_look 27 = .ok (.invokevirtual 107, 3) := by decide +kernel
theorem dX4_look_30 : decode cX4_look 30 = .ok (.ifCond .ne 5, 3) := by decide +kernel
theorem dX4_look_33 : decode cX4_look 33 = .ok (.iconst 0, 1) := by decide +kernel
theorem dX4_look_34 : decode cX4_look 34 = .ok (.ireturn, 1) := by decide +kernel
theorem dX4_look_35 : decode cX4_look 35 = .ok (.aload_n 0, 1) := by decide +kernel
theorem dX4_look_36 : decode cX4_look 36 = .ok (.iload_n 1, 1) := by decide +kernel
theorem dX4_look_37 : decode cX4_look 37 = .ok (.invokevirtual 148, 3) := by decide +kernel
theorem dX4_look_40 : decode cX4_look 40 = .ok (.istore_n 2, 1) := by decide +kernel
theorem dX4_look_41 : decode cX4_look 41 = .ok (.aload_n 0, 1) := by decide +kernel
theorem dX4_look_42 : decode cX4_look 42 = .ok (.getfield 78, 3) := by decide +kernel
theorem dX4_look_45 : decode cX4_look 45 = .ok (.iload_n 1, 1) := by decide +kernel
theorem dX4_look_46 : decode cX4_look 46 = .ok (.iconst 0, 1) := by decide +kernel
theorem dX4_look_47 : decode cX4_look 47 = .ok (.bastore, 1) := by decide +kernel
theorem dX4_look_48 : decode cX4_look 48 = .ok (.aload_n 0, 1) := by decide +kernel
theorem dX4_look_49 : decode cX4_look 49 = .ok (.getfield 81, 3) := by decide +kernel
theorem dX4_look_52 : decode cX4_look 52 = .ok (.iload_n 1, 1) := by decide +kernel
theorem dX4_look_53 : decode cX4_look 53 = .ok (.aload_n 0, 1) := by decide +kernel
theorem dX4_look_54 : decode cX4_look 54 = .ok (.getfield 132, 3) := by decide +kernel
theorem dX4_look_57 : decode cX4_look 57 = .ok (.iastore, 1) := by decide +kernel
theorem dX4_look_58 : decode cX4_look 58 = .ok (.iload_n 2, 1) := by decide +kernel
theorem dX4_look_59 : decode cX4_look 59 = .ok (.ireturn, 1) := by decide +kernel
set_option maxRecDepth 20000 in
theorem ggX4_isAsked_X4_isPaper : GoodIn wsX4_isAsked wsX4_isPaper := goodIn_r _ [5, 6, 7, 8, 4, 9, 15, 16, 17, 18, 19, 20, 21, 22, 23, 24, 25, 26, 27, 28, 29, 30, 31, 32, 33, 34, 35, 36, 37, 38, 39, 40, 41, 42, 43, 44, 45] (by decide +kernel) (by decide +kernel)
set_option maxRecDepth 20000 in
theorem gX4_isAsked_X4_isPaper : GoodIn wsX4_isAsked (wsV RX4 110 RX4 yX4_isPaper wsX4_isPaper) := goodIn_app (goodIn_of _ (by decide +kernel)) ggX4_isAsked_X4_isPaper
set_option maxRecDepth 20000 in
theorem ggX4_isAsked_X4_can : GoodIn wsX4_isAsked wsX4_can := goodIn_r _ [13, 14, 15, 16, 17, 18, 19, 20, 21, 22, 23, 24, 25, 26, 27, 28, 29, 30, 31, 32, 33, 34, 35, 36, 37, 38, 39, 40, 41, 42, 43, 44, 45] (by decide +kernel) (by decide +kernel)
set_option maxRecDepth 20000 in
theorem gX4_isAsked_X4_can : GoodIn wsX4_isAsked (wsV RX4 107 RX4 yX4_can wsX4_can) := goodIn_app (goodIn_of _ (by decide +kernel)) ggX4_isAsked_X4_can
theorem dX4_isAsked_0 : decode cX4_isAsked 0 = .ok (.aload_n 0, 1) := by decide +kernel
theorem dX4_isAsked_1 : decode cX4_isAsked 1 = .ok (.aload_n 0, 1) := by decide +kernel
theorem dX4_isAsked_2 : decode cX4_isAsked 2 = .ok (.iload_n 1, 1) := by decide +kernel
theorem dX4_isAsked_3 : decode cX4_isAsked 3 = .ok (.invokevirtual 110, 3) := by decide +kernel
theorem dX4_isAsked_6 : decode cX4_isAsked 6 = .ok (.ifCond .eq 7, 3) := by decide +kernel
theorem dX4_isAsked_9 : decode cX4_isAsked 9 = .ok (.iconst 0, 1) := by decide +kernel
theorem dX4_isAsked_10 : decode cX4_isAsked 10 = .ok (.goto 4, 3) := by decide +kernel
theorem dX4_isAsked_13 : decode cX4_isAsked 13 = .ok (.iconst 1, 1) := by decide +kernel
theorem dX4_isAsked_14 : decode cX4_isAsked 14 = .ok (.invokevirtual 107, 3) := by decide +kernel
theorem dX4_isAsked_17 : decode cX4_isAsked 17 = .ok (.ireturn, 1) := by decide +kernel
set_option maxRecDepth 20000 in
theorem ggX4_isDue_X4_isAsked : GoodIn wsX4_isDue wsX4_isAsked := goodIn_r _ [5, 6, 7, 8, 4, 9, 10, 11, 12, 13, 14, 15, 16, 17, 18, 28, 29, 30, 31, 32, 33, 34, 35, 36, 37, 38, 39, 40, 41, 42, 43, 44, 45, 46, 47, 48, 49, 50, 51, 52, 53, 54, 55, 56, 57, 58] (by decide +kernel) (by decide +kernel)
set_option maxRecDepth 20000 in
theorem gX4_isDue_X4_isAsked : GoodIn wsX4_isDue (wsV RX4 151 RX4 yX4_isAsked wsX4_isAsked) := goodIn_app (goodIn_of _ (by decide +kernel)) ggX4_isDue_X4_isAsked
set_option maxRecDepth 20000 in
theorem ggX4_isDue_X4_falls : GoodIn wsX4_isDue wsX4_falls := goodIn_r _ [22, 23, 24, 25, 26, 27, 28, 29, 30, 31, 32, 33, 34, 35, 36, 37, 38, 39, 40, 41, 42, 43, 44, 45, 46, 47, 48, 49, 50, 51, 52, 53, 54, 55, 56, 57, 58] (by decide +kernel) (by decide +kernel)
set_option maxRecDepth 20000 in
theorem gX4_isDue_X4_falls : GoodIn wsX4_isDue (wsV RX4 148 RX4 yX4_falls wsX4_falls) := goodIn_app (goodIn_of _ (by decide +kernel)) ggX4_isDue_X4_falls
theorem dX4_isDue_0 : decode cX4_isDue 0 = .ok (.aload_n 0, 1) := by decide +kernel
theorem dX4_isDue_1 : decode cX4_isDue 1 = .ok (.iload_n 1, 1) := by decide +kernel
theorem dX4_isDue_2 : decode cX4_isDue 2 = .ok (.invokevirtual 151, 3) := by decide +kernel
theorem dX4_isDue_5 : decode cX4_isDue 5 = .ok (.ifCond .eq 15, 3) := by decide +kernel
theorem dX4_isDue_8 : decode cX4_isDue 8 = .ok (.aload_n 0, 1) := by decide +kernel
theorem dX4_isDue_9 : decode cX4_isDue 9 = .ok (.iload_n 1, 1) := by decide +kernel
theorem dX4_isDue_10 : decode cX4_isDue 10 = .ok (.invokevirtual 148, 3) := by decide +kernel
theorem dX4_isDue_13 : decode cX4_isDue 13 = .ok (.ifCond .eq 7, 3) := by decide +kernel
theorem dX4_isDue_16 : decode cX4_isDue 16 = .ok (.iconst 1, 1) := by decide +kernel
theorem dX4_isDue_17 : decode cX4_isDue 17 = .ok (.goto 4, 3) := by decide +kernel
theorem dX4_isDue_20 : decode cX4_isDue 20 = .ok (.iconst 0, 1) := by decide +kernel
theorem dX4_isDue_21 : decode cX4_isDue 21 = .ok (.ireturn, 1) := by decide +kernel
set_option maxRecDepth 20000 in
theorem ggX4_copy_X4_isPaper : GoodIn wsX4_copy wsX4_isPaper := goodIn_r _ [10, 11, 12, 13, 9, 14, 20, 21, 22, 23, 24, 25, 26, 27, 28, 29, 30, 31, 32, 33, 34, 35, 36, 37, 38, 39, 40, 41, 42, 43, 44, 45, 46, 47, 48, 49, 50] (by decide +kernel) (by decide +kernel)
set_option maxRecDepth 20000 in
theorem gX4_copy_X4_isPaper : GoodIn wsX4_copy (wsV RX4 110 RX4 yX4_isPaper wsX4_isPaper) := goodIn_app (goodIn_of _ (by decide +kernel)) ggX4_copy_X4_isPaper
set_option maxRecDepth 20000 in
theorem ggX4_copy_X4_isIn : GoodIn wsX4_copy wsX4_isIn := goodIn_r _ [14] (by decide +kernel) (by decide +kernel)
set_option maxRecDepth 20000 in
theorem gX4_copy_X4_isIn : GoodIn wsX4_copy (va_wsS RX4 96 yX4_isIn wsX4_isIn) := goodIn_app (goodIn_of _ (by decide +kernel)) ggX4_copy_X4_isIn
set_option maxRecDepth 20000 in
theorem ggX4_copy_X4_can : GoodIn wsX4_copy wsX4_can := goodIn_r _ [18, 19, 20, 21, 22, 23, 24, 25, 26, 27, 28, 29, 30, 31, 32, 33, 34, 35, 36, 37, 38, 39, 40, 41, 42, 43, 44, 45, 46, 47, 48, 49, 50] (by decide +kernel) (by decide +kernel)
set_option maxRecDepth 20000 in
theorem gX4_copy_X4_can : GoodIn wsX4_copy (wsV RX4 107 RX4 yX4_can wsX4_can) := goodIn_app (goodIn_of _ (by decide +kernel)) ggX4_copy_X4_can
theorem dX4_copy_0 : decode cX4_copy 0 = .ok (.aload_n 0, 1) := by decide +kernel
theorem dX4_copy_1 : decode cX4_copy 1 = .ok (.aload_n 0, 1) := by decide +kernel
theorem dX4_copy_2 : decode cX4_copy 2 = .ok (.iload_n 1, 1) := by decide +kernel
theorem dX4_copy_3 : decode cX4_copy 3 = .ok (.invokevirtual 110, 3) := by decide +kernel
theorem dX4_copy_6 : decode cX4_copy 6 = .ok (.ifCond .ne 7, 3) := by decide +kernel
theorem dX4_copy_9 : decode cX4_copy 9 = .ok (.iconst 1, 1) := by decide +kernel
theorem dX4_copy_10 : decode cX4_copy 10 = .ok (.goto 40, 3) := by decide +kernel
theorem dX4_copy_13 : decode cX4_copy 13 = .ok (.iload_n 2, 1) := by decide +kernel
theorem dX4_copy_14 : decode cX4_copy 14 = .ok (.iconst 0, 1) := by decide +kernel
theorem dX4_copy_15 : decode cX4_copy 15 = .ok (.bipush 9, 2) := by decide +kernel
theorem dX4_copy_17 : decode cX4_copy 17 = .ok (.invokestatic 96, 3) := by decide +kernel
theorem dX4_copy_20 : decode cX4_copy 20 = .ok (.ifCond .ne 7, 3) := by decide +kernel
theorem dX4_copy_23 : decode cX4_copy 23 = .ok (.iconst 2, 1) := by decide +kernel
theorem dX4_copy_24 : decode cX4_copy 24 = .ok (.goto 26, 3) := by decide +kernel
theorem dX4_copy_27 : decode cX4_copy 27 = .ok (.aload_n 0, 1) := by decide +kernel
theorem dX4_copy_28 : decode cX4_copy 28 = .ok (.getfield 69, 3) := by decide +kernel
theorem dX4_copy_31 : decode cX4_copy 31 = .ok (.iload_n 1, 1) := by decide +kernel
theorem dX4_copy_32 : decode cX4_copy 32 = .ok (.iaload, 1) := by decide +kernel
theorem dX4_copy_33 : decode cX4_copy 33 = .ok (.ifCond .eq 12, 3) := by decide +kernel
theorem dX4_copy_36 : decode cX4_copy 36 = .ok (.aload_n 0, 1) := by decide +kernel
theorem dX4_copy_37 : decode cX4_copy 37 = .ok (.getfield 154, 3) := by decide +kernel
theorem dX4_copy_40 : decode cX4_copy 40 = .ok (.bipush 30, 2) := by decide +kernel
theorem dX4_copy_42 : decode cX4_copy 42 = .ok (.if_icmp .ne 7, 3) := by decide +kernel
theorem dX4_copy_45 : decode cX4_copy 45 = .ok (.iconst 3, 1) := by decide +kernel
theorem dX4_copy_46 : decode cX4_copy 46 = .ok (.goto 4, 3) := by decide +kernel
theorem dX4_copy_49 : decode cX4_copy 49 = .ok (.iconst 0, 1) := by decide +kernel
theorem dX4_copy_50 : decode cX4_copy 50 = .ok (.invokevirtual 107, 3) := by decide +kernel
theorem dX4_copy_53 : decode cX4_copy 53 = .ok (.ifCond .ne 5, 3) := by decide +kernel
theorem dX4_copy_56 : decode cX4_copy 56 = .ok (.iconst 0, 1) := by decide +kernel
theorem dX4_copy_57 : decode cX4_copy 57 = .ok (.ireturn, 1) := by decide +kernel
theorem dX4_copy_58 : decode cX4_copy 58 = .ok (.aload_n 0, 1) := by decide +kernel
theorem dX4_copy_59 : decode cX4_copy 59 = .ok (.getfield 84, 3) := by decide +kernel
theorem dX4_copy_62 : decode cX4_copy 62 = .ok (.aload_n 0, 1) := by decide +kernel
theorem dX4_copy_63 : decode cX4_copy 63 = .ok (.getfield 154, 3) := by decide +kernel
theorem dX4_copy_66 : decode cX4_copy 66 = .ok (.iload_n 1, 1) := by decide +kernel
theorem dX4_copy_67 : decode cX4_copy 67 = .ok (.iastore, 1) := by decide +kernel
theorem dX4_copy_68 : decode cX4_copy 68 = .ok (.aload_n 0, 1) := by decide +kernel
theorem dX4_copy_69 : decode cX4_copy 69 = .ok (.getfield 87, 3) := by decide +kernel
theorem dX4_copy_72 : decode cX4_copy 72 = .ok (.aload_n 0, 1) := by decide +kernel
theorem dX4_copy_73 : decode cX4_copy 73 = .ok (.getfield 154, 3) := by decide +kernel
theorem dX4_copy_76 : decode cX4_copy 76 = .ok (.aload_n 0, 1) := by decide +kernel
theorem dX4_copy_77 : decode cX4_copy 77 = .ok (.getfield 69, 3) := by decide +kernel
theorem dX4_copy_80 : decode cX4_copy 80 = .ok (.iload_n 1, 1) := by decide +kernel
theorem dX4_copy_81 : decode cX4_copy 81 = .ok (.iaload, 1) := by decide +kernel
theorem dX4_copy_82 : decode cX4_copy 82 = .ok (.iconst 1, 1) := by decide +kernel
theorem dX4_copy_83 : decode cX4_copy 83 = .ok (.isub, 1) := by decide +kernel
theorem dX4_copy_84 : decode cX4_copy 84 = .ok (.iastore, 1) := by decide +kernel
theorem dX4_copy_85 : decode cX4_copy 85 = .ok (.aload_n 0, 1) := by decide +kernel
theorem dX4_copy_86 : decode cX4_copy 86 = .ok (.getfield 90, 3) := by decide +kernel
theorem dX4_copy_89 : decode cX4_copy 89 = .ok (.aload_n 0, 1) := by decide +kernel
theorem dX4_copy_90 : decode cX4_copy 90 = .ok (.getfield 154, 3) := by decide +kernel
theorem dX4_copy_93 : decode cX4_copy 93 = .ok (.iload_n 2, 1) := by decide +kernel
theorem dX4_copy_94 : decode cX4_copy 94 = .ok (.iastore, 1) := by decide +kernel
theorem dX4_copy_95 : decode cX4_copy 95 = .ok (.aload_n 0, 1) := by decide +kernel
theorem dX4_copy_96 : decode cX4_copy 96 = .ok (.dup, 1) := by decide +kernel
theorem dX4_copy_97 : decode cX4_copy 97 = .ok (.getfield 154, 3) := by decide +kernel
theorem dX4_copy_100 : decode cX4_copy 100 = .ok (.iconst 1, 1) := by decide +kernel
theorem dX4_copy_101 : decode cX4_copy 101 = .ok (.iadd, 1) := by decide +kernel
theorem dX4_copy_102 : decode cX4_copy 102 = .ok (.putfield 154, 3) := by decide +kernel
theorem dX4_copy_105 : decode cX4_copy 105 = .ok (.aload_n 0, 1) := by decide +kernel
theorem dX4_copy_106 : decode cX4_copy 106 = .ok (.getfield 154, 3) := by decide +kernel
theorem dX4_copy_109 : decode cX4_copy 109 = .ok (.iconst 1, 1) := by decide +kernel
theorem dX4_copy_110 : decode cX4_copy 110 = .ok (.isub, 1) := by decide +kernel
theorem dX4_copy_111 : decode cX4_copy 111 = .ok (.ireturn, 1) := by decide +kernel
set_option maxRecDepth 20000 in
theorem ggX4_takeDown_X4_isIn : GoodIn wsX4_takeDown wsX4_isIn := goodIn_r _ [6] (by decide +kernel) (by decide +kernel)
set_option maxRecDepth 20000 in
theorem gX4_takeDown_X4_isIn : GoodIn wsX4_takeDown (va_wsS RX4 96 yX4_isIn wsX4_isIn) := goodIn_app (goodIn_of _ (by decide +kernel)) ggX4_takeDown_X4_isIn
set_option maxRecDepth 20000 in
theorem ggX4_takeDown_X4_can : GoodIn wsX4_takeDown wsX4_can := goodIn_r _ [10, 11, 12, 13, 14, 15, 16, 17, 18, 19, 20, 21, 22, 23, 24, 25, 26, 27, 28, 29, 30, 31, 32, 33, 34, 35, 36, 37, 38, 39, 40, 41, 42] (by decide +kernel) (by decide +kernel)
set_option maxRecDepth 20000 in
theorem gX4_takeDown_X4_can : GoodIn wsX4_takeDown (wsV RX4 107 RX4 yX4_can wsX4_can) := goodIn_app (goodIn_of _ (by decide +kernel)) ggX4_takeDown_X4_can
theorem dX4_takeDown_0 : decode cX4_takeDown 0 = .ok (.aload_n 0, 1) := by decide +kernel
theorem dX4_takeDown_1 : decode cX4_takeDown 1 = .ok (.iload_n 1, 1) := by decide +kernel
theorem dX4_takeDown_2 : decode cX4_takeDown 2 = .ok (.iconst 0, 1) := by decide +kernel
theorem dX4_takeDown_3 : decode cX4_takeDown 3 = .ok (.aload_n 0, 1) := by decide +kernel
theorem dX4_takeDown_4 : decode cX4_takeDown 4 = .ok (.getfield 154, 3) := by decide +kernel
theorem dX4_takeDown_7 : decode cX4_takeDown 7 = .ok (.iconst 1, 1) := by decide +kernel
theorem dX4_takeDown_8 : decode cX4_takeDown 8 = .ok (.isub, 1) := by decide +kernel
theorem dX4_takeDown_9 : decode cX4_takeDown 9 = .ok (.invokestatic 96, 3) := by decide +kernel
theorem dX4_takeDown_12 : decode cX4_takeDown 12 = .ok (.ifCond .eq 17, 3) := by decide +kernel
theorem dX4_takeDown_15 : decode cX4_takeDown 15 = .ok (.aload_n 0, 1) := by decide +kernel
theorem dX4_takeDown_16 : decode cX4_takeDown 16 = .ok (.getfield 90, 3) := by decide +kernel
theorem dX4_takeDown_19 : decode cX4_takeDown 19 = .ok (.iload_n 1, 1) := by decide +kernel
theorem dX4_takeDown_20 : decode cX4_takeDown 20 = .ok (.iaload, 1) := by decide +kernel
theorem dX4_takeDown_21 : decode cX4_takeDown 21 = .ok (.iconst (-1), 1) := by decide +kernel
theorem dX4_takeDown_22 : decode cX4_takeDown 22 = .ok (.if_icmp .eq 7, 3) := by decide +kernel
theorem dX4_takeDown_25 : decode cX4_takeDown 25 = .ok (.iconst 0, 1) := by decide +kernel
theorem dX4_takeDown_26 : decode cX4_takeDown 26 = .ok (.goto 4, 3) := by decide +kernel
theorem dX4_takeDown_29 : decode cX4_takeDown 29 = .ok (.iconst 1, 1) := by decide +kernel
theorem dX4_takeDown_30 : decode cX4_takeDown 30 = .ok (.invokevirtual 107, 3) := by decide +kernel
theorem dX4_takeDown_33 : decode cX4_takeDown 33 = .ok (.ifCond .ne 5, 3) := by decide +kernel
theorem dX4_takeDown_36 : decode cX4_takeDown 36 = .ok (.iconst 0, 1) := by decide +kernel
theorem dX4_takeDown_37 : decode cX4_takeDown 37 = .ok (.ireturn, 1) := by decide +kernel
theorem dX4_takeDown_38 : decode cX4_takeDown 38 = .ok (.aload_n 0, 1) := by decide +kernel
theorem dX4_takeDown_39 : decode cX4_takeDown 39 = .ok (.getfield 90, 3) := by decide +kernel
theorem dX4_takeDown_42 : decode cX4_takeDown 42 = .ok (.iload_n 1, 1) := by decide +kernel
theorem dX4_takeDown_43 : decode cX4_takeDown 43 = .ok (.iaload, 1) := by decide +kernel
theorem dX4_takeDown_44 : decode cX4_takeDown 44 = .ok (.istore_n 2, 1) := by decide +kernel
theorem dX4_takeDown_45 : decode cX4_takeDown 45 = .ok (.aload_n 0, 1) := by decide +kernel
theorem dX4_takeDown_46 : decode cX4_takeDown 46 = .ok (.getfield 90, 3) := by decide +kernel
theorem dX4_takeDown_49 : decode cX4_takeDown 49 = .ok (.iload_n 1, 1) := by decide +kernel
theorem dX4_takeDown_50 : decode cX4_takeDown 50 = .ok (.iconst (-1), 1) := by decide +kernel
theorem dX4_takeDown_51 : decode cX4_takeDown 51 = .ok (.iastore, 1) := by decide +kernel
theorem dX4_takeDown_52 : decode cX4_takeDown 52 = .ok (.iload_n 2, 1) := by decide +kernel
theorem dX4_takeDown_53 : decode cX4_takeDown 53 = .ok (.ireturn, 1) := by decide +kernel
set_option maxRecDepth 20000 in
theorem ggX4_outOfDate_X4_isAsked : GoodIn wsX4_outOfDate wsX4_isAsked := goodIn_r _ [10, 11, 12, 13, 9, 14, 15, 16, 17, 18, 19, 20, 21, 22, 23, 24, 25, 26, 27, 28, 29, 30, 31, 32, 33, 34, 35, 36, 37, 38, 39, 40, 41, 42, 43, 44, 45, 46, 47, 48, 49, 50, 51, 52, 53, 54] (by decide +kernel) (by decide +kernel)
set_option maxRecDepth 20000 in
theorem gX4_outOfDate_X4_isAsked : GoodIn wsX4_outOfDate (wsV RX4 151 RX4 yX4_isAsked wsX4_isAsked) := goodIn_app (goodIn_of _ (by decide +kernel)) ggX4_outOfDate_X4_isAsked
theorem dX4_outOfDate_0 : decode cX4_outOfDate 0 = .ok (.aload_n 0, 1) := by decide +kernel
theorem dX4_outOfDate_1 : decode cX4_outOfDate 1 = .ok (.iload_n 1, 1) := by decide +kernel
theorem dX4_outOfDate_2 : decode cX4_outOfDate 2 = .ok (.invokevirtual 151, 3) := by decide +kernel
theorem dX4_outOfDate_5 : decode cX4_outOfDate 5 = .ok (.ifCond .ne 5, 3) := by decide +kernel
theorem dX4_outOfDate_8 : decode cX4_outOfDate 8 = .ok (.iconst 0, 1) := by decide +kernel
theorem dX4_outOfDate_9 : decode cX4_outOfDate 9 = .ok (.ireturn, 1) := by decide +kernel
theorem dX4_outOfDate_10 : decode cX4_outOfDate 10 = .ok (.iconst 0, 1) := by decide +kernel
theorem dX4_outOfDate_11 : decode cX4_outOfDate 11 = .ok (.istore_n 2, 1) := by decide +kernel
theorem dX4_outOfDate_12 : decode cX4_outOfDate 12 = .ok (.iconst 0, 1) := by decide +kernel
theorem dX4_outOfDate_13 : decode cX4_outOfDate 13 = .ok (.istore_n 3, 1) := by decide +kernel
theorem dX4_outOfDate_14 : decode cX4_outOfDate 14 = .ok (.iload_n 3, 1) := by decide +kernel
theorem dX4_outOfDate_15 : decode cX4_outOfDate 15 = .ok (.aload_n 0, 1) := by decide +kernel
theorem dX4_outOfDate_16 : decode cX4_outOfDate 16 = .ok (.getfield 154, 3) := by decide +kernel
theorem dX4_outOfDate_19 : decode cX4_outOfDate 19 = .ok (.if_icmp .ge 54, 3) := by decide +kernel
theorem dX4_outOfDate_22 : decode cX4_outOfDate 22 = .ok (.iload_n 2, 1) := by decide +kernel
theorem dX4_outOfDate_23 : decode cX4_outOfDate 23 = .ok (.aload_n 0, 1) := by decide +kernel
theorem dX4_outOfDate_24 : decode cX4_outOfDate 24 = .ok (.getfield 90, 3) := by decide +kernel
theorem dX4_outOfDate_27 : decode cX4_outOfDate 27 = .ok (.iload_n 3, 1) := by decide +kernel
theorem dX4_outOfDate_28 : decode cX4_outOfDate 28 = .ok (.iaload, 1) := by decide +kernel
theorem dX4_outOfDate_29 : decode cX4_outOfDate 29 = .ok (.iconst (-1), 1) := by decide +kernel
theorem dX4_outOfDate_30 : decode cX4_outOfDate 30 = .ok (.if_icmp .eq 34, 3) := by decide +kernel
theorem dX4_outOfDate_33 : decode cX4_outOfDate 33 = .ok (.aload_n 0, 1) := by decide +kernel
theorem dX4_outOfDate_34 : decode cX4_outOfDate 34 = .ok (.getfield 84, 3) := by decide +kernel
theorem dX4_outOfDate_37 : decode cX4_outOfDate 37 = .ok (.iload_n 3, 1) := by decide +kernel
theorem dX4_outOfDate_38 : decode cX4_outOfDate 38 = .ok (.iaload, 1) := by decide +kernel
theorem dX4_outOfDate_39 : decode cX4_outOfDate 39 = .ok (.iload_n 1, 1) := by decide +kernel
theorem dX4_outOfDate_40 : decode cX4_outOfDate 40 = .ok (.if_icmp .ne 24, 3) := by decide +kernel
theorem dX4_outOfDate_43 : decode cX4_outOfDate 43 = .ok (.aload_n 0, 1) := by decide +kernel
theorem dX4_outOfDate_44 : decode cX4_outOfDate 44 = .ok (.getfield 87, 3) := by decide +kernel
theorem dX4_outOfDate_47 : decode cX4_outOfDate 47 = .ok (.iload_n 3, 1) := by decide +kernel
theorem dX4_outOfDate_48 : decode cX4_outOfDate 48 = .ok (.iaload, 1) := by decide +kernel
theorem dX4_outOfDate_49 : decode cX4_outOfDate 49 = .ok (.aload_n 0, 1) := by decide +kernel
theorem dX4_outOfDate_50 : decode cX4_outOfDate 50 = .ok (.getfield 69, 3) := by decide +kernel
theorem dX4_outOfDate_53 : decode cX4_outOfDate 53 = .ok (.iload_n 1, 1) := by decide +kernel
theorem dX4_outOfDate_54 : decode cX4_outOfDate 54 = .ok (.iaload, 1) := by decide +kernel
theorem dX4_outOfDate_55 : decode cX4_outOfDate 55 = .ok (.iconst 1, 1) := by decide +kernel
theorem dX4_outOfDate_56 : decode cX4_outOfDate 56 = .ok (.isub, 1) := by decide +kernel
theorem dX4_outOfDate_57 : decode cX4_outOfDate 57 = .ok (.if_icmp .eq 7, 3) := by decide +kernel
theorem dX4_outOfDate_60 : decode cX4_outOfDate 60 = .ok (.iconst 1, 1) := by decide +kernel
theorem dX4_outOfDate_61 : decode cX4_outOfDate 61 = .ok (.goto 4, 3) := by decide +kernel
theorem dX4_outOfDate_64 : decode cX4_outOfDate 64 = .ok (.iconst 0, 1) := by decide +kernel
theorem dX4_outOfDate_65 : decode cX4_outOfDate 65 = .ok (.iadd, 1) := by decide +kernel
theorem dX4_outOfDate_66 : decode cX4_outOfDate 66 = .ok (.istore_n 2, 1) := by decide +kernel
theorem dX4_outOfDate_67 : decode cX4_outOfDate 67 = .ok (.iinc 3 1, 3) := by decide +kernel
theorem dX4_outOfDate_70 : decode cX4_outOfDate 70 = .ok (.goto (-56), 3) := by decide +kernel
theorem dX4_outOfDate_73 : decode cX4_outOfDate 73 = .ok (.iload_n 2, 1) := by decide +kernel
theorem dX4_outOfDate_74 : decode cX4_outOfDate 74 = .ok (.ireturn, 1) := by decide +kernel
theorem dX4_day_0 : decode cX4_day 0 = .ok (.aload_n 0, 1) := by decide +kernel
theorem dX4_day_1 : decode cX4_day 1 = .ok (.iconst 0, 1) := by decide +kernel
theorem dX4_day_2 : decode cX4_day 2 = .ok (.putfield 93, 3) := by decide +kernel
theorem dX4_day_5 : decode cX4_day 5 = .ok (.aload_n 0, 1) := by decide +kernel
theorem dX4_day_6 : decode cX4_day 6 = .ok (.getfield 132, 3) := by decide +kernel
theorem dX4_day_9 : decode cX4_day 9 = .ok (.ireturn, 1) := by decide +kernel
set_option maxRecDepth 20000 in
theorem ggX4_stepOf_X4_nextReviewer : GoodIn wsX4_stepOf wsX4_nextReviewer := goodIn_r _ [8, 2, 9, 10, 27, 28, 29, 30, 31, 32, 33, 34, 35, 36, 37, 38, 39, 40, 41, 42, 43, 44, 45, 46, 47, 48, 49, 50, 51, 52, 53, 54, 55, 56, 57] (by decide +kernel) (by decide +kernel)
set_option maxRecDepth 20000 in
theorem gX4_stepOf_X4_nextReviewer : GoodIn wsX4_stepOf (wsV RX4 125 RX4 yX4_nextReviewer wsX4_nextReviewer) := goodIn_app (goodIn_of _ (by decide +kernel)) ggX4_stepOf_X4_nextReviewer
set_option maxRecDepth 20000 in
theorem ggX4_stepOf_X4_openRemarks : GoodIn wsX4_stepOf wsX4_openRemarks := goodIn_r _ [14, 15, 16, 17, 18, 19, 7, 20, 27, 28, 29, 30, 31, 32, 33, 34, 35, 36, 37, 38, 39, 40, 41, 42, 43, 44, 45, 46, 47, 48, 49, 50, 51, 52, 53, 54, 55, 56, 57] (by decide +kernel) (by decide +kernel)
set_option maxRecDepth 20000 in
theorem gX4_stepOf_X4_openRemarks : GoodIn wsX4_stepOf (wsV RX4 129 RX4 yX4_openRemarks wsX4_openRemarks) := goodIn_app (goodIn_of _ (by decide +kernel)) ggX4_stepOf_X4_openRemarks
set_option maxRecDepth 20000 in
theorem ggX4_stepOf_X4_nextReader : GoodIn wsX4_stepOf wsX4_nextReader := goodIn_r _ [24, 25, 26, 27, 28, 29, 30, 31, 32, 33, 34, 35, 36, 37, 38, 39, 40, 41, 42, 43, 44, 45, 46, 47, 48, 49, 50, 51, 52, 53, 54, 55, 56, 57] (by decide +kernel) (by decide +kernel)
set_option maxRecDepth 20000 in
theorem gX4_stepOf_X4_nextReader : GoodIn wsX4_stepOf (wsV RX4 142 RX4 yX4_nextReader wsX4_nextReader) := goodIn_app (goodIn_of _ (by decide +kernel)) ggX4_stepOf_X4_nextReader
theorem dX4_stepOf_0 : decode cX4_stepOf 0 = .ok (.aload_n 0, 1) := by decide +kernel
theorem dX4_stepOf_1 : decode cX4_stepOf 1 = .ok (.getfield 30, 3) := by decide +kernel
theorem dX4_stepOf_4 : decode cX4_stepOf 4 = .ok (.iload_n 1, 1) := by decide +kernel
theorem dX4_stepOf_5 : decode cX4_stepOf 5 = .ok (.baload, 1) := by decide +kernel
theorem dX4_stepOf_6 : decode cX4_stepOf 6 = .ok (.ifCond .ne 5, 3) := by decide +kernel
theorem dX4_stepOf_9 : decode cX4_stepOf 9 = .ok (.iconst 0, 1) := by decide +kernel
theorem dX4_stepOf_10 : decode cX4_stepOf 10 = .ok (.ireturn, 1) := by decide +kernel
theorem dX4_stepOf_11 : decode cX4_stepOf 11 = .ok (.aload_n 0, 1) := by decide +kernel
theorem dX4_stepOf_12 : decode cX4_stepOf 12 = .ok (.getfield 42, 3) := by decide +kernel
theorem dX4_stepOf_15 : decode cX4_stepOf 15 = .ok (.iload_n 1, 1) := by decide +kernel
theorem dX4_stepOf_16 : decode cX4_stepOf 16 = .ok (.iaload, 1) := by decide +kernel
theorem dX4_stepOf_17 : decode cX4_stepOf 17 = .ok (.ifCond .eq 12, 3) := by decide +kernel
theorem dX4_stepOf_20 : decode cX4_stepOf 20 = .ok (.aload_n 0, 1) := by decide +kernel
theorem dX4_stepOf_21 : decode cX4_stepOf 21 = .ok (.iload_n 1, 1) := by decide +kernel
theorem dX4_stepOf_22 : decode cX4_stepOf 22 = .ok (.invokevirtual 125, 3) := by decide +kernel
theorem dX4_stepOf_25 : decode cX4_stepOf 25 = .ok (.iconst (-1), 1) := by decide +kernel
theorem dX4_stepOf_26 : decode cX4_stepOf 26 = .ok (.if_icmp .eq 5, 3) := by decide +kernel
theorem dX4_stepOf_29 : decode cX4_stepOf 29 = .ok (.iconst 1, 1) := by decide +kernel
theorem dX4_stepOf_30 : decode cX4_stepOf 30 = .ok (.ireturn, 1) := by decide +kernel
theorem dX4_stepOf_31 : decode cX4_stepOf 31 = .ok (.aload_n 0, 1) := by decide +kernel
theorem dX4_stepOf_32 : decode cX4_stepOf 32 = .ok (.iload_n 1, 1) := by decide +kernel
theorem dX4_stepOf_33 : decode cX4_stepOf 33 = .ok (.invokevirtual 129, 3) := by decide +kernel
theorem dX4_stepOf_36 : decode cX4_stepOf 36 = .ok (.ifCond .le 7, 3) := by decide +kernel
theorem dX4_stepOf_39 : decode cX4_stepOf 39 = .ok (.iconst 2, 1) := by decide +kernel
theorem dX4_stepOf_40 : decode cX4_stepOf 40 = .ok (.goto 30, 3) := by decide +kernel
theorem dX4_stepOf_43 : decode cX4_stepOf 43 = .ok (.aload_n 0, 1) := by decide +kernel
theorem dX4_stepOf_44 : decode cX4_stepOf 44 = .ok (.getfield 57, 3) := by decide +kernel
theorem dX4_stepOf_47 : decode cX4_stepOf 47 = .ok (.iload_n 1, 1) := by decide +kernel
theorem dX4_stepOf_48 : decode cX4_stepOf 48 = .ok (.baload, 1) := by decide +kernel
theorem dX4_stepOf_49 : decode cX4_stepOf 49 = .ok (.ifCond .ne 7, 3) := by decide +kernel
theorem dX4_stepOf_52 : decode cX4_stepOf 52 = .ok (.iconst 3, 1) := by decide +kernel
theorem dX4_stepOf_53 : decode cX4_stepOf 53 = .ok (.goto 17, 3) := by decide +kernel
theorem dX4_stepOf_56 : decode cX4_stepOf 56 = .ok (.aload_n 0, 1) := by decide +kernel
theorem dX4_stepOf_57 : decode cX4_stepOf 57 = .ok (.iload_n 1, 1) := by decide +kernel
theorem dX4_stepOf_58 : decode cX4_stepOf 58 = .ok (.invokevirtual 142, 3) := by decide +kernel
theorem dX4_stepOf_61 : decode cX4_stepOf 61 = .ok (.iconst (-1), 1) := by decide +kernel
theorem dX4_stepOf_62 : decode cX4_stepOf 62 = .ok (.if_icmp .eq 7, 3) := by decide +kernel
theorem dX4_stepOf_65 : decode cX4_stepOf 65 = .ok (.iconst 4, 1) := by decide +kernel
theorem dX4_stepOf_66 : decode cX4_stepOf 66 = .ok (.goto 4, 3) := by decide +kernel
theorem dX4_stepOf_69 : decode cX4_stepOf 69 = .ok (.iconst 5, 1) := by decide +kernel
theorem dX4_stepOf_70 : decode cX4_stepOf 70 = .ok (.ireturn, 1) := by decide +kernel
set_option maxRecDepth 20000 in
theorem ggX4_step_X4_isAsked : GoodIn wsX4_step wsX4_isAsked := goodIn_r _ [5, 6, 7, 8, 4, 9, 10, 11, 12, 13, 14, 15, 16, 17, 18, 48, 49, 50, 51, 52, 53, 54, 55, 56, 57, 58, 59, 60, 61, 62, 63, 64, 65, 66, 67, 68, 69, 70, 71, 72, 73, 74, 75, 76, 77, 78] (by decide +kernel) (by decide +kernel)
set_option maxRecDepth 20000 in
theorem gX4_step_X4_isAsked : GoodIn wsX4_step (wsV RX4 151 RX4 yX4_isAsked wsX4_isAsked) := goodIn_app (goodIn_of _ (by decide +kernel)) ggX4_step_X4_isAsked
set_option maxRecDepth 20000 in
theorem ggX4_step_X4_stepOf : GoodIn wsX4_step wsX4_stepOf := goodIn_r _ [22, 23, 24, 25, 26, 27, 28, 4, 29, 30, 31, 32, 33, 34, 35, 36, 37, 38, 39, 40, 41, 42, 43, 44, 45, 46, 47, 48, 49, 50, 51, 52, 53, 54, 55, 56, 57, 58, 59, 60, 61, 62, 63, 64, 65, 66, 67, 68, 69, 70, 71, 72, 73, 74, 75, 76, 77, 78] (by decide +kernel) (by decide +kernel)
set_option maxRecDepth 20000 in
theorem gX4_step_X4_stepOf : GoodIn wsX4_step (wsV RX4 157 RX4 yX4_stepOf wsX4_stepOf) := goodIn_app (goodIn_of _ (by decide +kernel)) ggX4_step_X4_stepOf
theorem dX4_step_0 : decode cX4_step 0 = .ok (.aload_n 0, 1) := by decide +kernel
theorem dX4_step_1 : decode cX4_step 1 = .ok (.iload_n 1, 1) := by decide +kernel
theorem dX4_step_2 : decode cX4_step 2 = .ok (.invokevirtual 151, 3) := by decide +kernel
theorem dX4_step_5 : decode cX4_step 5 = .ok (.ifCond .eq 11, 3) := by decide +kernel
theorem dX4_step_8 : decode cX4_step 8 = .ok (.aload_n 0, 1) := by decide +kernel
theorem dX4_step_9 : decode cX4_step 9 = .ok (.iload_n 1, 1) := by decide +kernel
theorem dX4_step_10 : decode cX4_step 10 = .ok (.invokevirtual 157, 3) := by decide +kernel
theorem dX4_step_13 : decode cX4_step 13 = .ok (.goto 4, 3) := by decide +kernel
theorem dX4_step_16 : decode cX4_step 16 = .ok (.iconst 0, 1) := by decide +kernel
theorem dX4_step_17 : decode cX4_step 17 = .ok (.ireturn, 1) := by decide +kernel
set_option maxRecDepth 20000 in
theorem ggX4_inForce_X4_isAsked : GoodIn wsX4_inForce wsX4_isAsked := goodIn_r _ [6, 7, 8, 9, 5, 10, 11, 12, 13, 14, 15, 16, 17, 18, 19, 20, 21, 22, 23, 24, 25, 26, 27, 28, 29, 30, 31, 32, 33, 34, 35, 36, 37, 38, 39, 40, 41, 42, 43, 44, 45, 46, 47, 48, 49, 50] (by decide +kernel) (by decide +kernel)
set_option maxRecDepth 20000 in
theorem gX4_inForce_X4_isAsked : GoodIn wsX4_inForce (wsV RX4 151 RX4 yX4_isAsked wsX4_isAsked) := goodIn_app (goodIn_of _ (by decide +kernel)) ggX4_inForce_X4_isAsked
theorem dX4_inForce_0 : decode cX4_inForce 0 = .ok (.aload_n 0, 1) := by decide +kernel
theorem dX4_inForce_1 : decode cX4_inForce 1 = .ok (.iload_n 1, 1) := by decide +kernel
theorem dX4_inForce_2 : decode cX4_inForce 2 = .ok (.invokevirtual 151, 3) := by decide +kernel
theorem dX4_inForce_5 : decode cX4_inForce 5 = .ok (.ifCond .eq 14, 3) := by decide +kernel
theorem dX4_inForce_8 : decode cX4_inForce 8 = .ok (.aload_n 0, 1) := by decide +kernel
theorem dX4_inForce_9 : decode cX4_inForce 9 = .ok (.getfield 69, 3) := by decide +kernel
theorem dX4_inForce_12 : decode cX4_inForce 12 = .ok (.iload_n 1, 1) := by decide +kernel
theorem dX4_inForce_13 : decode cX4_inForce 13 = .ok (.iaload, 1) := by decide +kernel
theorem dX4_inForce_14 : decode cX4_inForce 14 = .ok (.iconst 1, 1) := by decide +kernel
theorem dX4_inForce_15 : decode cX4_inForce 15 = .ok (.isub, 1) := by decide +kernel
theorem dX4_inForce_16 : decode cX4_inForce 16 = .ok (.goto 4, 3) := by decide +kernel
theorem dX4_inForce_19 : decode cX4_inForce 19 = .ok (.iconst 0, 1) := by decide +kernel
theorem dX4_inForce_20 : decode cX4_inForce 20 = .ok (.ireturn, 1) := by decide +kernel
set_option maxRecDepth 20000 in
theorem ggX4_text_X4_isAsked : GoodIn wsX4_text wsX4_isAsked := goodIn_r _ [7, 8, 9, 10, 6, 11, 12, 13, 14, 15, 16, 17, 18, 19, 20, 21, 22, 23, 24, 25, 26, 27, 28, 29, 30, 31, 32, 33, 34, 35, 36, 37, 38, 39, 40, 41, 42, 43, 44, 45, 46, 47, 48, 49, 50, 51] (by decide +kernel) (by decide +kernel)
set_option maxRecDepth 20000 in
theorem gX4_text_X4_isAsked : GoodIn wsX4_text (wsV RX4 151 RX4 yX4_isAsked wsX4_isAsked) := goodIn_app (goodIn_of _ (by decide +kernel)) ggX4_text_X4_isAsked
theorem dX4_text_0 : decode cX4_text 0 = .ok (.aload_n 0, 1) := by decide +kernel
theorem dX4_text_1 : decode cX4_text 1 = .ok (.iload_n 1, 1) := by decide +kernel
theorem dX4_text_2 : decode cX4_text 2 = .ok (.invokevirtual 151, 3) := by decide +kernel
theorem dX4_text_5 : decode cX4_text 5 = .ok (.ifCond .eq 38, 3) := by decide +kernel
theorem dX4_text_8 : decode cX4_text 8 = .ok (.aload_n 0, 1) := by decide +kernel
theorem dX4_text_9 : decode cX4_text 9 = .ok (.getfield 69, 3) := by decide +kernel
theorem dX4_text_12 : decode cX4_text 12 = .ok (.iload_n 1, 1) := by decide +kernel
theorem dX4_text_13 : decode cX4_text 13 = .ok (.iaload, 1) := by decide +kernel
theorem dX4_text_14 : decode cX4_text 14 = .ok (.ifCond .ne 7, 3) := by decide +kernel
theorem dX4_text_17 : decode cX4_text 17 = .ok (.iconst (-1), 1) := by decide +kernel
theorem dX4_text_18 : decode cX4_text 18 = .ok (.goto 26, 3) := by decide +kernel
theorem dX4_text_21 : decode cX4_text 21 = .ok (.aload_n 0, 1) := by decide +kernel
theorem dX4_text_22 : decode cX4_text 22 = .ok (.getfield 75, 3) := by decide +kernel
theorem dX4_text_25 : decode cX4_text 25 = .ok (.sipush 400, 3) := by decide +kernel
theorem dX4_text_28 : decode cX4_text 28 = .ok (.iload_n 1, 1) := by decide +kernel
theorem dX4_text_29 : decode cX4_text 29 = .ok (.imul, 1) := by decide +kernel
theorem dX4_text_30 : decode cX4_text 30 = .ok (.aload_n 0, 1) := by decide +kernel
theorem dX4_text_31 : decode cX4_text 31 = .ok (.getfield 69, 3) := by decide +kernel
theorem dX4_text_34 : decode cX4_text 34 = .ok (.iload_n 1, 1) := by decide +kernel
theorem dX4_text_35 : decode cX4_text 35 = .ok (.iaload, 1) := by decide +kernel
theorem dX4_text_36 : decode cX4_text 36 = .ok (.iadd, 1) := by decide +kernel
theorem dX4_text_37 : decode cX4_text 37 = .ok (.iconst 1, 1) := by decide +kernel
theorem dX4_text_38 : decode cX4_text 38 = .ok (.isub, 1) := by decide +kernel
theorem dX4_text_39 : decode cX4_text 39 = .ok (.iaload, 1) := by decide +kernel
theorem dX4_text_40 : decode cX4_text 40 = .ok (.goto 4, 3) := by decide +kernel
theorem dX4_text_43 : decode cX4_text 43 = .ok (.iconst 0, 1) := by decide +kernel
theorem dX4_text_44 : decode cX4_text 44 = .ok (.ireturn, 1) := by decide +kernel
set_option maxRecDepth 20000 in
theorem ggX4_inForceOn_X4_isPaper : GoodIn wsX4_inForceOn wsX4_isPaper := goodIn_r _ [8, 9, 10, 11, 7, 12, 18, 19, 20, 21, 22, 23, 24, 25, 26, 27, 28, 29, 30, 31, 32, 33, 34, 35, 36, 37, 38, 39, 40, 41, 42, 43, 44, 45, 46, 47, 48] (by decide +kernel) (by decide +kernel)
set_option maxRecDepth 20000 in
theorem gX4_inForceOn_X4_isPaper : GoodIn wsX4_inForceOn (wsV RX4 110 RX4 yX4_isPaper wsX4_isPaper) := goodIn_app (goodIn_of _ (by decide +kernel)) ggX4_inForceOn_X4_isPaper
set_option maxRecDepth 20000 in
theorem ggX4_inForceOn_X4_isIn : GoodIn wsX4_inForceOn wsX4_isIn := goodIn_r _ [12] (by decide +kernel) (by decide +kernel)
set_option maxRecDepth 20000 in
theorem gX4_inForceOn_X4_isIn : GoodIn wsX4_inForceOn (va_wsS RX4 96 yX4_isIn wsX4_isIn) := goodIn_app (goodIn_of _ (by decide +kernel)) ggX4_inForceOn_X4_isIn
set_option maxRecDepth 20000 in
theorem ggX4_inForceOn_X4_can : GoodIn wsX4_inForceOn wsX4_can := goodIn_r _ [16, 17, 18, 19, 20, 21, 22, 23, 24, 25, 26, 27, 28, 29, 30, 31, 32, 33, 34, 35, 36, 37, 38, 39, 40, 41, 42, 43, 44, 45, 46, 47, 48] (by decide +kernel) (by decide +kernel)
set_option maxRecDepth 20000 in
theorem gX4_inForceOn_X4_can : GoodIn wsX4_inForceOn (wsV RX4 107 RX4 yX4_can wsX4_can) := goodIn_app (goodIn_of _ (by decide +kernel)) ggX4_inForceOn_X4_can
theorem dX4_inForceOn_0 : decode cX4_inForceOn 0 = .ok (.aload_n 0, 1) := by decide +kernel
theorem dX4_inForceOn_1 : decode cX4_inForceOn 1 = .ok (.aload_n 0, 1) := by decide +kernel
theorem dX4_inForceOn_2 : decode cX4_inForceOn 2 = .ok (.iload_n 1, 1) := by decide +kernel
theorem dX4_inForceOn_3 : decode cX4_inForceOn 3 = .ok (.invokevirtual 110, 3) := by decide +kernel
theorem dX4_inForceOn_6 : decode cX4_inForceOn 6 = .ok (.ifCond .ne 7, 3) := by decide +kernel
theorem dX4_inForceOn_9 : decode cX4_inForceOn 9 = .ok (.iconst 1, 1) := by decide +kernel
theorem dX4_inForceOn_10 : decode cX4_inForceOn 10 = .ok (.goto 20, 3) := by decide +kernel

theorem dX4_inForceOn_13 : decode cX4_inForceOn 13 = .ok (.iload_n 2, 1) := by decide +kernel
theorem dX4_inForceOn_14 : decode cX4_inForceOn 14 = .ok (.iconst 0, 1) := by decide +kernel
theorem dX4_inForceOn_15 : decode cX4_inForceOn 15 = .ok (.aload_n 0, 1) := by decide +kernel
theorem dX4_inForceOn_16 : decode cX4_inForceOn 16 = .ok (.getfield 132, 3) := by decide +kernel
theorem dX4_inForceOn_19 : decode cX4_inForceOn 19 = .ok (.invokestatic 96, 3) := by decide +kernel
theorem dX4_inForceOn_22 : decode cX4_inForceOn 22 = .ok (.ifCond .eq 7, 3) := by decide +kernel
theorem dX4_inForceOn_25 : decode cX4_inForceOn 25 = .ok (.iconst 0, 1) := by decide +kernel
theorem dX4_inForceOn_26 : decode cX4_inForceOn 26 = .ok (.goto 4, 3) := by decide +kernel
theorem dX4_inForceOn_29 : decode cX4_inForceOn 29 = .ok (.iconst 2, 1) := by decide +kernel
theorem dX4_inForceOn_30 : decode cX4_inForceOn 30 = .ok (.invokevirtual 107, 3) := by decide +kernel
theorem dX4_inForceOn_33 : decode cX4_inForceOn 33 = .ok (.ifCond .ne 5, 3) := by decide +kernel
theorem dX4_inForceOn_36 : decode cX4_inForceOn 36 = .ok (.iconst 0, 1) := by decide +kernel
theorem dX4_inForceOn_37 : decode cX4_inForceOn 37 = .ok (.ireturn, 1) := by decide +kernel
theorem dX4_inForceOn_38 : decode cX4_inForceOn 38 = .ok (.iconst (-1), 1) := by decide +kernel
theorem dX4_inForceOn_39 : decode cX4_inForceOn 39 = .ok (.istore_n 3, 1) := by decide +kernel
theorem dX4_inForceOn_40 : decode cX4_inForceOn 40 = .ok (.iconst 0, 1) := by decide +kernel
theorem dX4_inForceOn_41 : decode cX4_inForceOn 41 = .ok (.istore 4, 2) := by decide +kernel
theorem dX4_inForceOn_43 : decode cX4_inForceOn 43 = .ok (.iload 4, 2) := by decide +kernel
theorem dX4_inForceOn_45 : decode cX4_inForceOn 45 = .ok (.aload_n 0, 1) := by decide +kernel
theorem dX4_inForceOn_46 : decode cX4_inForceOn 46 = .ok (.getfield 69, 3) := by decide +kernel
theorem dX4_inForceOn_49 : decode cX4_inForceOn 49 = .ok (.iload_n 1, 1) := by decide +kernel
theorem dX4_inForceOn_50 : decode cX4_inForceOn 50 = .ok (.iaload, 1) := by decide +kernel
theorem dX4_inForceOn_51 : decode cX4_inForceOn 51 = .ok (.if_icmp .ge 33, 3) := by decide +kernel
theorem dX4_inForceOn_54 : decode cX4_inForceOn 54 = .ok (.aload_n 0, 1) := by decide +kernel
theorem dX4_inForceOn_55 : decode cX4_inForceOn 55 = .ok (.getfield 72, 3) := by decide +kernel
theorem dX4_inForceOn_58 : decode cX4_inForceOn 58 = .ok (.sipush 400, 3) := by decide +kernel
theorem dX4_inForceOn_61 : decode cX4_inForceOn 61 = .ok (.iload_n 1, 1) := by decide +kernel
theorem dX4_inForceOn_62 : decode cX4_inForceOn 62 = .ok (.imul, 1) := by decide +kernel
theorem dX4_inForceOn_63 : decode cX4_inForceOn 63 = .ok (.iload 4, 2) := by decide +kernel
theorem dX4_inForceOn_65 : decode cX4_inForceOn 65 = .ok (.iadd, 1) := by decide +kernel
theorem dX4_inForceOn_66 : decode cX4_inForceOn 66 = .ok (.iaload, 1) := by decide +kernel
theorem dX4_inForceOn_67 : decode cX4_inForceOn 67 = .ok (.iload_n 2, 1) := by decide +kernel
theorem dX4_inForceOn_68 : decode cX4_inForceOn 68 = .ok (.if_icmp .gt 8, 3) := by decide +kernel
theorem dX4_inForceOn_71 : decode cX4_inForceOn 71 = .ok (.iload 4, 2) := by decide +kernel
theorem dX4_inForceOn_73 : decode cX4_inForceOn 73 = .ok (.goto 4, 3) := by decide +kernel
theorem dX4_inForceOn_76 : decode cX4_inForceOn 76 = .ok (.iload_n 3, 1) := by decide +kernel
theorem dX4_inForceOn_77 : decode cX4_inForceOn 77 = .ok (.istore_n 3, 1) := by decide +kernel
theorem dX4_inForceOn_78 : decode cX4_inForceOn 78 = .ok (.iinc 4 1, 3) := by decide +kernel
theorem dX4_inForceOn_81 : decode cX4_inForceOn 81 = .ok (.goto (-38), 3) := by decide +kernel
theorem dX4_inForceOn_84 : decode cX4_inForceOn 84 = .ok (.iload_n 3, 1) := by decide +kernel
theorem dX4_inForceOn_85 : decode cX4_inForceOn 85 = .ok (.ireturn, 1) := by decide +kernel
set_option maxRecDepth 20000 in
theorem ggX4_since_X4_isPaper : GoodIn wsX4_since wsX4_isPaper := goodIn_r _ [7, 8, 9, 10, 6, 11, 17, 18, 19, 20, 21, 22, 23, 24, 25, 26, 27, 28, 29, 30, 31, 32, 33, 34, 35, 36, 37, 38, 39, 40, 41, 42, 43, 44, 45, 46, 47] (by decide +kernel) (by decide +kernel)
set_option maxRecDepth 20000 in
theorem gX4_since_X4_isPaper : GoodIn wsX4_since (wsV RX4 110 RX4 yX4_isPaper wsX4_isPaper) := goodIn_app (goodIn_of _ (by decide +kernel)) ggX4_since_X4_isPaper
set_option maxRecDepth 20000 in
theorem ggX4_since_X4_isIn : GoodIn wsX4_since wsX4_isIn := goodIn_r _ [11] (by decide +kernel) (by decide +kernel)
set_option maxRecDepth 20000 in
theorem gX4_since_X4_isIn : GoodIn wsX4_since (va_wsS RX4 96 yX4_isIn wsX4_isIn) := goodIn_app (goodIn_of _ (by decide +kernel)) ggX4_since_X4_isIn
set_option maxRecDepth 20000 in
theorem ggX4_since_X4_can : GoodIn wsX4_since wsX4_can := goodIn_r _ [15, 16, 17, 18, 19, 20, 21, 22, 23, 24, 25, 26, 27, 28, 29, 30, 31, 32, 33, 34, 35, 36, 37, 38, 39, 40, 41, 42, 43, 44, 45, 46, 47] (by decide +kernel) (by decide +kernel)
set_option maxRecDepth 20000 in
theorem gX4_since_X4_can : GoodIn wsX4_since (wsV RX4 107 RX4 yX4_can wsX4_can) := goodIn_app (goodIn_of _ (by decide +kernel)) ggX4_since_X4_can
theorem dX4_since_0 : decode cX4_since 0 = .ok (.aload_n 0, 1) := by decide +kernel
theorem dX4_since_1 : decode cX4_since 1 = .ok (.aload_n 0, 1) := by decide +kernel
theorem dX4_since_2 : decode cX4_since 2 = .ok (.iload_n 1, 1) := by decide +kernel
theorem dX4_since_3 : decode cX4_since 3 = .ok (.invokevirtual 110, 3) := by decide +kernel
theorem dX4_since_6 : decode cX4_since 6 = .ok (.ifCond .eq 23, 3) := by decide +kernel
theorem dX4_since_9 : decode cX4_since 9 = .ok (.iload_n 2, 1) := by decide +kernel
theorem dX4_since_10 : decode cX4_since 10 = .ok (.iconst 0, 1) := by decide +kernel
theorem dX4_since_11 : decode cX4_since 11 = .ok (.aload_n 0, 1) := by decide +kernel
theorem dX4_since_12 : decode cX4_since 12 = .ok (.getfield 69, 3) := by decide +kernel
theorem dX4_since_15 : decode cX4_since 15 = .ok (.iload_n 1, 1) := by decide +kernel
theorem dX4_since_16 : decode cX4_since 16 = .ok (.iaload, 1) := by decide +kernel
theorem dX4_since_17 : decode cX4_since 17 = .ok (.iconst 1, 1) := by decide +kernel
theorem dX4_since_18 : decode cX4_since 18 = .ok (.isub, 1) := by decide +kernel
theorem dX4_since_19 : decode cX4_since 19 = .ok (.invokestatic 96, 3) := by decide +kernel
theorem dX4_since_22 : decode cX4_since 22 = .ok (.ifCond .eq 7, 3) := by decide +kernel
theorem dX4_since_25 : decode cX4_since 25 = .ok (.iconst 0, 1) := by decide +kernel
theorem dX4_since_26 : decode cX4_since 26 = .ok (.goto 4, 3) := by decide +kernel
theorem dX4_since_29 : decode cX4_since 29 = .ok (.iconst 1, 1) := by decide +kernel
theorem dX4_since_30 : decode cX4_since 30 = .ok (.invokevirtual 107, 3) := by decide +kernel
theorem dX4_since_33 : decode cX4_since 33 = .ok (.ifCond .eq 18, 3) := by decide +kernel
theorem dX4_since_36 : decode cX4_since 36 = .ok (.aload_n 0, 1) := by decide +kernel
theorem dX4_since_37 : decode cX4_since 37 = .ok (.getfield 72, 3) := by decide +kernel
theorem dX4_since_40 : decode cX4_since 40 = .ok (.sipush 400, 3) := by decide +kernel
theorem dX4_since_43 : decode cX4_since 43 = .ok (.iload_n 1, 1) := by decide +kernel
theorem dX4_since_44 : decode cX4_since 44 = .ok (.imul, 1) := by decide +kernel
theorem dX4_since_45 : decode cX4_since 45 = .ok (.iload_n 2, 1) := by decide +kernel
theorem dX4_since_46 : decode cX4_since 46 = .ok (.iadd, 1) := by decide +kernel
theorem dX4_since_47 : decode cX4_since 47 = .ok (.iaload, 1) := by decide +kernel
theorem dX4_since_48 : decode cX4_since 48 = .ok (.goto 4, 3) := by decide +kernel
theorem dX4_since_51 : decode cX4_since 51 = .ok (.iconst 0, 1) := by decide +kernel
theorem dX4_since_52 : decode cX4_since 52 = .ok (.ireturn, 1) := by decide +kernel
set_option maxRecDepth 20000 in
theorem ggX4_waitsFor_X4_isAsked : GoodIn wsX4_waitsFor wsX4_isAsked := goodIn_r _ [6, 7, 8, 9, 5, 10, 11, 12, 13, 14, 15, 16, 17, 18, 19, 49, 50, 51, 52, 53, 54, 55, 56, 57, 58, 59, 60, 61, 62, 63, 64, 65, 66, 67, 68, 69, 70, 71, 72, 73, 74, 75, 76, 77, 78, 79] (by decide +kernel) (by decide +kernel)
set_option maxRecDepth 20000 in
theorem gX4_waitsFor_X4_isAsked : GoodIn wsX4_waitsFor (wsV RX4 151 RX4 yX4_isAsked wsX4_isAsked) := goodIn_app (goodIn_of _ (by decide +kernel)) ggX4_waitsFor_X4_isAsked
set_option maxRecDepth 20000 in
theorem ggX4_waitsFor_X4_stepOf : GoodIn wsX4_waitsFor wsX4_stepOf := goodIn_r _ [23, 24, 25, 26, 27, 28, 29, 5, 30, 31, 32, 33, 34, 35, 36, 37, 38, 39, 40, 41, 42, 43, 44, 45, 46, 47, 48, 49, 50, 51, 52, 53, 54, 55, 56, 57, 58, 59, 60, 61, 62, 63, 64, 65, 66, 67, 68, 69, 70, 71, 72, 73, 74, 75, 76, 77, 78, 79] (by decide +kernel) (by decide +kernel)
set_option maxRecDepth 20000 in
theorem gX4_waitsFor_X4_stepOf : GoodIn wsX4_waitsFor (wsV RX4 157 RX4 yX4_stepOf wsX4_stepOf) := goodIn_app (goodIn_of _ (by decide +kernel)) ggX4_waitsFor_X4_stepOf
set_option maxRecDepth 20000 in
theorem ggX4_waitsFor_X4_nextReviewer : GoodIn wsX4_waitsFor wsX4_nextReviewer := goodIn_r _ [30, 25, 31, 32, 49, 50, 51, 52, 53, 54, 55, 56, 57, 58, 59, 60, 61, 62, 63, 64, 65, 66, 67, 68, 69, 70, 71, 72, 73, 74, 75, 76, 77, 78, 79] (by decide +kernel) (by decide +kernel)
set_option maxRecDepth 20000 in
theorem gX4_waitsFor_X4_nextReviewer : GoodIn wsX4_waitsFor (wsV RX4 125 RX4 yX4_nextReviewer wsX4_nextReviewer) := goodIn_app (goodIn_of _ (by decide +kernel)) ggX4_waitsFor_X4_nextReviewer
set_option maxRecDepth 20000 in
theorem ggX4_waitsFor_X4_nextReader : GoodIn wsX4_waitsFor wsX4_nextReader := goodIn_r _ [46, 47, 48, 49, 50, 51, 52, 53, 54, 55, 56, 57, 58, 59, 60, 61, 62, 63, 64, 65, 66, 67, 68, 69, 70, 71, 72, 73, 74, 75, 76, 77, 78, 79] (by decide +kernel) (by decide +kernel)
set_option maxRecDepth 20000 in
theorem gX4_waitsFor_X4_nextReader : GoodIn wsX4_waitsFor (wsV RX4 142 RX4 yX4_nextReader wsX4_nextReader) := goodIn_app (goodIn_of _ (by decide +kernel)) ggX4_waitsFor_X4_nextReader
theorem dX4_waitsFor_0 : decode cX4_waitsFor 0 = .ok (.aload_n 0, 1) := by decide +kernel
theorem dX4_waitsFor_1 : decode cX4_waitsFor 1 = .ok (.iload_n 1, 1) := by decide +kernel
theorem dX4_waitsFor_2 : decode cX4_waitsFor 2 = .ok (.invokevirtual 151, 3) := by decide +kernel
theorem dX4_waitsFor_5 : decode cX4_waitsFor 5 = .ok (.ifCond .ne 5, 3) := by decide +kernel
theorem dX4_waitsFor_8 : decode cX4_waitsFor 8 = .ok (.iconst 0, 1) := by decide +kernel
theorem dX4_waitsFor_9 : decode cX4_waitsFor 9 = .ok (.ireturn, 1) := by decide +kernel
theorem dX4_waitsFor_10 : decode cX4_waitsFor 10 = .ok (.aload_n 0, 1) := by decide +kernel
theorem dX4_waitsFor_11 : decode cX4_waitsFor 11 = .ok (.iload_n 1, 1) := by decide +kernel
theorem dX4_waitsFor_12 : decode cX4_waitsFor 12 = .ok (.invokevirtual 157, 3) := by decide +kernel
theorem dX4_waitsFor_15 : decode cX4_waitsFor 15 = .ok (.istore_n 2, 1) := by decide +kernel
theorem dX4_waitsFor_16 : decode cX4_waitsFor 16 = .ok (.iload_n 2, 1) := by decide +kernel
theorem dX4_waitsFor_17 : decode cX4_waitsFor 17 = .ok (.iconst 1, 1) := by decide +kernel
theorem dX4_waitsFor_18 : decode cX4_waitsFor 18 = .ok (.if_icmp .ne 11, 3) := by decide +kernel
theorem dX4_waitsFor_21 : decode cX4_waitsFor 21 = .ok (.aload_n 0, 1) := by decide +kernel
theorem dX4_waitsFor_22 : decode cX4_waitsFor 22 = .ok (.iload_n 1, 1) := by decide +kernel
theorem dX4_waitsFor_23 : decode cX4_waitsFor 23 = .ok (.invokevirtual 125, 3) := by decide +kernel
theorem dX4_waitsFor_26 : decode cX4_waitsFor 26 = .ok (.goto 31, 3) := by decide +kernel
theorem dX4_waitsFor_29 : decode cX4_waitsFor 29 = .ok (.iload_n 2, 1) := by decide +kernel
theorem dX4_waitsFor_30 : decode cX4_waitsFor 30 = .ok (.iconst 2, 1) := by decide +kernel
theorem dX4_waitsFor_31 : decode cX4_waitsFor 31 = .ok (.if_icmp .ne 12, 3) := by decide +kernel
theorem dX4_waitsFor_34 : decode cX4_waitsFor 34 = .ok (.aload_n 0, 1) := by decide +kernel
theorem dX4_waitsFor_35 : decode cX4_waitsFor 35 = .ok (.getfield 33, 3) := by decide +kernel
theorem dX4_waitsFor_38 : decode cX4_waitsFor 38 = .ok (.iload_n 1, 1) := by decide +kernel
theorem dX4_waitsFor_39 : decode cX4_waitsFor 39 = .ok (.iaload, 1) := by decide +kernel
theorem dX4_waitsFor_40 : decode cX4_waitsFor 40 = .ok (.goto 17, 3) := by decide +kernel
theorem dX4_waitsFor_43 : decode cX4_waitsFor 43 = .ok (.iload_n 2, 1) := by decide +kernel
theorem dX4_waitsFor_44 : decode cX4_waitsFor 44 = .ok (.iconst 4, 1) := by decide +kernel
theorem dX4_waitsFor_45 : decode cX4_waitsFor 45 = .ok (.if_icmp .ne 11, 3) := by decide +kernel
theorem dX4_waitsFor_48 : decode cX4_waitsFor 48 = .ok (.aload_n 0, 1) := by decide +kernel
theorem dX4_waitsFor_49 : decode cX4_waitsFor 49 = .ok (.iload_n 1, 1) := by decide +kernel
theorem dX4_waitsFor_50 : decode cX4_waitsFor 50 = .ok (.invokevirtual 142, 3) := by decide +kernel
theorem dX4_waitsFor_53 : decode cX4_waitsFor 53 = .ok (.goto 4, 3) := by decide +kernel
theorem dX4_waitsFor_56 : decode cX4_waitsFor 56 = .ok (.iconst (-1), 1) := by decide +kernel
theorem dX4_waitsFor_57 : decode cX4_waitsFor 57 = .ok (.ireturn, 1) := by decide +kernel

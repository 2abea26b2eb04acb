theorem dX0_init_0 : decode cX0_init 0 = .ok (.aload_n 0, 1) := by decide +kernel
theorem dX0_init_1 : decode cX0_init 1 = .ok (.invokespecial 3, 3) := by decide +kernel
theorem dX0_init_4 : decode cX0_init 4 = .ok (.aload_n 0, 1) := by decide +kernel
theorem dX0_init_5 : decode cX0_init 5 = .ok (.bipush 30, 2) := by decide +kernel
theorem dX0_init_7 : decode cX0_init 7 = .ok (.newarray .int, 2) := by decide +kernel
theorem dX0_init_9 : decode cX0_init 9 = .ok (.putfield 9, 3) := by decide +kernel
theorem dX0_init_12 : decode cX0_init 12 = .ok (.aload_n 0, 1) := by decide +kernel
theorem dX0_init_13 : decode cX0_init 13 = .ok (.bipush 30, 2) := by decide +kernel
theorem dX0_init_15 : decode cX0_init 15 = .ok (.newarray .int, 2) := by decide +kernel
theorem dX0_init_17 : decode cX0_init 17 = .ok (.putfield 15, 3) := by decide +kernel
theorem dX0_init_20 : decode cX0_init 20 = .ok (.aload_n 0, 1) := by decide +kernel
theorem dX0_init_21 : decode cX0_init 21 = .ok (.bipush 30, 2) := by decide +kernel
theorem dX0_init_23 : decode cX0_init 23 = .ok (.newarray .int, 2) := by decide +kernel
theorem dX0_init_25 : decode cX0_init 25 = .ok (.putfield 18, 3) := by decide +kernel
theorem dX0_init_28 : decode cX0_init 28 = .ok (.return_, 1) := by decide +kernel
theorem dX0_add_0 : decode cX0_add 0 = .ok (.aload_n 0, 1) := by decide +kernel
theorem dX0_add_1 : decode cX0_add 1 = .ok (.getfield 21, 3) := by decide +kernel
theorem dX0_add_4 : decode cX0_add 4 = .ok (.istore 4, 2) := by decide +kernel
theorem dX0_add_6 : decode cX0_add 6 = .ok (.iload 4, 2) := by decide +kernel
theorem dX0_add_8 : decode cX0_add 8 = .ok (.bipush 30, 2) := by decide +kernel
theorem dX0_add_10 : decode cX0_add 10 = .ok (.if_icmp .ge 37, 3) := by decide +kernel
theorem dX0_add_13 : decode cX0_add 13 = .ok (.aload_n 0, 1) := by decide +kernel
theorem dX0_add_14 : decode cX0_add 14 = .ok (.getfield 9, 3) := by decide +kernel
theorem dX0_add_17 : decode cX0_add 17 = .ok (.iload 4, 2) := by decide +kernel
theorem dX0_add_19 : decode cX0_add 19 = .ok (.iload_n 1, 1) := by decide +kernel
theorem dX0_add_20 : decode cX0_add 20 = .ok (.iastore, 1) := by decide +kernel
theorem dX0_add_21 : decode cX0_add 21 = .ok (.aload_n 0, 1) := by decide +kernel
theorem dX0_add_22 : decode cX0_add 22 = .ok (.getfield 15, 3) := by decide +kernel
theorem dX0_add_25 : decode cX0_add 25 = .ok (.iload 4, 2) := by decide +kernel
theorem dX0_add_27 : decode cX0_add 27 = .ok (.iload_n 2, 1) := by decide +kernel
theorem dX0_add_28 : decode cX0_add 28 = .ok (.iastore, 1) := by decide +kernel
theorem dX0_add_29 : decode cX0_add 29 = .ok (.aload_n 0, 1) := by decide +kernel
theorem dX0_add_30 : decode cX0_add 30 = .ok (.getfield 18, 3) := by decide +kernel
theorem dX0_add_33 : decode cX0_add 33 = .ok (.iload 4, 2) := by decide +kernel
theorem dX0_add_35 : decode cX0_add 35 = .ok (.iload_n 3, 1) := by decide +kernel
theorem dX0_add_36 : decode cX0_add 36 = .ok (.iastore, 1) := by decide +kernel
theorem dX0_add_37 : decode cX0_add 37 = .ok (.aload_n 0, 1) := by decide +kernel
theorem dX0_add_38 : decode cX0_add 38 = .ok (.dup, 1) := by decide +kernel
theorem dX0_add_39 : decode cX0_add 39 = .ok (.getfield 21, 3) := by decide +kernel
theorem dX0_add_42 : decode cX0_add 42 = .ok (.iconst 1, 1) := by decide +kernel
theorem dX0_add_43 : decode cX0_add 43 = .ok (.iadd, 1) := by decide +kernel
theorem dX0_add_44 : decode cX0_add 44 = .ok (.putfield 21, 3) := by decide +kernel
theorem dX0_add_47 : decode cX0_add 47 = .ok (.iload 4, 2) := by decide +kernel
theorem dX0_add_49 : decode cX0_add 49 = .ok (.ireturn, 1) := by decide +kernel
theorem dX0_countOld_0 : decode cX0_countOld 0 = .ok (.iconst 0, 1) := by decide +kernel
theorem dX0_countOld_1 : decode cX0_countOld 1 = .ok (.istore_n 3, 1) := by decide +kernel
theorem dX0_countOld_2 : decode cX0_countOld 2 = .ok (.iconst 0, 1) := by decide +kernel
theorem dX0_countOld_3 : decode cX0_countOld 3 = .ok (.istore 4, 2) := by decide +kernel
theorem dX0_countOld_5 : decode cX0_countOld 5 = .ok (.iload 4, 2) := by decide +kernel
theorem dX0_countOld_7 : decode cX0_countOld 7 = .ok (.aload_n 0, 1) := by decide +kernel
theorem dX0_countOld_8 : decode cX0_countOld 8 = .ok (.getfield 21, 3) := by decide +kernel
theorem dX0_countOld_11 : decode cX0_countOld 11 = .ok (.if_icmp .ge 45, 3) := by decide +kernel
theorem dX0_countOld_14 : decode cX0_countOld 14 = .ok (.aload_n 0, 1) := by decide +kernel
theorem dX0_countOld_15 : decode cX0_countOld 15 = .ok (.getfield 18, 3) := by decide +kernel
theorem dX0_countOld_18 : decode cX0_countOld 18 = .ok (.iload 4, 2) := by decide +kernel
theorem dX0_countOld_20 : decode cX0_countOld 20 = .ok (.iaload, 1) := by decide +kernel
theorem dX0_countOld_21 : decode cX0_countOld 21 = .ok (.iconst (-1), 1) := by decide +kernel
theorem dX0_countOld_22 : decode cX0_countOld 22 = .ok (.if_icmp .eq 28, 3) := by decide +kernel
theorem dX0_countOld_25 : decode cX0_countOld 25 = .ok (.aload_n 0, 1) := by decide +kernel
theorem dX0_countOld_26 : decode cX0_countOld 26 = .ok (.getfield 9, 3) := by decide +kernel
theorem dX0_countOld_29 : decode cX0_countOld 29 = .ok (.iload 4, 2) := by decide +kernel
theorem dX0_countOld_31 : decode cX0_countOld 31 = .ok (.iaload, 1) := by decide +kernel
theorem dX0_countOld_32 : decode cX0_countOld 32 = .ok (.iload_n 1, 1) := by decide +kernel
theorem dX0_countOld_33 : decode cX0_countOld 33 = .ok (.if_icmp .ne 17, 3) := by decide +kernel
theorem dX0_countOld_36 : decode cX0_countOld 36 = .ok (.aload_n 0, 1) := by decide +kernel
theorem dX0_countOld_37 : decode cX0_countOld 37 = .ok (.getfield 15, 3) := by decide +kernel
theorem dX0_countOld_40 : decode cX0_countOld 40 = .ok (.iload 4, 2) := by decide +kernel
theorem dX0_countOld_42 : decode cX0_countOld 42 = .ok (.iaload, 1) := by decide +kernel
theorem dX0_countOld_43 : decode cX0_countOld 43 = .ok (.iload_n 2, 1) := by decide +kernel
theorem dX0_countOld_44 : decode cX0_countOld 44 = .ok (.if_icmp .eq 6, 3) := by decide +kernel
theorem dX0_countOld_47 : decode cX0_countOld 47 = .ok (.iinc 3 1, 3) := by decide +kernel
theorem dX0_countOld_50 : decode cX0_countOld 50 = .ok (.iinc 4 1, 3) := by decide +kernel
theorem dX0_countOld_53 : decode cX0_countOld 53 = .ok (.goto (-48), 3) := by decide +kernel
theorem dX0_countOld_56 : decode cX0_countOld 56 = .ok (.iload_n 3, 1) := by decide +kernel
theorem dX0_countOld_57 : decode cX0_countOld 57 = .ok (.ireturn, 1) := by decide +kernel
theorem dX1_init_0 : decode cX1_init 0 = .ok (.aload_n 0, 1) := by decide +kernel
theorem dX1_init_1 : decode cX1_init 1 = .ok (.invokespecial 3, 3) := by decide +kernel
theorem dX1_init_4 : decode cX1_init 4 = .ok (.aload_n 0, 1) := by decide +kernel
theorem dX1_init_5 : decode cX1_init 5 = .ok (.iconst 4, 1) := by decide +kernel
theorem dX1_init_6 : decode cX1_init 6 = .ok (.newarray .int, 2) := by decide +kernel
theorem dX1_init_8 : decode cX1_init 8 = .ok (.putfield 9, 3) := by decide +kernel
theorem dX1_init_11 : decode cX1_init 11 = .ok (.aload_n 0, 1) := by decide +kernel
theorem dX1_init_12 : decode cX1_init 12 = .ok (.bipush 6, 2) := by decide +kernel
theorem dX1_init_14 : decode cX1_init 14 = .ok (.newarray .boolean, 2) := by decide +kernel
theorem dX1_init_16 : decode cX1_init 16 = .ok (.putfield 15, 3) := by decide +kernel
theorem dX1_init_19 : decode cX1_init 19 = .ok (.aload_n 0, 1) := by decide +kernel
theorem dX1_init_20 : decode cX1_init 20 = .ok (.iconst 4, 1) := by decide +kernel
theorem dX1_init_21 : decode cX1_init 21 = .ok (.newarray .boolean, 2) := by decide +kernel
theorem dX1_init_23 : decode cX1_init 23 = .ok (.putfield 19, 3) := by decide +kernel
theorem dX1_init_26 : decode cX1_init 26 = .ok (.aload_n 0, 1) := by decide +kernel
theorem dX1_init_27 : decode cX1_init 27 = .ok (.bipush 6, 2) := by decide +kernel
theorem dX1_init_29 : decode cX1_init 29 = .ok (.newarray .boolean, 2) := by decide +kernel
theorem dX1_init_31 : decode cX1_init 31 = .ok (.putfield 22, 3) := by decide +kernel
theorem dX1_init_34 : decode cX1_init 34 = .ok (.aload_n 0, 1) := by decide +kernel
theorem dX1_init_35 : decode cX1_init 35 = .ok (.bipush 6, 2) := by decide +kernel
theorem dX1_init_37 : decode cX1_init 37 = .ok (.newarray .boolean, 2) := by decide +kernel
theorem dX1_init_39 : decode cX1_init 39 = .ok (.putfield 25, 3) := by decide +kernel
theorem dX1_init_42 : decode cX1_init 42 = .ok (.return_, 1) := by decide +kernel
set_option maxRecDepth 20000 in
theorem ggX1_begin_X1_beginRound : GoodIn wsX1_begin wsX1_beginRound := goodIn_r _ [10, 3, 11, 12, 13, 14, 15, 16, 17, 18, 19, 20, 21, 22, 23, 24, 25, 26] (by decide +kernel) (by decide +kernel)
set_option maxRecDepth 20000 in
theorem gX1_begin_X1_beginRound : GoodIn wsX1_begin (wsV RX1 41 RX1 yX1_beginRound wsX1_beginRound) := goodIn_app (goodIn_of _ (by decide +kernel)) ggX1_begin_X1_beginRound
theorem dX1_begin_0 : decode cX1_begin 0 = .ok (.aload_n 0, 1) := by decide +kernel
theorem dX1_begin_1 : decode cX1_begin 1 = .ok (.iload_n 1, 1) := by decide +kernel
theorem dX1_begin_2 : decode cX1_begin 2 = .ok (.putfield 28, 3) := by decide +kernel
theorem dX1_begin_5 : decode cX1_begin 5 = .ok (.aload_n 0, 1) := by decide +kernel
theorem dX1_begin_6 : decode cX1_begin 6 = .ok (.iload_n 2, 1) := by decide +kernel
theorem dX1_begin_7 : decode cX1_begin 7 = .ok (.putfield 32, 3) := by decide +kernel
theorem dX1_begin_10 : decode cX1_begin 10 = .ok (.aload_n 0, 1) := by decide +kernel
theorem dX1_begin_11 : decode cX1_begin 11 = .ok (.iconst 0, 1) := by decide +kernel
theorem dX1_begin_12 : decode cX1_begin 12 = .ok (.putfield 35, 3) := by decide +kernel
theorem dX1_begin_15 : decode cX1_begin 15 = .ok (.aload_n 0, 1) := by decide +kernel
theorem dX1_begin_16 : decode cX1_begin 16 = .ok (.iconst 0, 1) := by decide +kernel
theorem dX1_begin_17 : decode cX1_begin 17 = .ok (.putfield 38, 3) := by decide +kernel
theorem dX1_begin_20 : decode cX1_begin 20 = .ok (.iconst 0, 1) := by decide +kernel
theorem dX1_begin_21 : decode cX1_begin 21 = .ok (.istore_n 3, 1) := by decide +kernel
theorem dX1_begin_22 : decode cX1_begin 22 = .ok (.iload_n 3, 1) := by decide +kernel
theorem dX1_begin_23 : decode cX1_begin 23 = .ok (.bipush 6, 2) := by decide +kernel
theorem dX1_begin_25 : decode cX1_begin 25 = .ok (.if_icmp .ge 16, 3) := by decide +kernel
theorem dX1_begin_28 : decode cX1_begin 28 = .ok (.aload_n 0, 1) := by decide +kernel
theorem dX1_begin_29 : decode cX1_begin 29 = .ok (.getfield 22, 3) := by decide +kernel
theorem dX1_begin_32 : decode cX1_begin 32 = .ok (.iload_n 3, 1) := by decide +kernel
theorem dX1_begin_33 : decode cX1_begin 33 = .ok (.iconst 0, 1) := by decide +kernel
theorem dX1_begin_34 : decode cX1_begin 34 = .ok (.bastore, 1) := by decide +kernel
theorem dX1_begin_35 : decode cX1_begin 35 = .ok (.iinc 3 1, 3) := by decide +kernel
theorem dX1_begin_38 : decode cX1_begin 38 = .ok (.goto (-16), 3) := by decide +kernel
theorem dX1_begin_41 : decode cX1_begin 41 = .ok (.aload_n 0, 1) := by decide +kernel
theorem dX1_begin_42 : decode cX1_begin 42 = .ok (.invokevirtual 41, 3) := by decide +kernel
theorem dX1_begin_45 : decode cX1_begin 45 = .ok (.return_, 1) := by decide +kernel
theorem dX1_beginRound_0 : decode cX1_beginRound 0 = .ok (.aload_n 0, 1) := by decide +kernel
theorem dX1_beginRound_1 : decode cX1_beginRound 1 = .ok (.dup, 1) := by decide +kernel
theorem dX1_beginRound_2 : decode cX1_beginRound 2 = .ok (.getfield 35, 3) := by decide +kernel
theorem dX1_beginRound_5 : decode cX1_beginRound 5 = .ok (.iconst 1, 1) := by decide +kernel
theorem dX1_beginRound_6 : decode cX1_beginRound 6 = .ok (.iadd, 1) := by decide +kernel
theorem dX1_beginRound_7 : decode cX1_beginRound 7 = .ok (.putfield 35, 3) := by decide +kernel
theorem dX1_beginRound_10 : decode cX1_beginRound 10 = .ok (.aload_n 0, 1) := by decide +kernel
theorem dX1_beginRound_11 : decode cX1_beginRound 11 = .ok (.iconst 0, 1) := by decide +kernel
theorem dX1_beginRound_12 : decode cX1_beginRound 12 = .ok (.putfield 44, 3) := by decide +kernel
theorem dX1_beginRound_15 : decode cX1_beginRound 15 = .ok (.aload_n 0, 1) := by decide +kernel
theorem dX1_beginRound_16 : decode cX1_beginRound 16 = .ok (.iconst 0, 1) := by decide +kernel
theorem dX1_beginRound_17 : decode cX1_beginRound 17 = .ok (.putfield 47, 3) := by decide +kernel
theorem dX1_beginRound_20 : decode cX1_beginRound 20 = .ok (.iconst 0, 1) := by decide +kernel
theorem dX1_beginRound_21 : decode cX1_beginRound 21 = .ok (.istore_n 1, 1) := by decide +kernel
theorem dX1_beginRound_22 : decode cX1_beginRound 22 = .ok (.iload_n 1, 1) := by decide +kernel
theorem dX1_beginRound_23 : decode cX1_beginRound 23 = .ok (.bipush 6, 2) := by decide +kernel
theorem dX1_beginRound_25 : decode cX1_beginRound 25 = .ok (.if_icmp .ge 23, 3) := by decide +kernel
theorem dX1_beginRound_28 : decode cX1_beginRound 28 = .ok (.aload_n 0, 1) := by decide +kernel
theorem dX1_beginRound_29 : decode cX1_beginRound 29 = .ok (.getfield 15, 3) := by decide +kernel
theorem dX1_beginRound_32 : decode cX1_beginRound 32 = .ok (.iload_n 1, 1) := by decide +kernel
theorem dX1_beginRound_33 : decode cX1_beginRound 33 = .ok (.iconst 0, 1) := by decide +kernel
theorem dX1_beginRound_34 : decode cX1_beginRound 34 = .ok (.bastore, 1) := by decide +kernel
theorem dX1_beginRound_35 : decode cX1_beginRound 35 = .ok (.aload_n 0, 1) := by decide +kernel
theorem dX1_beginRound_36 : decode cX1_beginRound 36 = .ok (.getfield 25, 3) := by decide +kernel
theorem dX1_beginRound_39 : decode cX1_beginRound 39 = .ok (.iload_n 1, 1) := by decide +kernel
theorem dX1_beginRound_40 : decode cX1_beginRound 40 = .ok (.iconst 0, 1) := by decide +kernel
theorem dX1_beginRound_41 : decode cX1_beginRound 41 = .ok (.bastore, 1) := by decide +kernel
theorem dX1_beginRound_42 : decode cX1_beginRound 42 = .ok (.iinc 1 1, 3) := by decide +kernel
theorem dX1_beginRound_45 : decode cX1_beginRound 45 = .ok (.goto (-23), 3) := by decide +kernel
theorem dX1_beginRound_48 : decode cX1_beginRound 48 = .ok (.return_, 1) := by decide +kernel
theorem dX1_hasReviewer_0 : decode cX1_hasReviewer 0 = .ok (.iconst 0, 1) := by decide +kernel
theorem dX1_hasReviewer_1 : decode cX1_hasReviewer 1 = .ok (.istore_n 2, 1) := by decide +kernel
theorem dX1_hasReviewer_2 : decode cX1_hasReviewer 2 = .ok (.iload_n 2, 1) := by decide +kernel
theorem dX1_hasReviewer_3 : decode cX1_hasReviewer 3 = .ok (.aload_n 0, 1) := by decide +kernel
theorem dX1_hasReviewer_4 : decode cX1_hasReviewer 4 = .ok (.getfield 38, 3) := by decide +kernel
theorem dX1_hasReviewer_7 : decode cX1_hasReviewer 7 = .ok (.if_icmp .ge 21, 3) := by decide +kernel
theorem dX1_hasReviewer_10 : decode cX1_hasReviewer 10 = .ok (.aload_n 0, 1) := by decide +kernel
theorem dX1_hasReviewer_11 : decode cX1_hasReviewer 11 = .ok (.getfield 9, 3) := by decide +kernel
theorem dX1_hasReviewer_14 : decode cX1_hasReviewer 14 = .ok (.iload_n 2, 1) := by decide +kernel
theorem dX1_hasReviewer_15 : decode cX1_hasReviewer 15 = .ok (.iaload, 1) := by decide +kernel
theorem dX1_hasReviewer_16 : decode cX1_hasReviewer 16 = .ok (.iload_n 1, 1) := by decide +kernel
theorem dX1_hasReviewer_17 : decode cX1_hasReviewer 17 = .ok (.if_icmp .ne 5, 3) := by decide +kernel
theorem dX1_hasReviewer_20 : decode cX1_hasReviewer 20 = .ok (.iconst 1, 1) := by decide +kernel
theorem dX1_hasReviewer_21 : decode cX1_hasReviewer 21 = .ok (.ireturn, 1) := by decide +kernel
theorem dX1_hasReviewer_22 : decode cX1_hasReviewer 22 = .ok (.iinc 2 1, 3) := by decide +kernel
theorem dX1_hasReviewer_25 : decode cX1_hasReviewer 25 = .ok (.goto (-23), 3) := by decide +kernel
theorem dX1_hasReviewer_28 : decode cX1_hasReviewer 28 = .ok (.iconst 0, 1) := by decide +kernel
theorem dX1_hasReviewer_29 : decode cX1_hasReviewer 29 = .ok (.ireturn, 1) := by decide +kernel
theorem dX1_nextReviewer_0 : decode cX1_nextReviewer 0 = .ok (.iconst 0, 1) := by decide +kernel
theorem dX1_nextReviewer_1 : decode cX1_nextReviewer 1 = .ok (.istore_n 1, 1) := by decide +kernel
theorem dX1_nextReviewer_2 : decode cX1_nextReviewer 2 = .ok (.iload_n 1, 1) := by decide +kernel
theorem dX1_nextReviewer_3 : decode cX1_nextReviewer 3 = .ok (.aload_n 0, 1) := by decide +kernel
theorem dX1_nextReviewer_4 : decode cX1_nextReviewer 4 = .ok (.getfield 38, 3) := by decide +kernel
theorem dX1_nextReviewer_7 : decode cX1_nextReviewer 7 = .ok (.if_icmp .ge 30, 3) := by decide +kernel
theorem dX1_nextReviewer_10 : decode cX1_nextReviewer 10 = .ok (.aload_n 0, 1) := by decide +kernel
theorem dX1_nextReviewer_11 : decode cX1_nextReviewer 11 = .ok (.getfield 15, 3) := by decide +kernel
theorem dX1_nextReviewer_14 : decode cX1_nextReviewer 14 = .ok (.aload_n 0, 1) := by decide +kernel
theorem dX1_nextReviewer_15 : decode cX1_nextReviewer 15 = .ok (.getfield 9, 3) := by decide +kernel
theorem dX1_nextReviewer_18 : decode cX1_nextReviewer 18 = .ok (.iload_n 1, 1) := by decide +kernel
theorem dX1_nextReviewer_19 : decode cX1_nextReviewer 19 = .ok (.iaload, 1) := by decide +kernel
theorem dX1_nextReviewer_20 : decode cX1_nextReviewer 20 = .ok (.baload, 1) := by decide +kernel
theorem dX1_nextReviewer_21 : decode cX1_nextReviewer 21 = .ok (.ifCond .ne 10, 3) := by decide +kernel
theorem dX1_nextReviewer_24 : decode cX1_nextReviewer 24 = .ok (.aload_n 0, 1) := by decide +kernel
theorem dX1_nextReviewer_25 : decode cX1_nextReviewer 25 = .ok (.getfield 9, 3) := by decide +kernel
theorem dX1_nextReviewer_28 : decode cX1_nextReviewer 28 = .ok (.iload_n 1, 1) := by decide +kernel
theorem dX1_nextReviewer_29 : decode cX1_nextReviewer 29 = .ok (.iaload, 1) := by decide +kernel
theorem dX1_nextReviewer_30 : decode cX1_nextReviewer 30 = .ok (.ireturn, 1) := by decide +kernel
theorem dX1_nextReviewer_31 : decode cX1_nextReviewer 31 = .ok (.iinc 1 1, 3) := by decide +kernel
theorem dX1_nextReviewer_34 : decode cX1_nextReviewer 34 = .ok (.goto (-32), 3) := by decide +kernel
theorem dX1_nextReviewer_37 : decode cX1_nextReviewer 37 = .ok (.iconst (-1), 1) := by decide +kernel
theorem dX1_nextReviewer_38 : decode cX1_nextReviewer 38 = .ok (.ireturn, 1) := by decide +kernel
theorem dX1_nextReader_0 : decode cX1_nextReader 0 = .ok (.iconst 0, 1) := by decide +kernel
theorem dX1_nextReader_1 : decode cX1_nextReader 1 = .ok (.istore_n 1, 1) := by decide +kernel
theorem dX1_nextReader_2 : decode cX1_nextReader 2 = .ok (.iload_n 1, 1) := by decide +kernel
theorem dX1_nextReader_3 : decode cX1_nextReader 3 = .ok (.bipush 6, 2) := by decide +kernel
theorem dX1_nextReader_5 : decode cX1_nextReader 5 = .ok (.if_icmp .ge 29, 3) := by decide +kernel
theorem dX1_nextReader_8 : decode cX1_nextReader 8 = .ok (.aload_n 0, 1) := by decide +kernel
theorem dX1_nextReader_9 : decode cX1_nextReader 9 = .ok (.getfield 22, 3) := by decide +kernel
theorem dX1_nextReader_12 : decode cX1_nextReader 12 = .ok (.iload_n 1, 1) := by decide +kernel
theorem dX1_nextReader_13 : decode cX1_nextReader 13 = .ok (.baload, 1) := by decide +kernel
theorem dX1_nextReader_14 : decode cX1_nextReader 14 = .ok (.ifCond .eq 14, 3) := by decide +kernel
theorem dX1_nextReader_17 : decode cX1_nextReader 17 = .ok (.aload_n 0, 1) := by decide +kernel
theorem dX1_nextReader_18 : decode cX1_nextReader 18 = .ok (.getfield 25, 3) := by decide +kernel
theorem dX1_nextReader_21 : decode cX1_nextReader 21 = .ok (.iload_n 1, 1) := by decide +kernel
theorem dX1_nextReader_22 : decode cX1_nextReader 22 = .ok (.baload, 1) := by decide +kernel
theorem dX1_nextReader_23 : decode cX1_nextReader 23 = .ok (.ifCond .ne 5, 3) := by decide +kernel
theorem dX1_nextReader_26 : decode cX1_nextReader 26 = .ok (.iload_n 1, 1) := by decide +kernel
theorem dX1_nextReader_27 : decode cX1_nextReader 27 = .ok (.ireturn, 1) := by decide +kernel
theorem dX1_nextReader_28 : decode cX1_nextReader 28 = .ok (.iinc 1 1, 3) := by decide +kernel
theorem dX1_nextReader_31 : decode cX1_nextReader 31 = .ok (.goto (-29), 3) := by decide +kernel
theorem dX1_nextReader_34 : decode cX1_nextReader 34 = .ok (.iconst (-1), 1) := by decide +kernel
theorem dX1_nextReader_35 : decode cX1_nextReader 35 = .ok (.ireturn, 1) := by decide +kernel
theorem dX1_addRemark_0 : decode cX1_addRemark 0 = .ok (.aload_n 0, 1) := by decide +kernel
theorem dX1_addRemark_1 : decode cX1_addRemark 1 = .ok (.getfield 44, 3) := by decide +kernel
theorem dX1_addRemark_4 : decode cX1_addRemark 4 = .ok (.istore_n 1, 1) := by decide +kernel
theorem dX1_addRemark_5 : decode cX1_addRemark 5 = .ok (.iload_n 1, 1) := by decide +kernel
theorem dX1_addRemark_6 : decode cX1_addRemark 6 = .ok (.iconst 4, 1) := by decide +kernel
theorem dX1_addRemark_7 : decode cX1_addRemark 7 = .ok (.if_icmp .ge 20, 3) := by decide +kernel
theorem dX1_addRemark_10 : decode cX1_addRemark 10 = .ok (.aload_n 0, 1) := by decide +kernel
theorem dX1_addRemark_11 : decode cX1_addRemark 11 = .ok (.getfield 19, 3) := by decide +kernel
theorem dX1_addRemark_14 : decode cX1_addRemark 14 = .ok (.iload_n 1, 1) := by decide +kernel
theorem dX1_addRemark_15 : decode cX1_addRemark 15 = .ok (.iconst 0, 1) := by decide +kernel
theorem dX1_addRemark_16 : decode cX1_addRemark 16 = .ok (.bastore, 1) := by decide +kernel
theorem dX1_addRemark_17 : decode cX1_addRemark 17 = .ok (.aload_n 0, 1) := by decide +kernel
theorem dX1_addRemark_18 : decode cX1_addRemark 18 = .ok (.dup, 1) := by decide +kernel
theorem dX1_addRemark_19 : decode cX1_addRemark 19 = .ok (.getfield 44, 3) := by decide +kernel
theorem dX1_addRemark_22 : decode cX1_addRemark 22 = .ok (.iconst 1, 1) := by decide +kernel
theorem dX1_addRemark_23 : decode cX1_addRemark 23 = .ok (.iadd, 1) := by decide +kernel
theorem dX1_addRemark_24 : decode cX1_addRemark 24 = .ok (.putfield 44, 3) := by decide +kernel
theorem dX1_addRemark_27 : decode cX1_addRemark 27 = .ok (.iload_n 1, 1) := by decide +kernel
theorem dX1_addRemark_28 : decode cX1_addRemark 28 = .ok (.ireturn, 1) := by decide +kernel
theorem dX1_openRemarks_0 : decode cX1_openRemarks 0 = .ok (.iconst 0, 1) := by decide +kernel
theorem dX1_openRemarks_1 : decode cX1_openRemarks 1 = .ok (.istore_n 1, 1) := by decide +kernel
theorem dX1_openRemarks_2 : decode cX1_openRemarks 2 = .ok (.iconst 0, 1) := by decide +kernel
theorem dX1_openRemarks_3 : decode cX1_openRemarks 3 = .ok (.istore_n 2, 1) := by decide +kernel
theorem dX1_openRemarks_4 : decode cX1_openRemarks 4 = .ok (.iload_n 2, 1) := by decide +kernel
theorem dX1_openRemarks_5 : decode cX1_openRemarks 5 = .ok (.aload_n 0, 1) := by decide +kernel
theorem dX1_openRemarks_6 : decode cX1_openRemarks 6 = .ok (.getfield 44, 3) := by decide +kernel
theorem dX1_openRemarks_9 : decode cX1_openRemarks 9 = .ok (.if_icmp .ge 21, 3) := by decide +kernel
theorem dX1_openRemarks_12 : decode cX1_openRemarks 12 = .ok (.aload_n 0, 1) := by decide +kernel
theorem dX1_openRemarks_13 : decode cX1_openRemarks 13 = .ok (.getfield 19, 3) := by decide +kernel
theorem dX1_openRemarks_16 : decode cX1_openRemarks 16 = .ok (.iload_n 2, 1) := by decide +kernel
theorem dX1_openRemarks_17 : decode cX1_openRemarks 17 = .ok (.baload, 1) := by decide +kernel
theorem dX1_openRemarks_18 : decode cX1_openRemarks 18 = .ok (.ifCond .ne 6, 3) := by decide +kernel
theorem dX1_openRemarks_21 : decode cX1_openRemarks 21 = .ok (.iinc 1 1, 3) := by decide +kernel
theorem dX1_openRemarks_24 : decode cX1_openRemarks 24 = .ok (.iinc 2 1, 3) := by decide +kernel
theorem dX1_openRemarks_27 : decode cX1_openRemarks 27 = .ok (.goto (-23), 3) := by decide +kernel
theorem dX1_openRemarks_30 : decode cX1_openRemarks 30 = .ok (.iload_n 1, 1) := by decide +kernel
theorem dX1_openRemarks_31 : decode cX1_openRemarks 31 = .ok (.ireturn, 1) := by decide +kernel
set_option maxRecDepth 20000 in
theorem ggX1_nextStep_X1_nextReviewer : GoodIn wsX1_nextStep wsX1_nextReviewer := goodIn_r _ [7, 1, 8, 9, 22, 23, 24, 25, 26, 27, 28, 29, 30, 31, 32, 33] (by decide +kernel) (by decide +kernel)
set_option maxRecDepth 20000 in
theorem gX1_nextStep_X1_nextReviewer : GoodIn wsX1_nextStep (wsV RX1 51 RX1 yX1_nextReviewer wsX1_nextReviewer) := goodIn_app (goodIn_of _ (by decide +kernel)) ggX1_nextStep_X1_nextReviewer
set_option maxRecDepth 20000 in
theorem ggX1_nextStep_X1_openRemarks : GoodIn wsX1_nextStep wsX1_openRemarks := goodIn_r _ [13, 14, 15, 22, 23, 24, 25, 26, 27, 28, 29, 30, 31, 32, 33] (by decide +kernel) (by decide +kernel)
set_option maxRecDepth 20000 in
theorem gX1_nextStep_X1_openRemarks : GoodIn wsX1_nextStep (wsV RX1 55 RX1 yX1_openRemarks wsX1_openRemarks) := goodIn_app (goodIn_of _ (by decide +kernel)) ggX1_nextStep_X1_openRemarks
set_option maxRecDepth 20000 in
theorem ggX1_nextStep_X1_nextReader : GoodIn wsX1_nextStep wsX1_nextReader := goodIn_r _ [19, 20, 21, 22, 23, 24, 25, 26, 27, 28, 29, 30, 31, 32, 33] (by decide +kernel) (by decide +kernel)
set_option maxRecDepth 20000 in
theorem gX1_nextStep_X1_nextReader : GoodIn wsX1_nextStep (wsV RX1 58 RX1 yX1_nextReader wsX1_nextReader) := goodIn_app (goodIn_of _ (by decide +kernel)) ggX1_nextStep_X1_nextReader
theorem dX1_nextStep_0 : decode cX1_nextStep 0 = .ok (.aload_n 0, 1) := by decide +kernel
theorem dX1_nextStep_1 : decode cX1_nextStep 1 = .ok (.getfield 38, 3) := by decide +kernel
theorem dX1_nextStep_4 : decode cX1_nextStep 4 = .ok (.ifCond .eq 11, 3) := by decide +kernel
theorem dX1_nextStep_7 : decode cX1_nextStep 7 = .ok (.aload_n 0, 1) := by decide +kernel
theorem dX1_nextStep_8 : decode cX1_nextStep 8 = .ok (.invokevirtual 51, 3) := by decide +kernel
theorem dX1_nextStep_11 : decode cX1_nextStep 11 = .ok (.iconst (-1), 1) := by decide +kernel
theorem dX1_nextStep_12 : decode cX1_nextStep 12 = .ok (.if_icmp .eq 5, 3) := by decide +kernel
theorem dX1_nextStep_15 : decode cX1_nextStep 15 = .ok (.iconst 1, 1) := by decide +kernel
theorem dX1_nextStep_16 : decode cX1_nextStep 16 = .ok (.ireturn, 1) := by decide +kernel
theorem dX1_nextStep_17 : decode cX1_nextStep 17 = .ok (.aload_n 0, 1) := by decide +kernel
theorem dX1_nextStep_18 : decode cX1_nextStep 18 = .ok (.invokevirtual 55, 3) := by decide +kernel
theorem dX1_nextStep_21 : decode cX1_nextStep 21 = .ok (.ifCond .le 5, 3) := by decide +kernel
theorem dX1_nextStep_24 : decode cX1_nextStep 24 = .ok (.iconst 2, 1) := by decide +kernel
theorem dX1_nextStep_25 : decode cX1_nextStep 25 = .ok (.ireturn, 1) := by decide +kernel
theorem dX1_nextStep_26 : decode cX1_nextStep 26 = .ok (.aload_n 0, 1) := by decide +kernel
theorem dX1_nextStep_27 : decode cX1_nextStep 27 = .ok (.getfield 47, 3) := by decide +kernel
theorem dX1_nextStep_30 : decode cX1_nextStep 30 = .ok (.ifCond .ne 5, 3) := by decide +kernel
theorem dX1_nextStep_33 : decode cX1_nextStep 33 = .ok (.iconst 3, 1) := by decide +kernel
theorem dX1_nextStep_34 : decode cX1_nextStep 34 = .ok (.ireturn, 1) := by decide +kernel
theorem dX1_nextStep_35 : decode cX1_nextStep 35 = .ok (.aload_n 0, 1) := by decide +kernel
theorem dX1_nextStep_36 : decode cX1_nextStep 36 = .ok (.invokevirtual 58, 3) := by decide +kernel
theorem dX1_nextStep_39 : decode cX1_nextStep 39 = .ok (.iconst (-1), 1) := by decide +kernel
theorem dX1_nextStep_40 : decode cX1_nextStep 40 = .ok (.if_icmp .eq 7, 3) := by decide +kernel
theorem dX1_nextStep_43 : decode cX1_nextStep 43 = .ok (.iconst 4, 1) := by decide +kernel
theorem dX1_nextStep_44 : decode cX1_nextStep 44 = .ok (.goto 4, 3) := by decide +kernel
theorem dX1_nextStep_47 : decode cX1_nextStep 47 = .ok (.iconst 5, 1) := by decide +kernel
theorem dX1_nextStep_48 : decode cX1_nextStep 48 = .ok (.ireturn, 1) := by decide +kernel
set_option maxRecDepth 20000 in
theorem ggX1_nextPerson_X1_nextStep : GoodIn wsX1_nextPerson wsX1_nextStep := goodIn_r _ [6, 7, 8, 9, 10, 11, 5, 12, 13, 14, 15, 16, 17, 18, 19, 20, 21, 22, 23, 24, 25, 26, 27, 28, 29, 30, 31, 32, 33, 34, 35, 36, 37, 38] (by decide +kernel) (by decide +kernel)
set_option maxRecDepth 20000 in
theorem gX1_nextPerson_X1_nextStep : GoodIn wsX1_nextPerson (wsV RX1 61 RX1 yX1_nextStep wsX1_nextStep) := goodIn_app (goodIn_of _ (by decide +kernel)) ggX1_nextPerson_X1_nextStep
set_option maxRecDepth 20000 in
theorem ggX1_nextPerson_X1_nextReviewer : GoodIn wsX1_nextPerson wsX1_nextReviewer := goodIn_r _ [12, 7, 13, 14, 27, 28, 29, 30, 31, 32, 33, 34, 35, 36, 37, 38] (by decide +kernel) (by decide +kernel)
set_option maxRecDepth 20000 in
theorem gX1_nextPerson_X1_nextReviewer : GoodIn wsX1_nextPerson (wsV RX1 51 RX1 yX1_nextReviewer wsX1_nextReviewer) := goodIn_app (goodIn_of _ (by decide +kernel)) ggX1_nextPerson_X1_nextReviewer
set_option maxRecDepth 20000 in
theorem ggX1_nextPerson_X1_nextReader : GoodIn wsX1_nextPerson wsX1_nextReader := goodIn_r _ [24, 25, 26, 27, 28, 29, 30, 31, 32, 33, 34, 35, 36, 37, 38] (by decide +kernel) (by decide +kernel)
set_option maxRecDepth 20000 in
theorem gX1_nextPerson_X1_nextReader : GoodIn wsX1_nextPerson (wsV RX1 58 RX1 yX1_nextReader wsX1_nextReader) := goodIn_app (goodIn_of _ (by decide +kernel)) ggX1_nextPerson_X1_nextReader
theorem dX1_nextPerson_0 : decode cX1_nextPerson 0 = .ok (.aload_n 0, 1) := by decide +kernel
theorem dX1_nextPerson_1 : decode cX1_nextPerson 1 = .ok (.invokevirtual 61, 3) := by decide +kernel
theorem dX1_nextPerson_4 : decode cX1_nextPerson 4 = .ok (.tableswitch 47 1 4 #[32, 37, 47, 42], 32) := by decide +kernel
theorem dX1_nextPerson_36 : decode cX1_nextPerson 36 = .ok (.aload_n 0, 1) := by decide +kernel
theorem dX1_nextPerson_37 : decode cX1_nextPerson 37 = .ok (.invokevirtual 51, 3) := by decide +kernel
theorem dX1_nextPerson_40 : decode cX1_nextPerson 40 = .ok (.ireturn, 1) := by decide +kernel
theorem dX1_nextPerson_41 : decode cX1_nextPerson 41 = .ok (.aload_n 0, 1) := by decide +kernel
theorem dX1_nextPerson_42 : decode cX1_nextPerson 42 = .ok (.getfield 28, 3) := by decide +kernel
theorem dX1_nextPerson_45 : decode cX1_nextPerson 45 = .ok (.ireturn, 1) := by decide +kernel
theorem dX1_nextPerson_46 : decode cX1_nextPerson 46 = .ok (.aload_n 0, 1) := by decide +kernel
theorem dX1_nextPerson_47 : decode cX1_nextPerson 47 = .ok (.invokevirtual 58, 3) := by decide +kernel
theorem dX1_nextPerson_50 : decode cX1_nextPerson 50 = .ok (.ireturn, 1) := by decide +kernel
theorem dX1_nextPerson_51 : decode cX1_nextPerson 51 = .ok (.iconst (-1), 1) := by decide +kernel
theorem dX1_nextPerson_52 : decode cX1_nextPerson 52 = .ok (.ireturn, 1) := by decide +kernel
set_option maxRecDepth 20000 in
theorem ggX1_isReady_X1_nextStep : GoodIn wsX1_isReady wsX1_nextStep := goodIn_r _ [6, 7, 8, 9, 10, 11, 5, 12, 13, 14, 15, 16, 17, 18, 19, 20, 21, 22, 23, 24, 25, 26, 27, 28, 29, 30, 31, 32, 33, 34, 35, 36, 37, 38] (by decide +kernel) (by decide +kernel)
set_option maxRecDepth 20000 in
theorem gX1_isReady_X1_nextStep : GoodIn wsX1_isReady (wsV RX1 61 RX1 yX1_nextStep wsX1_nextStep) := goodIn_app (goodIn_of _ (by decide +kernel)) ggX1_isReady_X1_nextStep
theorem dX1_isReady_0 : decode cX1_isReady 0 = .ok (.aload_n 0, 1) := by decide +kernel
theorem dX1_isReady_1 : decode cX1_isReady 1 = .ok (.invokevirtual 61, 3) := by decide +kernel
theorem dX1_isReady_4 : decode cX1_isReady 4 = .ok (.iconst 5, 1) := by decide +kernel
theorem dX1_isReady_5 : decode cX1_isReady 5 = .ok (.if_icmp .ne 15, 3) := by decide +kernel
theorem dX1_isReady_8 : decode cX1_isReady 8 = .ok (.aload_n 0, 1) := by decide +kernel
theorem dX1_isReady_9 : decode cX1_isReady 9 = .ok (.getfield 64, 3) := by decide +kernel
theorem dX1_isReady_12 : decode cX1_isReady 12 = .ok (.iload_n 1, 1) := by decide +kernel
theorem dX1_isReady_13 : decode cX1_isReady 13 = .ok (.if_icmp .gt 7, 3) := by decide +kernel
theorem dX1_isReady_16 : decode cX1_isReady 16 = .ok (.iconst 1, 1) := by decide +kernel
theorem dX1_isReady_17 : decode cX1_isReady 17 = .ok (.goto 4, 3) := by decide +kernel
theorem dX1_isReady_20 : decode cX1_isReady 20 = .ok (.iconst 0, 1) := by decide +kernel
theorem dX1_isReady_21 : decode cX1_isReady 21 = .ok (.ireturn, 1) := by decide +kernel
set_option maxRecDepth 20000 in
theorem ggX2_init_X1_init : GoodIn wsX2_init wsX1_init := goodIn_r _ [16, 17, 2, 3, 11, 18, 5, 19, 20, 21, 22, 32, 33, 34, 35, 36, 37, 38, 39, 40, 41, 42, 43] (by decide +kernel) (by decide +kernel)
set_option maxRecDepth 20000 in
theorem gX2_init_X1_init : GoodIn wsX2_init (wsX1_init) := ggX2_init_X1_init
theorem dX2_init_0 : decode cX2_init 0 = .ok (.aload_n 0, 1) := by decide +kernel
theorem dX2_init_1 : decode cX2_init 1 = .ok (.invokespecial 3, 3) := by decide +kernel
theorem dX2_init_4 : decode cX2_init 4 = .ok (.aload_n 0, 1) := by decide +kernel
theorem dX2_init_5 : decode cX2_init 5 = .ok (.iload_n 1, 1) := by decide +kernel
theorem dX2_init_6 : decode cX2_init 6 = .ok (.putfield 9, 3) := by decide +kernel
theorem dX2_init_9 : decode cX2_init 9 = .ok (.aload_n 0, 1) := by decide +kernel
theorem dX2_init_10 : decode cX2_init 10 = .ok (.bipush 8, 2) := by decide +kernel
theorem dX2_init_12 : decode cX2_init 12 = .ok (.newarray .boolean, 2) := by decide +kernel
theorem dX2_init_14 : decode cX2_init 14 = .ok (.putfield 15, 3) := by decide +kernel
theorem dX2_init_17 : decode cX2_init 17 = .ok (.aload_n 0, 1) := by decide +kernel
theorem dX2_init_18 : decode cX2_init 18 = .ok (.new 19, 3) := by decide +kernel
theorem dX2_init_21 : decode cX2_init 21 = .ok (.dup, 1) := by decide +kernel
theorem dX2_init_22 : decode cX2_init 22 = .ok (.invokespecial 21, 3) := by decide +kernel
theorem dX2_init_25 : decode cX2_init 25 = .ok (.putfield 22, 3) := by decide +kernel
theorem dX2_init_28 : decode cX2_init 28 = .ok (.aload_n 0, 1) := by decide +kernel
theorem dX2_init_29 : decode cX2_init 29 = .ok (.sipush 128, 3) := by decide +kernel
theorem dX2_init_32 : decode cX2_init 32 = .ok (.newarray .int, 2) := by decide +kernel
theorem dX2_init_34 : decode cX2_init 34 = .ok (.putfield 26, 3) := by decide +kernel
theorem dX2_init_37 : decode cX2_init 37 = .ok (.aload_n 0, 1) := by decide +kernel
theorem dX2_init_38 : decode cX2_init 38 = .ok (.sipush 128, 3) := by decide +kernel
theorem dX2_init_41 : decode cX2_init 41 = .ok (.newarray .int, 2) := by decide +kernel
theorem dX2_init_43 : decode cX2_init 43 = .ok (.putfield 30, 3) := by decide +kernel
theorem dX2_init_46 : decode cX2_init 46 = .ok (.return_, 1) := by decide +kernel
theorem dX2_newest_0 : decode cX2_newest 0 = .ok (.aload_n 0, 1) := by decide +kernel
theorem dX2_newest_1 : decode cX2_newest 1 = .ok (.getfield 33, 3) := by decide +kernel
theorem dX2_newest_4 : decode cX2_newest 4 = .ok (.iconst 1, 1) := by decide +kernel
theorem dX2_newest_5 : decode cX2_newest 5 = .ok (.isub, 1) := by decide +kernel
theorem dX2_newest_6 : decode cX2_newest 6 = .ok (.ireturn, 1) := by decide +kernel
theorem dX2_versionOn_0 : decode cX2_versionOn 0 = .ok (.aload_n 0, 1) := by decide +kernel
theorem dX2_versionOn_1 : decode cX2_versionOn 1 = .ok (.getfield 33, 3) := by decide +kernel
theorem dX2_versionOn_4 : decode cX2_versionOn 4 = .ok (.iconst 1, 1) := by decide +kernel
theorem dX2_versionOn_5 : decode cX2_versionOn 5 = .ok (.isub, 1) := by decide +kernel
theorem dX2_versionOn_6 : decode cX2_versionOn 6 = .ok (.istore_n 2, 1) := by decide +kernel
theorem dX2_versionOn_7 : decode cX2_versionOn 7 = .ok (.iload_n 2, 1) := by decide +kernel
theorem dX2_versionOn_8 : decode cX2_versionOn 8 = .ok (.ifCond .lt 21, 3) := by decide +kernel
theorem dX2_versionOn_11 : decode cX2_versionOn 11 = .ok (.aload_n 0, 1) := by decide +kernel
theorem dX2_versionOn_12 : decode cX2_versionOn 12 = .ok (.getfield 30, 3) := by decide +kernel
theorem dX2_versionOn_15 : decode cX2_versionOn 15 = .ok (.iload_n 2, 1) := by decide +kernel
theorem dX2_versionOn_16 : decode cX2_versionOn 16 = .ok (.iaload, 1) := by decide +kernel
theorem dX2_versionOn_17 : decode cX2_versionOn 17 = .ok (.iload_n 1, 1) := by decide +kernel
theorem dX2_versionOn_18 : decode cX2_versionOn 18 = .ok (.if_icmp .gt 5, 3) := by decide +kernel
theorem dX2_versionOn_21 : decode cX2_versionOn 21 = .ok (.iload_n 2, 1) := by decide +kernel
theorem dX2_versionOn_22 : decode cX2_versionOn 22 = .ok (.ireturn, 1) := by decide +kernel
theorem dX2_versionOn_23 : decode cX2_versionOn 23 = .ok (.iinc 2 (-1), 3) := by decide +kernel
theorem dX2_versionOn_26 : decode cX2_versionOn 26 = .ok (.goto (-19), 3) := by decide +kernel
theorem dX2_versionOn_29 : decode cX2_versionOn 29 = .ok (.iconst (-1), 1) := by decide +kernel
theorem dX2_versionOn_30 : decode cX2_versionOn 30 = .ok (.ireturn, 1) := by decide +kernel
set_option maxRecDepth 20000 in
theorem ggX2_comeIntoForce_X1_isReady : GoodIn wsX2_comeIntoForce wsX1_isReady := goodIn_r _ [11, 12, 13, 14, 15, 10, 16, 17, 18, 19, 20, 21, 22, 23, 24, 25, 26, 27, 28, 29, 30, 31, 32, 33, 34, 35, 36, 53, 54, 55, 56, 57, 58, 59, 60, 61, 62, 63, 64] (by decide +kernel) (by decide +kernel)
set_option maxRecDepth 20000 in
theorem gX2_comeIntoForce_X1_isReady : GoodIn wsX2_comeIntoForce (wsV RX2 40 RX1 yX1_isReady wsX1_isReady) := goodIn_app (goodIn_of _ (by decide +kernel)) ggX2_comeIntoForce_X1_isReady
set_option maxRecDepth 20000 in
theorem ggX2_comeIntoForce_X2_restartInterval : GoodIn wsX2_comeIntoForce wsX2_restartInterval := goodIn_r _ [41, 42, 43, 44, 45, 46, 47, 48, 49, 50, 51, 52] (by decide +kernel) (by decide +kernel)
set_option maxRecDepth 20000 in
theorem gX2_comeIntoForce_X2_restartInterval : GoodIn wsX2_comeIntoForce (wsV RX2 47 RX2 yX2_restartInterval wsX2_restartInterval) := goodIn_app (goodIn_of _ (by decide +kernel)) ggX2_comeIntoForce_X2_restartInterval
theorem dX2_comeIntoForce_0 : decode cX2_comeIntoForce 0 = .ok (.aload_n 0, 1) := by decide +kernel
theorem dX2_comeIntoForce_1 : decode cX2_comeIntoForce 1 = .ok (.getfield 37, 3) := by decide +kernel
theorem dX2_comeIntoForce_4 : decode cX2_comeIntoForce 4 = .ok (.ifCond .eq 24, 3) := by decide +kernel
theorem dX2_comeIntoForce_7 : decode cX2_comeIntoForce 7 = .ok (.aload_n 0, 1) := by decide +kernel
theorem dX2_comeIntoForce_8 : decode cX2_comeIntoForce 8 = .ok (.getfield 22, 3) := by decide +kernel
theorem dX2_comeIntoForce_11 : decode cX2_comeIntoForce 11 = .ok (.iload_n 1, 1) := by decide +kernel
theorem dX2_comeIntoForce_12 : decode cX2_comeIntoForce 12 = .ok (.invokevirtual 40, 3) := by decide +kernel
theorem dX2_comeIntoForce_15 : decode cX2_comeIntoForce 15 = .ok (.ifCond .eq 13, 3) := by decide +kernel
theorem dX2_comeIntoForce_18 : decode cX2_comeIntoForce 18 = .ok (.aload_n 0, 1) := by decide +kernel
theorem dX2_comeIntoForce_19 : decode cX2_comeIntoForce 19 = .ok (.getfield 33, 3) := by decide +kernel
theorem dX2_comeIntoForce_22 : decode cX2_comeIntoForce 22 = .ok (.sipush 128, 3) := by decide +kernel
theorem dX2_comeIntoForce_25 : decode cX2_comeIntoForce 25 = .ok (.if_icmp .lt 5, 3) := by decide +kernel
theorem dX2_comeIntoForce_28 : decode cX2_comeIntoForce 28 = .ok (.iconst 0, 1) := by decide +kernel
theorem dX2_comeIntoForce_29 : decode cX2_comeIntoForce 29 = .ok (.ireturn, 1) := by decide +kernel
theorem dX2_comeIntoForce_30 : decode cX2_comeIntoForce 30 = .ok (.aload_n 0, 1) := by decide +kernel
theorem dX2_comeIntoForce_31 : decode cX2_comeIntoForce 31 = .ok (.getfield 26, 3) := by decide +kernel
theorem dX2_comeIntoForce_34 : decode cX2_comeIntoForce 34 = .ok (.aload_n 0, 1) := by decide +kernel
theorem dX2_comeIntoForce_35 : decode cX2_comeIntoForce 35 = .ok (.getfield 33, 3) := by decide +kernel
theorem dX2_comeIntoForce_38 : decode cX2_comeIntoForce 38 = .ok (.aload_n 0, 1) := by decide +kernel
theorem dX2_comeIntoForce_39 : decode cX2_comeIntoForce 39 = .ok (.getfield 22, 3) := by decide +kernel
theorem dX2_comeIntoForce_42 : decode cX2_comeIntoForce 42 = .ok (.getfield 44, 3) := by decide +kernel
theorem dX2_comeIntoForce_45 : decode cX2_comeIntoForce 45 = .ok (.iastore, 1) := by decide +kernel
theorem dX2_comeIntoForce_46 : decode cX2_comeIntoForce 46 = .ok (.aload_n 0, 1) := by decide +kernel
theorem dX2_comeIntoForce_47 : decode cX2_comeIntoForce 47 = .ok (.getfield 30, 3) := by decide +kernel
theorem dX2_comeIntoForce_50 : decode cX2_comeIntoForce 50 = .ok (.aload_n 0, 1) := by decide +kernel
theorem dX2_comeIntoForce_51 : decode cX2_comeIntoForce 51 = .ok (.getfield 33, 3) := by decide +kernel
theorem dX2_comeIntoForce_54 : decode cX2_comeIntoForce 54 = .ok (.iload_n 1, 1) := by decide +kernel
theorem dX2_comeIntoForce_55 : decode cX2_comeIntoForce 55 = .ok (.iastore, 1) := by decide +kernel
theorem dX2_comeIntoForce_56 : decode cX2_comeIntoForce 56 = .ok (.aload_n 0, 1) := by decide +kernel
theorem dX2_comeIntoForce_57 : decode cX2_comeIntoForce 57 = .ok (.dup, 1) := by decide +kernel
theorem dX2_comeIntoForce_58 : decode cX2_comeIntoForce 58 = .ok (.getfield 33, 3) := by decide +kernel
theorem dX2_comeIntoForce_61 : decode cX2_comeIntoForce 61 = .ok (.iconst 1, 1) := by decide +kernel
theorem dX2_comeIntoForce_62 : decode cX2_comeIntoForce 62 = .ok (.iadd, 1) := by decide +kernel
theorem dX2_comeIntoForce_63 : decode cX2_comeIntoForce 63 = .ok (.putfield 33, 3) := by decide +kernel
theorem dX2_comeIntoForce_66 : decode cX2_comeIntoForce 66 = .ok (.aload_n 0, 1) := by decide +kernel
theorem dX2_comeIntoForce_67 : decode cX2_comeIntoForce 67 = .ok (.iconst 0, 1) := by decide +kernel
theorem dX2_comeIntoForce_68 : decode cX2_comeIntoForce 68 = .ok (.putfield 37, 3) := by decide +kernel
theorem dX2_comeIntoForce_71 : decode cX2_comeIntoForce 71 = .ok (.aload_n 0, 1) := by decide +kernel
theorem dX2_comeIntoForce_72 : decode cX2_comeIntoForce 72 = .ok (.iload_n 1, 1) := by decide +kernel
theorem dX2_comeIntoForce_73 : decode cX2_comeIntoForce 73 = .ok (.invokevirtual 47, 3) := by decide +kernel
theorem dX2_comeIntoForce_76 : decode cX2_comeIntoForce 76 = .ok (.iconst 1, 1) := by decide +kernel
theorem dX2_comeIntoForce_77 : decode cX2_comeIntoForce 77 = .ok (.ireturn, 1) := by decide +kernel
theorem dX2_needsLook_0 : decode cX2_needsLook 0 = .ok (.aload_n 0, 1) := by decide +kernel
theorem dX2_needsLook_1 : decode cX2_needsLook 1 = .ok (.getfield 33, 3) := by decide +kernel
theorem dX2_needsLook_4 : decode cX2_needsLook 4 = .ok (.ifCond .le 24, 3) := by decide +kernel
theorem dX2_needsLook_7 : decode cX2_needsLook 7 = .ok (.aload_n 0, 1) := by decide +kernel
theorem dX2_needsLook_8 : decode cX2_needsLook 8 = .ok (.getfield 51, 3) := by decide +kernel
theorem dX2_needsLook_11 : decode cX2_needsLook 11 = .ok (.ifCond .ne 13, 3) := by decide +kernel
theorem dX2_needsLook_14 : decode cX2_needsLook 14 = .ok (.iload_n 1, 1) := by decide +kernel
theorem dX2_needsLook_15 : decode cX2_needsLook 15 = .ok (.aload_n 0, 1) := by decide +kernel
theorem dX2_needsLook_16 : decode cX2_needsLook 16 = .ok (.getfield 54, 3) := by decide +kernel
theorem dX2_needsLook_19 : decode cX2_needsLook 19 = .ok (.isub, 1) := by decide +kernel
theorem dX2_needsLook_20 : decode cX2_needsLook 20 = .ok (.iload_n 2, 1) := by decide +kernel
theorem dX2_needsLook_21 : decode cX2_needsLook 21 = .ok (.if_icmp .lt 7, 3) := by decide +kernel
theorem dX2_needsLook_24 : decode cX2_needsLook 24 = .ok (.iconst 1, 1) := by decide +kernel
theorem dX2_needsLook_25 : decode cX2_needsLook 25 = .ok (.goto 4, 3) := by decide +kernel
theorem dX2_needsLook_28 : decode cX2_needsLook 28 = .ok (.iconst 0, 1) := by decide +kernel
theorem dX2_needsLook_29 : decode cX2_needsLook 29 = .ok (.ireturn, 1) := by decide +kernel
theorem dX2_restartInterval_0 : decode cX2_restartInterval 0 = .ok (.aload_n 0, 1) := by decide +kernel
theorem dX2_restartInterval_1 : decode cX2_restartInterval 1 = .ok (.iconst 0, 1) := by decide +kernel
theorem dX2_restartInterval_2 : decode cX2_restartInterval 2 = .ok (.putfield 51, 3) := by decide +kernel
theorem dX2_restartInterval_5 : decode cX2_restartInterval 5 = .ok (.aload_n 0, 1) := by decide +kernel
theorem dX2_restartInterval_6 : decode cX2_restartInterval 6 = .ok (.iload_n 1, 1) := by decide +kernel
theorem dX2_restartInterval_7 : decode cX2_restartInterval 7 = .ok (.putfield 54, 3) := by decide +kernel
theorem dX2_restartInterval_10 : decode cX2_restartInterval 10 = .ok (.return_, 1) := by decide +kernel
set_option maxRecDepth 20000 in
theorem ggX3_init_X0_init : GoodIn wsX3_init wsX0_init := goodIn_r _ [20, 21, 2, 3, 7, 22, 23, 24, 33, 34, 35, 36] (by decide +kernel) (by decide +kernel)
set_option maxRecDepth 20000 in
theorem gX3_init_X0_init : GoodIn wsX3_init (wsX0_init) := ggX3_init_X0_init
theorem dX3_init_0 : decode cX3_init 0 = .ok (.aload_n 0, 1) := by decide +kernel
theorem dX3_init_1 : decode cX3_init 1 = .ok (.invokespecial 1, 3) := by decide +kernel
theorem dX3_init_4 : decode cX3_init 4 = .ok (.aload_n 0, 1) := by decide +kernel
theorem dX3_init_5 : decode cX3_init 5 = .ok (.bipush 6, 2) := by decide +kernel
theorem dX3_init_7 : decode cX3_init 7 = .ok (.newarray .boolean, 2) := by decide +kernel
theorem dX3_init_9 : decode cX3_init 9 = .ok (.putfield 9, 3) := by decide +kernel
theorem dX3_init_12 : decode cX3_init 12 = .ok (.aload_n 0, 1) := by decide +kernel
theorem dX3_init_13 : decode cX3_init 13 = .ok (.bipush 6, 2) := by decide +kernel
theorem dX3_init_15 : decode cX3_init 15 = .ok (.newarray .boolean, 2) := by decide +kernel
theorem dX3_init_17 : decode cX3_init 17 = .ok (.putfield 13, 3) := by decide +kernel
theorem dX3_init_20 : decode cX3_init 20 = .ok (.aload_n 0, 1) := by decide +kernel
theorem dX3_init_21 : decode cX3_init 21 = .ok (.bipush 6, 2) := by decide +kernel
theorem dX3_init_23 : decode cX3_init 23 = .ok (.newarray .int, 2) := by decide +kernel
theorem dX3_init_25 : decode cX3_init 25 = .ok (.putfield 16, 3) := by decide +kernel
theorem dX3_init_28 : decode cX3_init 28 = .ok (.iconst 0, 1) := by decide +kernel
theorem dX3_init_29 : decode cX3_init 29 = .ok (.istore_n 1, 1) := by decide +kernel
theorem dX3_init_30 : decode cX3_init 30 = .ok (.iload_n 1, 1) := by decide +kernel
theorem dX3_init_31 : decode cX3_init 31 = .ok (.bipush 6, 2) := by decide +kernel
theorem dX3_init_33 : decode cX3_init 33 = .ok (.if_icmp .ge 16, 3) := by decide +kernel
theorem dX3_init_36 : decode cX3_init 36 = .ok (.aload_n 0, 1) := by decide +kernel
theorem dX3_init_37 : decode cX3_init 37 = .ok (.getfield 16, 3) := by decide +kernel
theorem dX3_init_40 : decode cX3_init 40 = .ok (.iload_n 1, 1) := by decide +kernel
theorem dX3_init_41 : decode cX3_init 41 = .ok (.iconst (-1), 1) := by decide +kernel
theorem dX3_init_42 : decode cX3_init 42 = .ok (.iastore, 1) := by decide +kernel
theorem dX3_init_43 : decode cX3_init 43 = .ok (.iinc 1 1, 3) := by decide +kernel
theorem dX3_init_46 : decode cX3_init 46 = .ok (.goto (-16), 3) := by decide +kernel
theorem dX3_init_49 : decode cX3_init 49 = .ok (.aload_n 0, 1) := by decide +kernel
theorem dX3_init_50 : decode cX3_init 50 = .ok (.bipush 8, 2) := by decide +kernel
theorem dX3_init_52 : decode cX3_init 52 = .ok (.anewarray 20, 3) := by decide +kernel
theorem dX3_init_55 : decode cX3_init 55 = .ok (.putfield 22, 3) := by decide +kernel
theorem dX3_init_58 : decode cX3_init 58 = .ok (.aload_n 0, 1) := by decide +kernel
theorem dX3_init_59 : decode cX3_init 59 = .ok (.new 26, 3) := by decide +kernel
theorem dX3_init_62 : decode cX3_init 62 = .ok (.dup, 1) := by decide +kernel
theorem dX3_init_63 : decode cX3_init 63 = .ok (.invokespecial 28, 3) := by decide +kernel
theorem dX3_init_66 : decode cX3_init 66 = .ok (.putfield 29, 3) := by decide +kernel
theorem dX3_init_69 : decode cX3_init 69 = .ok (.aload_n 0, 1) := by decide +kernel
theorem dX3_init_70 : decode cX3_init 70 = .ok (.iconst 0, 1) := by decide +kernel
theorem dX3_init_71 : decode cX3_init 71 = .ok (.putfield 33, 3) := by decide +kernel
theorem dX3_init_74 : decode cX3_init 74 = .ok (.aload_n 0, 1) := by decide +kernel
theorem dX3_init_75 : decode cX3_init 75 = .ok (.bipush 30, 2) := by decide +kernel
theorem dX3_init_77 : decode cX3_init 77 = .ok (.putfield 37, 3) := by decide +kernel
theorem dX3_init_80 : decode cX3_init 80 = .ok (.aload_n 0, 1) := by decide +kernel
theorem dX3_init_81 : decode cX3_init 81 = .ok (.iconst 0, 1) := by decide +kernel
theorem dX3_init_82 : decode cX3_init 82 = .ok (.putfield 40, 3) := by decide +kernel
theorem dX3_init_85 : decode cX3_init 85 = .ok (.return_, 1) := by decide +kernel
set_option maxRecDepth 20000 in
theorem ggX3_setRoles_X3_checkPerson : GoodIn wsX3_setRoles wsX3_checkPerson := goodIn_ca (goodIn_r _ [6, 7, 8, 5, 9, 10, 11] (by decide +kernel) (by decide +kernel)) (goodIn_sub (fun _ h => List.mem_cons_of_mem _ (List.mem_append_right _ h)) (by decide +kernel))
set_option maxRecDepth 20000 in
theorem gX3_setRoles_X3_checkPerson : GoodIn wsX3_setRoles (va_wsS RX3 43 yX3_checkPerson wsX3_checkPerson) := goodIn_app (goodIn_of _ (by decide +kernel)) ggX3_setRoles_X3_checkPerson
theorem dX3_setRoles_0 : decode cX3_setRoles 0 = .ok (.iload_n 1, 1) := by decide +kernel
theorem dX3_setRoles_1 : decode cX3_setRoles 1 = .ok (.invokestatic 43, 3) := by decide +kernel
theorem dX3_setRoles_4 : decode cX3_setRoles 4 = .ok (.aload_n 0, 1) := by decide +kernel
theorem dX3_setRoles_5 : decode cX3_setRoles 5 = .ok (.getfield 9, 3) := by decide +kernel
theorem dX3_setRoles_8 : decode cX3_setRoles 8 = .ok (.iload_n 1, 1) := by decide +kernel
theorem dX3_setRoles_9 : decode cX3_setRoles 9 = .ok (.iload_n 2, 1) := by decide +kernel
theorem dX3_setRoles_10 : decode cX3_setRoles 10 = .ok (.bastore, 1) := by decide +kernel
theorem dX3_setRoles_11 : decode cX3_setRoles 11 = .ok (.aload_n 0, 1) := by decide +kernel
theorem dX3_setRoles_12 : decode cX3_setRoles 12 = .ok (.getfield 13, 3) := by decide +kernel
theorem dX3_setRoles_15 : decode cX3_setRoles 15 = .ok (.iload_n 1, 1) := by decide +kernel
theorem dX3_setRoles_16 : decode cX3_setRoles 16 = .ok (.iload_n 3, 1) := by decide +kernel
theorem dX3_setRoles_17 : decode cX3_setRoles 17 = .ok (.bastore, 1) := by decide +kernel
theorem dX3_setRoles_18 : decode cX3_setRoles 18 = .ok (.return_, 1) := by decide +kernel
set_option maxRecDepth 20000 in
theorem ggX3_setDeputy_X3_checkPerson : GoodIn wsX3_setDeputy wsX3_checkPerson := goodIn_ca (goodIn_r _ [7, 8, 9, 6, 10, 1, 2] (by decide +kernel) (by decide +kernel)) (goodIn_sub (fun _ h => List.mem_cons_of_mem _ (List.mem_append_right _ h)) (by decide +kernel))
set_option maxRecDepth 20000 in
theorem gX3_setDeputy_X3_checkPerson : GoodIn wsX3_setDeputy (va_wsS RX3 43 yX3_checkPerson wsX3_checkPerson) := goodIn_app (goodIn_of _ (by decide +kernel)) ggX3_setDeputy_X3_checkPerson
theorem dX3_setDeputy_0 : decode cX3_setDeputy 0 = .ok (.iload_n 1, 1) := by decide +kernel
theorem dX3_setDeputy_1 : decode cX3_setDeputy 1 = .ok (.invokestatic 43, 3) := by decide +kernel
theorem dX3_setDeputy_4 : decode cX3_setDeputy 4 = .ok (.iload_n 2, 1) := by decide +kernel
theorem dX3_setDeputy_5 : decode cX3_setDeputy 5 = .ok (.iconst (-1), 1) := by decide +kernel
theorem dX3_setDeputy_6 : decode cX3_setDeputy 6 = .ok (.if_icmp .eq 7, 3) := by decide +kernel
theorem dX3_setDeputy_9 : decode cX3_setDeputy 9 = .ok (.iload_n 2, 1) := by decide +kernel
theorem dX3_setDeputy_10 : decode cX3_setDeputy 10 = .ok (.invokestatic 43, 3) := by decide +kernel
theorem dX3_setDeputy_13 : decode cX3_setDeputy 13 = .ok (.iload_n 1, 1) := by decide +kernel
theorem dX3_setDeputy_14 : decode cX3_setDeputy 14 = .ok (.iload_n 2, 1) := by decide +kernel
theorem dX3_setDeputy_15 : decode cX3_setDeputy 15 = .ok (.if_icmp .ne 13, 3) := by decide +kernel
theorem dX3_setDeputy_18 : decode cX3_setDeputy 18 = .ok (.new 47, 3) := by decide +kernel
theorem dX3_setDeputy_21 : decode cX3_setDeputy 21 = .ok (.dup, 1) := by decide +kernel
theorem dX3_setDeputy_22 : decode cX3_setDeputy 22 = .ok (.ldc 49, 2) := by decide +kernel
theorem dX3_setDeputy_24 : decode cX3_setDeputy 24 = .ok (.invokespecial 51, 3) := by decide +kernel
theorem dX3_setDeputy_27 : decode cX3_setDeputy 27 = .ok (.athrow, 1) := by decide +kernel
theorem dX3_setDeputy_28 : decode cX3_setDeputy 28 = .ok (.aload_n 0, 1) := by decide +kernel
theorem dX3_setDeputy_29 : decode cX3_setDeputy 29 = .ok (.getfield 16, 3) := by decide +kernel
theorem dX3_setDeputy_32 : decode cX3_setDeputy 32 = .ok (.iload_n 1, 1) := by decide +kernel
theorem dX3_setDeputy_33 : decode cX3_setDeputy 33 = .ok (.iaload, 1) := by decide +kernel
theorem dX3_setDeputy_34 : decode cX3_setDeputy 34 = .ok (.istore_n 3, 1) := by decide +kernel
theorem dX3_setDeputy_35 : decode cX3_setDeputy 35 = .ok (.aload_n 0, 1) := by decide +kernel
theorem dX3_setDeputy_36 : decode cX3_setDeputy 36 = .ok (.getfield 16, 3) := by decide +kernel
theorem dX3_setDeputy_39 : decode cX3_setDeputy 39 = .ok (.iload_n 1, 1) := by decide +kernel
theorem dX3_setDeputy_40 : decode cX3_setDeputy 40 = .ok (.iload_n 2, 1) := by decide +kernel
theorem dX3_setDeputy_41 : decode cX3_setDeputy 41 = .ok (.iastore, 1) := by decide +kernel
theorem dX3_setDeputy_42 : decode cX3_setDeputy 42 = .ok (.iload_n 3, 1) := by decide +kernel
theorem dX3_setDeputy_43 : decode cX3_setDeputy 43 = .ok (.ireturn, 1) := by decide +kernel
set_option maxRecDepth 20000 in
theorem ggX3_open_X2_init : GoodIn wsX3_open wsX2_init := goodIn_r _ [10, 11, 12, 13, 14, 15, 16, 17, 18, 19, 20, 21, 22, 23, 24, 25, 26, 27, 28, 29, 30, 31, 32, 41, 42, 43, 44, 45, 46, 47, 48, 49, 50, 51, 52, 53, 54, 55, 56, 57, 58, 59, 60, 61] (by decide +kernel) (by decide +kernel)
set_option maxRecDepth 20000 in
theorem gX3_open_X2_init : GoodIn wsX3_open (wsX2_init) := ggX3_open_X2_init
theorem dX3_open_0 : decode cX3_open 0 = .ok (.aload_n 0, 1) := by decide +kernel
theorem dX3_open_1 : decode cX3_open 1 = .ok (.getfield 33, 3) := by decide +kernel
theorem dX3_open_4 : decode cX3_open 4 = .ok (.bipush 8, 2) := by decide +kernel
theorem dX3_open_6 : decode cX3_open 6 = .ok (.if_icmp .lt 13, 3) := by decide +kernel
theorem dX3_open_9 : decode cX3_open 9 = .ok (.new 54, 3) := by decide +kernel
theorem dX3_open_12 : decode cX3_open 12 = .ok (.dup, 1) := by decide +kernel
theorem dX3_open_13 : decode cX3_open 13 = .ok (.ldc 56, 2) := by decide +kernel
theorem dX3_open_15 : decode cX3_open 15 = .ok (.invokespecial 58, 3) := by decide +kernel
theorem dX3_open_18 : decode cX3_open 18 = .ok (.athrow, 1) := by decide +kernel
theorem dX3_open_19 : decode cX3_open 19 = .ok (.aload_n 0, 1) := by decide +kernel
theorem dX3_open_20 : decode cX3_open 20 = .ok (.getfield 33, 3) := by decide +kernel
theorem dX3_open_23 : decode cX3_open 23 = .ok (.istore_n 2, 1) := by decide +kernel
theorem dX3_open_24 : decode cX3_open 24 = .ok (.aload_n 0, 1) := by decide +kernel
theorem dX3_open_25 : decode cX3_open 25 = .ok (.getfield 22, 3) := by decide +kernel
theorem dX3_open_28 : decode cX3_open 28 = .ok (.iload_n 2, 1) := by decide +kernel
theorem dX3_open_29 : decode cX3_open 29 = .ok (.new 20, 3) := by decide +kernel
theorem dX3_open_32 : decode cX3_open 32 = .ok (.dup, 1) := by decide +kernel
theorem dX3_open_33 : decode cX3_open 33 = .ok (.iload_n 1, 1) := by decide +kernel
theorem dX3_open_34 : decode cX3_open 34 = .ok (.invokespecial 59, 3) := by decide +kernel
theorem dX3_open_37 : decode cX3_open 37 = .ok (.aastore, 1) := by decide +kernel
theorem dX3_open_38 : decode cX3_open 38 = .ok (.aload_n 0, 1) := by decide +kernel
theorem dX3_open_39 : decode cX3_open 39 = .ok (.dup, 1) := by decide +kernel
theorem dX3_open_40 : decode cX3_open 40 = .ok (.getfield 33, 3) := by decide +kernel
theorem dX3_open_43 : decode cX3_open 43 = .ok (.iconst 1, 1) := by decide +kernel
theorem dX3_open_44 : decode cX3_open 44 = .ok (.iadd, 1) := by decide +kernel
theorem dX3_open_45 : decode cX3_open 45 = .ok (.putfield 33, 3) := by decide +kernel
theorem dX3_open_48 : decode cX3_open 48 = .ok (.iload_n 2, 1) := by decide +kernel
theorem dX3_open_49 : decode cX3_open 49 = .ok (.ireturn, 1) := by decide +kernel
set_option maxRecDepth 20000 in
theorem ggX3_hang_X3_paperAt : GoodIn wsX3_hang wsX3_paperAt := goodIn_ca (goodIn_r _ [8, 9, 10, 11, 24, 25, 26, 27, 28, 29, 30, 31] (by decide +kernel) (by decide +kernel)) (goodIn_sub (fun _ h => List.mem_cons_of_mem _ (List.mem_append_right _ h)) (by decide +kernel))
set_option maxRecDepth 20000 in
theorem gX3_hang_X3_paperAt : GoodIn wsX3_hang (wsV RX3 62 RX3 yX3_paperAt wsX3_paperAt) := goodIn_app (goodIn_of _ (by decide +kernel)) ggX3_hang_X3_paperAt
set_option maxRecDepth 20000 in
theorem ggX3_hang_X3_countOf : GoodIn wsX3_hang wsX3_countOf := goodIn_r _ [14] (by decide +kernel) (by decide +kernel)
set_option maxRecDepth 20000 in
theorem gX3_hang_X3_countOf : GoodIn wsX3_hang (va_wsS RX3 71 yX3_countOf wsX3_countOf) := goodIn_app (goodIn_of _ (by decide +kernel)) ggX3_hang_X3_countOf
theorem dX3_hang_0 : decode cX3_hang 0 = .ok (.aload_n 0, 1) := by decide +kernel
theorem dX3_hang_1 : decode cX3_hang 1 = .ok (.iload_n 1, 1) := by decide +kernel
theorem dX3_hang_2 : decode cX3_hang 2 = .ok (.invokevirtual 62, 3) := by decide +kernel
theorem dX3_hang_5 : decode cX3_hang 5 = .ok (.astore_n 3, 1) := by decide +kernel
theorem dX3_hang_6 : decode cX3_hang 6 = .ok (.aload_n 0, 1) := by decide +kernel
theorem dX3_hang_7 : decode cX3_hang 7 = .ok (.iload_n 2, 1) := by decide +kernel
theorem dX3_hang_8 : decode cX3_hang 8 = .ok (.invokevirtual 62, 3) := by decide +kernel
theorem dX3_hang_11 : decode cX3_hang 11 = .ok (.pop, 1) := by decide +kernel
theorem dX3_hang_12 : decode cX3_hang 12 = .ok (.iload_n 1, 1) := by decide +kernel
theorem dX3_hang_13 : decode cX3_hang 13 = .ok (.iload_n 2, 1) := by decide +kernel
theorem dX3_hang_14 : decode cX3_hang 14 = .ok (.if_icmp .ne 13, 3) := by decide +kernel
theorem dX3_hang_17 : decode cX3_hang 17 = .ok (.new 47, 3) := by decide +kernel
theorem dX3_hang_20 : decode cX3_hang 20 = .ok (.dup, 1) := by decide +kernel
theorem dX3_hang_21 : decode cX3_hang 21 = .ok (.ldc 66, 2) := by decide +kernel
theorem dX3_hang_23 : decode cX3_hang 23 = .ok (.invokespecial 51, 3) := by decide +kernel
theorem dX3_hang_26 : decode cX3_hang 26 = .ok (.athrow, 1) := by decide +kernel
theorem dX3_hang_27 : decode cX3_hang 27 = .ok (.aload_n 3, 1) := by decide +kernel
theorem dX3_hang_28 : decode cX3_hang 28 = .ok (.getfield 68, 3) := by decide +kernel
theorem dX3_hang_31 : decode cX3_hang 31 = .ok (.iload_n 2, 1) := by decide +kernel
theorem dX3_hang_32 : decode cX3_hang 32 = .ok (.iconst 1, 1) := by decide +kernel
theorem dX3_hang_33 : decode cX3_hang 33 = .ok (.bastore, 1) := by decide +kernel
theorem dX3_hang_34 : decode cX3_hang 34 = .ok (.aload_n 3, 1) := by decide +kernel
theorem dX3_hang_35 : decode cX3_hang 35 = .ok (.getfield 68, 3) := by decide +kernel
theorem dX3_hang_38 : decode cX3_hang 38 = .ok (.invokestatic 71, 3) := by decide +kernel
theorem dX3_hang_41 : decode cX3_hang 41 = .ok (.ireturn, 1) := by decide +kernel
set_option maxRecDepth 20000 in
theorem ggX3_setInterval_X3_checkRange : GoodIn wsX3_setInterval wsX3_checkRange := goodIn_ca (goodIn_r _ [5, 6, 7] (by decide +kernel) (by decide +kernel)) (goodIn_sub (fun _ h => List.mem_cons_of_mem _ (List.mem_append_right _ h)) (by decide +kernel))
set_option maxRecDepth 20000 in
theorem gX3_setInterval_X3_checkRange : GoodIn wsX3_setInterval (va_wsS RX3 75 yX3_checkRange wsX3_checkRange) := goodIn_app (goodIn_of _ (by decide +kernel)) ggX3_setInterval_X3_checkRange
theorem dX3_setInterval_0 : decode cX3_setInterval 0 = .ok (.iload_n 1, 1) := by decide +kernel
theorem dX3_setInterval_1 : decode cX3_setInterval 1 = .ok (.iconst 1, 1) := by decide +kernel
theorem dX3_setInterval_2 : decode cX3_setInterval 2 = .ok (.bipush 100, 2) := by decide +kernel
theorem dX3_setInterval_4 : decode cX3_setInterval 4 = .ok (.invokestatic 75, 3) := by decide +kernel
theorem dX3_setInterval_7 : decode cX3_setInterval 7 = .ok (.aload_n 0, 1) := by decide +kernel
theorem dX3_setInterval_8 : decode cX3_setInterval 8 = .ok (.getfield 37, 3) := by decide +kernel
theorem dX3_setInterval_11 : decode cX3_setInterval 11 = .ok (.istore_n 2, 1) := by decide +kernel
theorem dX3_setInterval_12 : decode cX3_setInterval 12 = .ok (.aload_n 0, 1) := by decide +kernel
theorem dX3_setInterval_13 : decode cX3_setInterval 13 = .ok (.iload_n 1, 1) := by decide +kernel
theorem dX3_setInterval_14 : decode cX3_setInterval 14 = .ok (.putfield 37, 3) := by decide +kernel
theorem dX3_setInterval_17 : decode cX3_setInterval 17 = .ok (.iload_n 2, 1) := by decide +kernel
theorem dX3_setInterval_18 : decode cX3_setInterval 18 = .ok (.ireturn, 1) := by decide +kernel
set_option maxRecDepth 20000 in
theorem ggX3_draft_X3_paperAt : GoodIn wsX3_draft wsX3_paperAt := goodIn_ca (goodIn_r _ [9, 10, 11, 12, 48, 49, 50, 51, 52, 53, 54, 55] (by decide +kernel) (by decide +kernel)) (goodIn_sub (fun _ h => List.mem_cons_of_mem _ (List.mem_append_left _ (List.mem_append_right _ h))) (by decide +kernel))
set_option maxRecDepth 20000 in
theorem gX3_draft_X3_paperAt : GoodIn wsX3_draft (wsV RX3 62 RX3 yX3_paperAt wsX3_paperAt) := goodIn_app (goodIn_of _ (by decide +kernel)) ggX3_draft_X3_paperAt
set_option maxRecDepth 20000 in
theorem ggX3_draft_X3_checkPerson : GoodIn wsX3_draft wsX3_checkPerson := goodIn_ca (goodIn_r _ [15, 16, 17, 8, 18, 19, 20] (by decide +kernel) (by decide +kernel)) (goodIn_sub (fun _ h => List.mem_cons_of_mem _ (List.mem_append_right _ h)) (by decide +kernel))
set_option maxRecDepth 20000 in
theorem gX3_draft_X3_checkPerson : GoodIn wsX3_draft (va_wsS RX3 43 yX3_checkPerson wsX3_checkPerson) := goodIn_app (goodIn_of _ (by decide +kernel)) ggX3_draft_X3_checkPerson
set_option maxRecDepth 20000 in
theorem ggX3_draft_X3_checkRange : GoodIn wsX3_draft wsX3_checkRange := goodIn_ca (goodIn_r _ [18, 19, 20] (by decide +kernel) (by decide +kernel)) (goodIn_sub (fun _ h => List.mem_cons_of_mem _ (List.mem_append_right _ h)) (by decide +kernel))
set_option maxRecDepth 20000 in
theorem gX3_draft_X3_checkRange : GoodIn wsX3_draft (va_wsS RX3 75 yX3_checkRange wsX3_checkRange) := goodIn_app (goodIn_of _ (by decide +kernel)) ggX3_draft_X3_checkRange
set_option maxRecDepth 20000 in
theorem ggX3_draft_X1_begin : GoodIn wsX3_draft wsX1_begin := goodIn_r _ [25, 26, 27, 28, 29, 30, 31, 32, 33, 24, 34, 35, 36, 37, 38, 56, 57, 58, 59, 60, 61, 62, 63, 64, 65, 66, 67] (by decide +kernel) (by decide +kernel)
set_option maxRecDepth 20000 in
theorem gX3_draft_X1_begin : GoodIn wsX3_draft (wsV RX3 89 RX1 yX1_begin wsX1_begin) := goodIn_app (goodIn_of _ (by decide +kernel)) ggX3_draft_X1_begin
theorem dX3_draft_0 : decode cX3_draft 0 = .ok (.aload_n 0, 1) := by decide +kernel
theorem dX3_draft_1 : decode cX3_draft 1 = .ok (.iload_n 1, 1) := by decide +kernel
theorem dX3_draft_2 : decode cX3_draft 2 = .ok (.invokevirtual 62, 3) := by decide +kernel
theorem dX3_draft_5 : decode cX3_draft 5 = .ok (.astore 4, 2) := by decide +kernel
theorem dX3_draft_7 : decode cX3_draft 7 = .ok (.iload_n 2, 1) := by decide +kernel
theorem dX3_draft_8 : decode cX3_draft 8 = .ok (.invokestatic 43, 3) := by decide +kernel
theorem dX3_draft_11 : decode cX3_draft 11 = .ok (.iload_n 3, 1) := by decide +kernel
theorem dX3_draft_12 : decode cX3_draft 12 = .ok (.iconst 0, 1) := by decide +kernel
theorem dX3_draft_13 : decode cX3_draft 13 = .ok (.sipush 9999, 3) := by decide +kernel
theorem dX3_draft_16 : decode cX3_draft 16 = .ok (.invokestatic 75, 3) := by decide +kernel
theorem dX3_draft_19 : decode cX3_draft 19 = .ok (.aload 4, 2) := by decide +kernel
theorem dX3_draft_21 : decode cX3_draft 21 = .ok (.getfield 79, 3) := by decide +kernel
theorem dX3_draft_24 : decode cX3_draft 24 = .ok (.ifCond .eq 13, 3) := by decide +kernel
theorem dX3_draft_27 : decode cX3_draft 27 = .ok (.new 54, 3) := by decide +kernel
theorem dX3_draft_30 : decode cX3_draft 30 = .ok (.dup, 1) := by decide +kernel
theorem dX3_draft_31 : decode cX3_draft 31 = .ok (.ldc 83, 2) := by decide +kernel
theorem dX3_draft_33 : decode cX3_draft 33 = .ok (.invokespecial 58, 3) := by decide +kernel
theorem dX3_draft_36 : decode cX3_draft 36 = .ok (.athrow, 1) := by decide +kernel
theorem dX3_draft_37 : decode cX3_draft 37 = .ok (.aload 4, 2) := by decide +kernel
theorem dX3_draft_39 : decode cX3_draft 39 = .ok (.iconst 1, 1) := by decide +kernel
theorem dX3_draft_40 : decode cX3_draft 40 = .ok (.putfield 79, 3) := by decide +kernel
theorem dX3_draft_43 : decode cX3_draft 43 = .ok (.aload 4, 2) := by decide +kernel
theorem dX3_draft_45 : decode cX3_draft 45 = .ok (.getfield 85, 3) := by decide +kernel
theorem dX3_draft_48 : decode cX3_draft 48 = .ok (.iload_n 2, 1) := by decide +kernel
theorem dX3_draft_49 : decode cX3_draft 49 = .ok (.iload_n 3, 1) := by decide +kernel
theorem dX3_draft_50 : decode cX3_draft 50 = .ok (.invokevirtual 89, 3) := by decide +kernel
theorem dX3_draft_53 : decode cX3_draft 53 = .ok (.return_, 1) := by decide +kernel
set_option maxRecDepth 20000 in
theorem ggX3_change_X3_paperAt : GoodIn wsX3_change wsX3_paperAt := goodIn_ca (goodIn_r _ [9, 10, 11, 12, 45, 46, 47, 48, 49, 50, 51, 52] (by decide +kernel) (by decide +kernel)) (goodIn_sub (fun _ h => List.mem_cons_of_mem _ (List.mem_append_left _ (List.mem_append_right _ h))) (by decide +kernel))
set_option maxRecDepth 20000 in
theorem gX3_change_X3_paperAt : GoodIn wsX3_change (wsV RX3 62 RX3 yX3_paperAt wsX3_paperAt) := goodIn_app (goodIn_of _ (by decide +kernel)) ggX3_change_X3_paperAt
set_option maxRecDepth 20000 in
theorem ggX3_change_X3_checkRange : GoodIn wsX3_change wsX3_checkRange := goodIn_ca (goodIn_r _ [15, 16, 17] (by decide +kernel) (by decide +kernel)) (goodIn_sub (fun _ h => List.mem_cons_of_mem _ (List.mem_append_right _ h)) (by decide +kernel))
set_option maxRecDepth 20000 in
theorem gX3_change_X3_checkRange : GoodIn wsX3_change (va_wsS RX3 75 yX3_checkRange wsX3_checkRange) := goodIn_app (goodIn_of _ (by decide +kernel)) ggX3_change_X3_checkRange
set_option maxRecDepth 20000 in
theorem ggX3_change_X3_draftOf : GoodIn wsX3_change wsX3_draftOf := goodIn_ca (goodIn_r _ [20, 1, 2, 21, 22, 53, 54, 55, 56, 57, 58, 59, 60, 61] (by decide +kernel) (by decide +kernel)) (goodIn_sub (fun _ h => List.mem_cons_of_mem _ (List.mem_append_left _ (List.mem_append_left _ (List.mem_append_right _ h)))) (by decide +kernel))
set_option maxRecDepth 20000 in
theorem gX3_change_X3_draftOf : GoodIn wsX3_change (va_wsS RX3 95 yX3_draftOf wsX3_draftOf) := goodIn_app (goodIn_of _ (by decide +kernel)) ggX3_change_X3_draftOf
set_option maxRecDepth 20000 in
theorem ggX3_change_X1_beginRound : GoodIn wsX3_change wsX1_beginRound := goodIn_r _ [27, 28, 29, 30, 31, 32, 33, 34, 35, 36, 37, 38, 39, 40, 41, 42, 43, 44] (by decide +kernel) (by decide +kernel)
set_option maxRecDepth 20000 in
theorem gX3_change_X1_beginRound : GoodIn wsX3_change (wsV RX3 104 RX1 yX1_beginRound wsX1_beginRound) := goodIn_app (goodIn_of _ (by decide +kernel)) ggX3_change_X1_beginRound
theorem dX3_change_0 : decode cX3_change 0 = .ok (.aload_n 0, 1) := by decide +kernel
theorem dX3_change_1 : decode cX3_change 1 = .ok (.iload_n 1, 1) := by decide +kernel
theorem dX3_change_2 : decode cX3_change 2 = .ok (.invokevirtual 62, 3) := by decide +kernel
theorem dX3_change_5 : decode cX3_change 5 = .ok (.astore_n 3, 1) := by decide +kernel
theorem dX3_change_6 : decode cX3_change 6 = .ok (.iload_n 2, 1) := by decide +kernel
theorem dX3_change_7 : decode cX3_change 7 = .ok (.iconst 0, 1) := by decide +kernel
theorem dX3_change_8 : decode cX3_change 8 = .ok (.sipush 9999, 3) := by decide +kernel
theorem dX3_change_11 : decode cX3_change 11 = .ok (.invokestatic 75, 3) := by decide +kernel
theorem dX3_change_14 : decode cX3_change 14 = .ok (.aload_n 3, 1) := by decide +kernel
theorem dX3_change_15 : decode cX3_change 15 = .ok (.invokestatic 95, 3) := by decide +kernel
theorem dX3_change_18 : decode cX3_change 18 = .ok (.astore 4, 2) := by decide +kernel
theorem dX3_change_20 : decode cX3_change 20 = .ok (.aload 4, 2) := by decide +kernel
theorem dX3_change_22 : decode cX3_change 22 = .ok (.getfield 99, 3) := by decide +kernel
theorem dX3_change_25 : decode cX3_change 25 = .ok (.iload_n 2, 1) := by decide +kernel
theorem dX3_change_26 : decode cX3_change 26 = .ok (.if_icmp .ne 13, 3) := by decide +kernel
theorem dX3_change_29 : decode cX3_change 29 = .ok (.new 54, 3) := by decide +kernel
theorem dX3_change_32 : decode cX3_change 32 = .ok (.dup, 1) := by decide +kernel
theorem dX3_change_33 : decode cX3_change 33 = .ok (.ldc 102, 2) := by decide +kernel
theorem dX3_change_35 : decode cX3_change 35 = .ok (.invokespecial 58, 3) := by decide +kernel
theorem dX3_change_38 : decode cX3_change 38 = .ok (.athrow, 1) := by decide +kernel
theorem dX3_change_39 : decode cX3_change 39 = .ok (.aload 4, 2) := by decide +kernel
theorem dX3_change_41 : decode cX3_change 41 = .ok (.iload_n 2, 1) := by decide +kernel
theorem dX3_change_42 : decode cX3_change 42 = .ok (.putfield 99, 3) := by decide +kernel
theorem dX3_change_45 : decode cX3_change 45 = .ok (.aload 4, 2) := by decide +kernel
theorem dX3_change_47 : decode cX3_change 47 = .ok (.invokevirtual 104, 3) := by decide +kernel
theorem dX3_change_50 : decode cX3_change 50 = .ok (.aload 4, 2) := by decide +kernel
theorem dX3_change_52 : decode cX3_change 52 = .ok (.getfield 107, 3) := by decide +kernel
theorem dX3_change_55 : decode cX3_change 55 = .ok (.ireturn, 1) := by decide +kernel
set_option maxRecDepth 20000 in
theorem ggX3_drop_X3_paperAt : GoodIn wsX3_drop wsX3_paperAt := goodIn_ca (goodIn_r _ [7, 8, 9, 10, 38, 39, 40, 41, 42, 43, 44, 45] (by decide +kernel) (by decide +kernel)) (goodIn_sub (fun _ h => List.mem_cons_of_mem _ (List.mem_append_left _ (List.mem_append_right _ h))) (by decide +kernel))
set_option maxRecDepth 20000 in
theorem gX3_drop_X3_paperAt : GoodIn wsX3_drop (wsV RX3 62 RX3 yX3_paperAt wsX3_paperAt) := goodIn_app (goodIn_of _ (by decide +kernel)) ggX3_drop_X3_paperAt
set_option maxRecDepth 20000 in
theorem ggX3_drop_X3_draftOf : GoodIn wsX3_drop wsX3_draftOf := goodIn_ca (goodIn_r _ [13, 14, 15, 1, 16, 17, 18, 19, 20, 21, 22, 23, 24, 25] (by decide +kernel) (by decide +kernel)) (goodIn_sub (fun _ h => List.mem_cons_of_mem _ (List.mem_append_right _ h)) (by decide +kernel))
set_option maxRecDepth 20000 in
theorem gX3_drop_X3_draftOf : GoodIn wsX3_drop (va_wsS RX3 95 yX3_draftOf wsX3_draftOf) := goodIn_app (goodIn_of _ (by decide +kernel)) ggX3_drop_X3_draftOf
theorem dX3_drop_0 : decode cX3_drop 0 = .ok (.aload_n 0, 1) := by decide +kernel
theorem dX3_drop_1 : decode cX3_drop 1 = .ok (.iload_n 1, 1) := by decide +kernel
theorem dX3_drop_2 : decode cX3_drop 2 = .ok (.invokevirtual 62, 3) := by decide +kernel
theorem dX3_drop_5 : decode cX3_drop 5 = .ok (.astore_n 2, 1) := by decide +kernel
theorem dX3_drop_6 : decode cX3_drop 6 = .ok (.aload_n 2, 1) := by decide +kernel
theorem dX3_drop_7 : decode cX3_drop 7 = .ok (.invokestatic 95, 3) := by decide +kernel
theorem dX3_drop_10 : decode cX3_drop 10 = .ok (.astore_n 3, 1) := by decide +kernel
theorem dX3_drop_11 : decode cX3_drop 11 = .ok (.aload_n 2, 1) := by decide +kernel
theorem dX3_drop_12 : decode cX3_drop 12 = .ok (.iconst 0, 1) := by decide +kernel
theorem dX3_drop_13 : decode cX3_drop 13 = .ok (.putfield 79, 3) := by decide +kernel
theorem dX3_drop_16 : decode cX3_drop 16 = .ok (.aload_n 3, 1) := by decide +kernel
theorem dX3_drop_17 : decode cX3_drop 17 = .ok (.getfield 99, 3) := by decide +kernel
theorem dX3_drop_20 : decode cX3_drop 20 = .ok (.ireturn, 1) := by decide +kernel
set_option maxRecDepth 20000 in
theorem ggX3_reviewer_X3_paperAt : GoodIn wsX3_reviewer wsX3_paperAt := goodIn_ca (goodIn_r _ [12, 13, 14, 15, 48, 49, 50, 51, 52, 53, 54, 55] (by decide +kernel) (by decide +kernel)) (goodIn_sub (fun _ h => List.mem_cons_of_mem _ (List.mem_append_left _ (List.mem_append_right _ h))) (by decide +kernel))
set_option maxRecDepth 20000 in
theorem gX3_reviewer_X3_paperAt : GoodIn wsX3_reviewer (wsV RX3 62 RX3 yX3_paperAt wsX3_paperAt) := goodIn_app (goodIn_of _ (by decide +kernel)) ggX3_reviewer_X3_paperAt
set_option maxRecDepth 20000 in
theorem ggX3_reviewer_X3_checkPerson : GoodIn wsX3_reviewer wsX3_checkPerson := goodIn_ca (goodIn_r _ [18, 19, 20, 11, 21, 22, 23] (by decide +kernel) (by decide +kernel)) (goodIn_sub (fun _ h => List.mem_cons_of_mem _ (List.mem_append_right _ h)) (by decide +kernel))
set_option maxRecDepth 20000 in
theorem gX3_reviewer_X3_checkPerson : GoodIn wsX3_reviewer (va_wsS RX3 43 yX3_checkPerson wsX3_checkPerson) := goodIn_app (goodIn_of _ (by decide +kernel)) ggX3_reviewer_X3_checkPerson
set_option maxRecDepth 20000 in
theorem ggX3_reviewer_X3_draftOf : GoodIn wsX3_reviewer wsX3_draftOf := goodIn_ca (goodIn_r _ [26, 1, 2, 27, 28, 56, 57, 58, 59, 60, 61, 62, 63, 64] (by decide +kernel) (by decide +kernel)) (goodIn_sub (fun _ h => List.mem_cons_of_mem _ (List.mem_append_left _ (List.mem_append_left _ (List.mem_append_right _ h)))) (by decide +kernel))
set_option maxRecDepth 20000 in
theorem gX3_reviewer_X3_draftOf : GoodIn wsX3_reviewer (va_wsS RX3 95 yX3_draftOf wsX3_draftOf) := goodIn_app (goodIn_of _ (by decide +kernel)) ggX3_reviewer_X3_draftOf
set_option maxRecDepth 20000 in
theorem ggX3_reviewer_X1_hasReviewer : GoodIn wsX3_reviewer wsX1_hasReviewer := goodIn_r _ [33, 34, 35, 36, 37, 38, 39, 40, 41, 42, 43, 44, 45, 46, 47] (by decide +kernel) (by decide +kernel)
set_option maxRecDepth 20000 in
theorem gX3_reviewer_X1_hasReviewer : GoodIn wsX3_reviewer (wsV RX3 120 RX1 yX1_hasReviewer wsX1_hasReviewer) := goodIn_app (goodIn_of _ (by decide +kernel)) ggX3_reviewer_X1_hasReviewer
theorem dX3_reviewer_0 : decode cX3_reviewer 0 = .ok (.aload_n 0, 1) := by decide +kernel
theorem dX3_reviewer_1 : decode cX3_reviewer 1 = .ok (.iload_n 1, 1) := by decide +kernel
theorem dX3_reviewer_2 : decode cX3_reviewer 2 = .ok (.invokevirtual 62, 3) := by decide +kernel
theorem dX3_reviewer_5 : decode cX3_reviewer 5 = .ok (.astore_n 3, 1) := by decide +kernel
theorem dX3_reviewer_6 : decode cX3_reviewer 6 = .ok (.iload_n 2, 1) := by decide +kernel
theorem dX3_reviewer_7 : decode cX3_reviewer 7 = .ok (.invokestatic 43, 3) := by decide +kernel
theorem dX3_reviewer_10 : decode cX3_reviewer 10 = .ok (.aload_n 3, 1) := by decide +kernel
theorem dX3_reviewer_11 : decode cX3_reviewer 11 = .ok (.invokestatic 95, 3) := by decide +kernel
theorem dX3_reviewer_14 : decode cX3_reviewer 14 = .ok (.astore 4, 2) := by decide +kernel
theorem dX3_reviewer_16 : decode cX3_reviewer 16 = .ok (.aload 4, 2) := by decide +kernel
theorem dX3_reviewer_18 : decode cX3_reviewer 18 = .ok (.getfield 110, 3) := by decide +kernel
theorem dX3_reviewer_21 : decode cX3_reviewer 21 = .ok (.ifCond .eq 13, 3) := by decide +kernel
theorem dX3_reviewer_24 : decode cX3_reviewer 24 = .ok (.new 54, 3) := by decide +kernel
theorem dX3_reviewer_27 : decode cX3_reviewer 27 = .ok (.dup, 1) := by decide +kernel
theorem dX3_reviewer_28 : decode cX3_reviewer 28 = .ok (.ldc 113, 2) := by decide +kernel
theorem dX3_reviewer_30 : decode cX3_reviewer 30 = .ok (.invokespecial 58, 3) := by decide +kernel
theorem dX3_reviewer_33 : decode cX3_reviewer 33 = .ok (.athrow, 1) := by decide +kernel
theorem dX3_reviewer_34 : decode cX3_reviewer 34 = .ok (.iload_n 2, 1) := by decide +kernel
theorem dX3_reviewer_35 : decode cX3_reviewer 35 = .ok (.aload 4, 2) := by decide +kernel
theorem dX3_reviewer_37 : decode cX3_reviewer 37 = .ok (.getfield 115, 3) := by decide +kernel
theorem dX3_reviewer_40 : decode cX3_reviewer 40 = .ok (.if_icmp .eq 12, 3) := by decide +kernel
theorem dX3_reviewer_43 : decode cX3_reviewer 43 = .ok (.aload_n 0, 1) := by decide +kernel
theorem dX3_reviewer_44 : decode cX3_reviewer 44 = .ok (.getfield 9, 3) := by decide +kernel
theorem dX3_reviewer_47 : decode cX3_reviewer 47 = .ok (.iload_n 2, 1) := by decide +kernel
theorem dX3_reviewer_48 : decode cX3_reviewer 48 = .ok (.baload, 1) := by decide +kernel
theorem dX3_reviewer_49 : decode cX3_reviewer 49 = .ok (.ifCond .ne 13, 3) := by decide +kernel
theorem dX3_reviewer_52 : decode cX3_reviewer 52 = .ok (.new 54, 3) := by decide +kernel
theorem dX3_reviewer_55 : decode cX3_reviewer 55 = .ok (.dup, 1) := by decide +kernel
theorem dX3_reviewer_56 : decode cX3_reviewer 56 = .ok (.ldc 118, 2) := by decide +kernel
theorem dX3_reviewer_58 : decode cX3_reviewer 58 = .ok (.invokespecial 58, 3) := by decide +kernel
theorem dX3_reviewer_61 : decode cX3_reviewer 61 = .ok (.athrow, 1) := by decide +kernel
theorem dX3_reviewer_62 : decode cX3_reviewer 62 = .ok (.aload 4, 2) := by decide +kernel
theorem dX3_reviewer_64 : decode cX3_reviewer 64 = .ok (.iload_n 2, 1) := by decide +kernel
theorem dX3_reviewer_65 : decode cX3_reviewer 65 = .ok (.invokevirtual 120, 3) := by decide +kernel
theorem dX3_reviewer_68 : decode cX3_reviewer 68 = .ok (.ifCond .ne 12, 3) := by decide +kernel
theorem dX3_reviewer_71 : decode cX3_reviewer 71 = .ok (.aload 4, 2) := by decide +kernel
theorem dX3_reviewer_73 : decode cX3_reviewer 73 = .ok (.getfield 124, 3) := by decide +kernel
theorem dX3_reviewer_76 : decode cX3_reviewer 76 = .ok (.iconst 4, 1) := by decide +kernel
theorem dX3_reviewer_77 : decode cX3_reviewer 77 = .ok (.if_icmp .lt 13, 3) := by decide +kernel
theorem dX3_reviewer_80 : decode cX3_reviewer 80 = .ok (.new 54, 3) := by decide +kernel
theorem dX3_reviewer_83 : decode cX3_reviewer 83 = .ok (.dup, 1) := by decide +kernel
theorem dX3_reviewer_84 : decode cX3_reviewer 84 = .ok (.ldc 127, 2) := by decide +kernel
theorem dX3_reviewer_86 : decode cX3_reviewer 86 = .ok (.invokespecial 58, 3) := by decide +kernel
theorem dX3_reviewer_89 : decode cX3_reviewer 89 = .ok (.athrow, 1) := by decide +kernel
theorem dX3_reviewer_90 : decode cX3_reviewer 90 = .ok (.aload 4, 2) := by decide +kernel
theorem dX3_reviewer_92 : decode cX3_reviewer 92 = .ok (.getfield 129, 3) := by decide +kernel
theorem dX3_reviewer_95 : decode cX3_reviewer 95 = .ok (.aload 4, 2) := by decide +kernel
theorem dX3_reviewer_97 : decode cX3_reviewer 97 = .ok (.getfield 124, 3) := by decide +kernel
theorem dX3_reviewer_100 : decode cX3_reviewer 100 = .ok (.iload_n 2, 1) := by decide +kernel
theorem dX3_reviewer_101 : decode cX3_reviewer 101 = .ok (.iastore, 1) := by decide +kernel
theorem dX3_reviewer_102 : decode cX3_reviewer 102 = .ok (.aload 4, 2) := by decide +kernel
theorem dX3_reviewer_104 : decode cX3_reviewer 104 = .ok (.dup, 1) := by decide +kernel
theorem dX3_reviewer_105 : decode cX3_reviewer 105 = .ok (.getfield 124, 3) := by decide +kernel
theorem dX3_reviewer_108 : decode cX3_reviewer 108 = .ok (.iconst 1, 1) := by decide +kernel
theorem dX3_reviewer_109 : decode cX3_reviewer 109 = .ok (.iadd, 1) := by decide +kernel
theorem dX3_reviewer_110 : decode cX3_reviewer 110 = .ok (.putfield 124, 3) := by decide +kernel
theorem dX3_reviewer_113 : decode cX3_reviewer 113 = .ok (.aload 4, 2) := by decide +kernel
theorem dX3_reviewer_115 : decode cX3_reviewer 115 = .ok (.getfield 124, 3) := by decide +kernel
theorem dX3_reviewer_118 : decode cX3_reviewer 118 = .ok (.ireturn, 1) := by decide +kernel
set_option maxRecDepth 20000 in
theorem ggX3_reader_X3_paperAt : GoodIn wsX3_reader wsX3_paperAt := goodIn_ca (goodIn_r _ [8, 9, 10, 11, 40, 41, 42, 43, 44, 45, 46, 47] (by decide +kernel) (by decide +kernel)) (goodIn_sub (fun _ h => List.mem_cons_of_mem _ (List.mem_append_left _ (List.mem_append_right _ h))) (by decide +kernel))
set_option maxRecDepth 20000 in
theorem gX3_reader_X3_paperAt : GoodIn wsX3_reader (wsV RX3 62 RX3 yX3_paperAt wsX3_paperAt) := goodIn_app (goodIn_of _ (by decide +kernel)) ggX3_reader_X3_paperAt
set_option maxRecDepth 20000 in
theorem ggX3_reader_X3_checkPerson : GoodIn wsX3_reader wsX3_checkPerson := goodIn_ca (goodIn_r _ [14, 15, 16, 7, 17, 18, 19] (by decide +kernel) (by decide +kernel)) (goodIn_sub (fun _ h => List.mem_cons_of_mem _ (List.mem_append_right _ h)) (by decide +kernel))
set_option maxRecDepth 20000 in
theorem gX3_reader_X3_checkPerson : GoodIn wsX3_reader (va_wsS RX3 43 yX3_checkPerson wsX3_checkPerson) := goodIn_app (goodIn_of _ (by decide +kernel)) ggX3_reader_X3_checkPerson
set_option maxRecDepth 20000 in
theorem ggX3_reader_X3_draftOf : GoodIn wsX3_reader wsX3_draftOf := goodIn_ca (goodIn_r _ [22, 1, 2, 23, 24, 48, 49, 50, 51, 52, 53, 54, 55, 56] (by decide +kernel) (by decide +kernel)) (goodIn_sub (fun _ h => List.mem_cons_of_mem _ (List.mem_append_left _ (List.mem_append_left _ (List.mem_append_right _ h)))) (by decide +kernel))
set_option maxRecDepth 20000 in
theorem gX3_reader_X3_draftOf : GoodIn wsX3_reader (va_wsS RX3 95 yX3_draftOf wsX3_draftOf) := goodIn_app (goodIn_of _ (by decide +kernel)) ggX3_reader_X3_draftOf
set_option maxRecDepth 20000 in
theorem ggX3_reader_X3_countOf : GoodIn wsX3_reader wsX3_countOf := goodIn_r _ [27] (by decide +kernel) (by decide +kernel)
set_option maxRecDepth 20000 in
theorem gX3_reader_X3_countOf : GoodIn wsX3_reader (va_wsS RX3 71 yX3_countOf wsX3_countOf) := goodIn_app (goodIn_of _ (by decide +kernel)) ggX3_reader_X3_countOf
theorem dX3_reader_0 : decode cX3_reader 0 = .ok (.aload_n 0, 1) := by decide +kernel
theorem dX3_reader_1 : decode cX3_reader 1 = .ok (.iload_n 1, 1) := by decide +kernel
theorem dX3_reader_2 : decode cX3_reader 2 = .ok (.invokevirtual 62, 3) := by decide +kernel
theorem dX3_reader_5 : decode cX3_reader 5 = .ok (.astore_n 3, 1) := by decide +kernel
theorem dX3_reader_6 : decode cX3_reader 6 = .ok (.iload_n 2, 1) := by decide +kernel
theorem dX3_reader_7 : decode cX3_reader 7 = .ok (.invokestatic 43, 3) := by decide +kernel
theorem dX3_reader_10 : decode cX3_reader 10 = .ok (.aload_n 3, 1) := by decide +kernel
theorem dX3_reader_11 : decode cX3_reader 11 = .ok (.invokestatic 95, 3) := by decide +kernel
theorem dX3_reader_14 : decode cX3_reader 14 = .ok (.astore 4, 2) := by decide +kernel
theorem dX3_reader_16 : decode cX3_reader 16 = .ok (.aload 4, 2) := by decide +kernel
theorem dX3_reader_18 : decode cX3_reader 18 = .ok (.getfield 132, 3) := by decide +kernel
theorem dX3_reader_21 : decode cX3_reader 21 = .ok (.iload_n 2, 1) := by decide +kernel
theorem dX3_reader_22 : decode cX3_reader 22 = .ok (.baload, 1) := by decide +kernel
theorem dX3_reader_23 : decode cX3_reader 23 = .ok (.ifCond .eq 13, 3) := by decide +kernel
theorem dX3_reader_26 : decode cX3_reader 26 = .ok (.new 54, 3) := by decide +kernel
theorem dX3_reader_29 : decode cX3_reader 29 = .ok (.dup, 1) := by decide +kernel
theorem dX3_reader_30 : decode cX3_reader 30 = .ok (.ldc 135, 2) := by decide +kernel
theorem dX3_reader_32 : decode cX3_reader 32 = .ok (.invokespecial 58, 3) := by decide +kernel
theorem dX3_reader_35 : decode cX3_reader 35 = .ok (.athrow, 1) := by decide +kernel
theorem dX3_reader_36 : decode cX3_reader 36 = .ok (.aload 4, 2) := by decide +kernel
theorem dX3_reader_38 : decode cX3_reader 38 = .ok (.getfield 132, 3) := by decide +kernel
theorem dX3_reader_41 : decode cX3_reader 41 = .ok (.iload_n 2, 1) := by decide +kernel
theorem dX3_reader_42 : decode cX3_reader 42 = .ok (.iconst 1, 1) := by decide +kernel
theorem dX3_reader_43 : decode cX3_reader 43 = .ok (.bastore, 1) := by decide +kernel
theorem dX3_reader_44 : decode cX3_reader 44 = .ok (.aload 4, 2) := by decide +kernel
theorem dX3_reader_46 : decode cX3_reader 46 = .ok (.getfield 132, 3) := by decide +kernel
theorem dX3_reader_49 : decode cX3_reader 49 = .ok (.invokestatic 71, 3) := by decide +kernel
theorem dX3_reader_52 : decode cX3_reader 52 = .ok (.ireturn, 1) := by decide +kernel
set_option maxRecDepth 20000 in
theorem ggX3_review_X3_paperAt : GoodIn wsX3_review wsX3_paperAt := goodIn_ca (goodIn_r _ [9, 10, 11, 12, 65, 66, 67, 68, 69, 70, 71, 72] (by decide +kernel) (by decide +kernel)) (goodIn_sub (fun _ h => List.mem_cons_of_mem _ (List.mem_append_left _ (List.mem_append_right _ h))) (by decide +kernel))
set_option maxRecDepth 20000 in
theorem gX3_review_X3_paperAt : GoodIn wsX3_review (wsV RX3 62 RX3 yX3_paperAt wsX3_paperAt) := goodIn_app (goodIn_of _ (by decide +kernel)) ggX3_review_X3_paperAt
set_option maxRecDepth 20000 in
theorem ggX3_review_X3_checkPerson : GoodIn wsX3_review wsX3_checkPerson := goodIn_ca (goodIn_r _ [15, 16, 17, 8, 18, 19, 20] (by decide +kernel) (by decide +kernel)) (goodIn_sub (fun _ h => List.mem_cons_of_mem _ (List.mem_append_right _ h)) (by decide +kernel))
set_option maxRecDepth 20000 in
theorem gX3_review_X3_checkPerson : GoodIn wsX3_review (va_wsS RX3 43 yX3_checkPerson wsX3_checkPerson) := goodIn_app (goodIn_of _ (by decide +kernel)) ggX3_review_X3_checkPerson
set_option maxRecDepth 20000 in
theorem ggX3_review_X3_draftOf : GoodIn wsX3_review wsX3_draftOf := goodIn_ca (goodIn_r _ [23, 1, 2, 24, 25, 56, 57, 58, 59, 60, 61, 62, 63, 64] (by decide +kernel) (by decide +kernel)) (goodIn_sub (fun _ h => List.mem_cons_of_mem _ (List.mem_append_left _ (List.mem_append_left _ (List.mem_append_right _ h)))) (by decide +kernel))
set_option maxRecDepth 20000 in
theorem gX3_review_X3_draftOf : GoodIn wsX3_review (va_wsS RX3 95 yX3_draftOf wsX3_draftOf) := goodIn_app (goodIn_of _ (by decide +kernel)) ggX3_review_X3_draftOf
set_option maxRecDepth 20000 in
theorem ggX3_review_X1_hasReviewer : GoodIn wsX3_review wsX1_hasReviewer := goodIn_r _ [30, 31, 32, 44, 45, 46, 47, 48, 49, 50, 51, 52, 53, 54, 55] (by decide +kernel) (by decide +kernel)
set_option maxRecDepth 20000 in
theorem gX3_review_X1_hasReviewer : GoodIn wsX3_review (wsV RX3 120 RX1 yX1_hasReviewer wsX1_hasReviewer) := goodIn_app (goodIn_of _ (by decide +kernel)) ggX3_review_X1_hasReviewer
set_option maxRecDepth 20000 in
theorem ggX3_review_X1_nextReviewer : GoodIn wsX3_review wsX1_nextReviewer := goodIn_r _ [36, 31, 37, 32, 44, 45, 46, 47, 48, 49, 50, 51, 52, 53, 54, 55] (by decide +kernel) (by decide +kernel)
set_option maxRecDepth 20000 in
theorem gX3_review_X1_nextReviewer : GoodIn wsX3_review (wsV RX3 145 RX1 yX1_nextReviewer wsX1_nextReviewer) := goodIn_app (goodIn_of _ (by decide +kernel)) ggX3_review_X1_nextReviewer
set_option maxRecDepth 20000 in
theorem ggX3_review_X1_addRemark : GoodIn wsX3_review wsX1_addRemark := goodIn_r _ [41, 42, 43, 44, 45, 46, 47, 48, 49, 50, 51, 52, 53, 54, 55] (by decide +kernel) (by decide +kernel)
set_option maxRecDepth 20000 in
theorem gX3_review_X1_addRemark : GoodIn wsX3_review (wsV RX3 151 RX1 yX1_addRemark wsX1_addRemark) := goodIn_app (goodIn_of _ (by decide +kernel)) ggX3_review_X1_addRemark
theorem dX3_review_0 : decode cX3_review 0 = .ok (.aload_n 0, 1) := by decide +kernel
theorem dX3_review_1 : decode cX3_review 1 = .ok (.iload_n 1, 1) := by decide +kernel
theorem dX3_review_2 : decode cX3_review 2 = .ok (.invokevirtual 62, 3) := by decide +kernel
theorem dX3_review_5 : decode cX3_review 5 = .ok (.astore 4, 2) := by decide +kernel
theorem dX3_review_7 : decode cX3_review 7 = .ok (.iload_n 2, 1) := by decide +kernel
theorem dX3_review_8 : decode cX3_review 8 = .ok (.invokestatic 43, 3) := by decide +kernel
theorem dX3_review_11 : decode cX3_review 11 = .ok (.aload 4, 2) := by decide +kernel
theorem dX3_review_13 : decode cX3_review 13 = .ok (.invokestatic 95, 3) := by decide +kernel
theorem dX3_review_16 : decode cX3_review 16 = .ok (.astore 5, 2) := by decide +kernel
theorem dX3_review_18 : decode cX3_review 18 = .ok (.aload 5, 2) := by decide +kernel
theorem dX3_review_20 : decode cX3_review 20 = .ok (.iload_n 2, 1) := by decide +kernel
theorem dX3_review_21 : decode cX3_review 21 = .ok (.invokevirtual 120, 3) := by decide +kernel
theorem dX3_review_24 : decode cX3_review 24 = .ok (.ifCond .eq 13, 3) := by decide +kernel
theorem dX3_review_27 : decode cX3_review 27 = .ok (.aload 5, 2) := by decide +kernel
theorem dX3_review_29 : decode cX3_review 29 = .ok (.getfield 137, 3) := by decide +kernel
theorem dX3_review_32 : decode cX3_review 32 = .ok (.iload_n 2, 1) := by decide +kernel
theorem dX3_review_33 : decode cX3_review 33 = .ok (.baload, 1) := by decide +kernel
theorem dX3_review_34 : decode cX3_review 34 = .ok (.ifCond .eq 13, 3) := by decide +kernel
theorem dX3_review_37 : decode cX3_review 37 = .ok (.new 54, 3) := by decide +kernel
theorem dX3_review_40 : decode cX3_review 40 = .ok (.dup, 1) := by decide +kernel
theorem dX3_review_41 : decode cX3_review 41 = .ok (.ldc 140, 2) := by decide +kernel
theorem dX3_review_43 : decode cX3_review 43 = .ok (.invokespecial 58, 3) := by decide +kernel
theorem dX3_review_46 : decode cX3_review 46 = .ok (.athrow, 1) := by decide +kernel
theorem dX3_review_47 : decode cX3_review 47 = .ok (.aload 4, 2) := by decide +kernel
theorem dX3_review_49 : decode cX3_review 49 = .ok (.getfield 142, 3) := by decide +kernel
theorem dX3_review_52 : decode cX3_review 52 = .ok (.ifCond .eq 22, 3) := by decide +kernel
theorem dX3_review_55 : decode cX3_review 55 = .ok (.aload 5, 2) := by decide +kernel
theorem dX3_review_57 : decode cX3_review 57 = .ok (.invokevirtual 145, 3) := by decide +kernel
theorem dX3_review_60 : decode cX3_review 60 = .ok (.iload_n 2, 1) := by decide +kernel
theorem dX3_review_61 : decode cX3_review 61 = .ok (.if_icmp .eq 13, 3) := by decide +kernel
theorem dX3_review_64 : decode cX3_review 64 = .ok (.new 54, 3) := by decide +kernel
theorem dX3_review_67 : decode cX3_review 67 = .ok (.dup, 1) := by decide +kernel
theorem dX3_review_68 : decode cX3_review 68 = .ok (.ldc 149, 2) := by decide +kernel
theorem dX3_review_70 : decode cX3_review 70 = .ok (.invokespecial 58, 3) := by decide +kernel
theorem dX3_review_73 : decode cX3_review 73 = .ok (.athrow, 1) := by decide +kernel
theorem dX3_review_74 : decode cX3_review 74 = .ok (.aload 5, 2) := by decide +kernel
theorem dX3_review_76 : decode cX3_review 76 = .ok (.getfield 137, 3) := by decide +kernel
theorem dX3_review_79 : decode cX3_review 79 = .ok (.iload_n 2, 1) := by decide +kernel
theorem dX3_review_80 : decode cX3_review 80 = .ok (.iconst 1, 1) := by decide +kernel
theorem dX3_review_81 : decode cX3_review 81 = .ok (.bastore, 1) := by decide +kernel
theorem dX3_review_82 : decode cX3_review 82 = .ok (.iload_n 3, 1) := by decide +kernel
theorem dX3_review_83 : decode cX3_review 83 = .ok (.ifCond .eq 11, 3) := by decide +kernel
theorem dX3_review_86 : decode cX3_review 86 = .ok (.aload 5, 2) := by decide +kernel
theorem dX3_review_88 : decode cX3_review 88 = .ok (.invokevirtual 151, 3) := by decide +kernel
theorem dX3_review_91 : decode cX3_review 91 = .ok (.goto 4, 3) := by decide +kernel
theorem dX3_review_94 : decode cX3_review 94 = .ok (.iconst (-1), 1) := by decide +kernel
theorem dX3_review_95 : decode cX3_review 95 = .ok (.ireturn, 1) := by decide +kernel
set_option maxRecDepth 20000 in
theorem ggX3_answer_X3_paperAt : GoodIn wsX3_answer wsX3_paperAt := goodIn_ca (goodIn_r _ [11, 1, 2, 12, 37, 38, 39, 40, 41, 42, 43, 44] (by decide +kernel) (by decide +kernel)) (goodIn_sub (fun _ h => List.mem_cons_of_mem _ (List.mem_append_left _ (List.mem_append_right _ h))) (by decide +kernel))
set_option maxRecDepth 20000 in
theorem gX3_answer_X3_paperAt : GoodIn wsX3_answer (wsV RX3 62 RX3 yX3_paperAt wsX3_paperAt) := goodIn_app (goodIn_of _ (by decide +kernel)) ggX3_answer_X3_paperAt
set_option maxRecDepth 20000 in
theorem ggX3_answer_X3_draftOf : GoodIn wsX3_answer wsX3_draftOf := goodIn_ca (goodIn_r _ [15, 3, 4, 16, 17, 45, 46, 47, 48, 49, 50, 51, 52, 53] (by decide +kernel) (by decide +kernel)) (goodIn_sub (fun _ h => List.mem_cons_of_mem _ (List.mem_append_right _ h)) (by decide +kernel))
set_option maxRecDepth 20000 in
theorem gX3_answer_X3_draftOf : GoodIn wsX3_answer (va_wsS RX3 95 yX3_draftOf wsX3_draftOf) := goodIn_app (goodIn_of _ (by decide +kernel)) ggX3_answer_X3_draftOf
set_option maxRecDepth 20000 in
theorem ggX3_answer_X1_openRemarks : GoodIn wsX3_answer wsX1_openRemarks := goodIn_r _ [22, 23, 24, 25, 26, 27, 28, 29, 30, 31, 32, 33, 34, 35, 36] (by decide +kernel) (by decide +kernel)
set_option maxRecDepth 20000 in
theorem gX3_answer_X1_openRemarks : GoodIn wsX3_answer (wsV RX3 167 RX1 yX1_openRemarks wsX1_openRemarks) := goodIn_app (goodIn_of _ (by decide +kernel)) ggX3_answer_X1_openRemarks
theorem dX3_answer_0 : decode cX3_answer 0 = .ok (.aload_n 0, 1) := by decide +kernel
theorem dX3_answer_1 : decode cX3_answer 1 = .ok (.iload_n 1, 1) := by decide +kernel
theorem dX3_answer_2 : decode cX3_answer 2 = .ok (.invokevirtual 62, 3) := by decide +kernel
theorem dX3_answer_5 : decode cX3_answer 5 = .ok (.astore_n 3, 1) := by decide +kernel
theorem dX3_answer_6 : decode cX3_answer 6 = .ok (.aload_n 3, 1) := by decide +kernel
theorem dX3_answer_7 : decode cX3_answer 7 = .ok (.invokestatic 95, 3) := by decide +kernel
theorem dX3_answer_10 : decode cX3_answer 10 = .ok (.astore 4, 2) := by decide +kernel
theorem dX3_answer_12 : decode cX3_answer 12 = .ok (.iload_n 2, 1) := by decide +kernel
theorem dX3_answer_13 : decode cX3_answer 13 = .ok (.ifCond .lt 12, 3) := by decide +kernel
theorem dX3_answer_16 : decode cX3_answer 16 = .ok (.iload_n 2, 1) := by decide +kernel
theorem dX3_answer_17 : decode cX3_answer 17 = .ok (.aload 4, 2) := by decide +kernel
theorem dX3_answer_19 : decode cX3_answer 19 = .ok (.getfield 154, 3) := by decide +kernel
theorem dX3_answer_22 : decode cX3_answer 22 = .ok (.if_icmp .lt 13, 3) := by decide +kernel
theorem dX3_answer_25 : decode cX3_answer 25 = .ok (.new 157, 3) := by decide +kernel
theorem dX3_answer_28 : decode cX3_answer 28 = .ok (.dup, 1) := by decide +kernel
theorem dX3_answer_29 : decode cX3_answer 29 = .ok (.ldc 159, 2) := by decide +kernel
theorem dX3_answer_31 : decode cX3_answer 31 = .ok (.invokespecial 161, 3) := by decide +kernel
theorem dX3_answer_34 : decode cX3_answer 34 = .ok (.athrow, 1) := by decide +kernel
theorem dX3_answer_35 : decode cX3_answer 35 = .ok (.aload 4, 2) := by decide +kernel
theorem dX3_answer_37 : decode cX3_answer 37 = .ok (.getfield 162, 3) := by decide +kernel
theorem dX3_answer_40 : decode cX3_answer 40 = .ok (.iload_n 2, 1) := by decide +kernel
theorem dX3_answer_41 : decode cX3_answer 41 = .ok (.baload, 1) := by decide +kernel
theorem dX3_answer_42 : decode cX3_answer 42 = .ok (.ifCond .eq 13, 3) := by decide +kernel
theorem dX3_answer_45 : decode cX3_answer 45 = .ok (.new 54, 3) := by decide +kernel
theorem dX3_answer_48 : decode cX3_answer 48 = .ok (.dup, 1) := by decide +kernel
theorem dX3_answer_49 : decode cX3_answer 49 = .ok (.ldc 165, 2) := by decide +kernel
theorem dX3_answer_51 : decode cX3_answer 51 = .ok (.invokespecial 58, 3) := by decide +kernel
theorem dX3_answer_54 : decode cX3_answer 54 = .ok (.athrow, 1) := by decide +kernel
theorem dX3_answer_55 : decode cX3_answer 55 = .ok (.aload 4, 2) := by decide +kernel
theorem dX3_answer_57 : decode cX3_answer 57 = .ok (.getfield 162, 3) := by decide +kernel
theorem dX3_answer_60 : decode cX3_answer 60 = .ok (.iload_n 2, 1) := by decide +kernel
theorem dX3_answer_61 : decode cX3_answer 61 = .ok (.iconst 1, 1) := by decide +kernel
theorem dX3_answer_62 : decode cX3_answer 62 = .ok (.bastore, 1) := by decide +kernel
theorem dX3_answer_63 : decode cX3_answer 63 = .ok (.aload 4, 2) := by decide +kernel
theorem dX3_answer_65 : decode cX3_answer 65 = .ok (.invokevirtual 167, 3) := by decide +kernel
theorem dX3_answer_68 : decode cX3_answer 68 = .ok (.ireturn, 1) := by decide +kernel
set_option maxRecDepth 20000 in
theorem ggX3_approve_X3_paperAt : GoodIn wsX3_approve wsX3_paperAt := goodIn_ca (goodIn_r _ [11, 12, 13, 14, 59, 60, 61, 62, 63, 64, 65, 66] (by decide +kernel) (by decide +kernel)) (goodIn_sub (fun _ h => List.mem_cons_of_mem _ (List.mem_append_left _ (List.mem_append_right _ h))) (by decide +kernel))
set_option maxRecDepth 20000 in
theorem gX3_approve_X3_paperAt : GoodIn wsX3_approve (wsV RX3 62 RX3 yX3_paperAt wsX3_paperAt) := goodIn_app (goodIn_of _ (by decide +kernel)) ggX3_approve_X3_paperAt
set_option maxRecDepth 20000 in
theorem ggX3_approve_X3_checkPerson : GoodIn wsX3_approve wsX3_checkPerson := goodIn_ca (goodIn_r _ [17, 18, 19, 10, 20, 21, 22] (by decide +kernel) (by decide +kernel)) (goodIn_sub (fun _ h => List.mem_cons_of_mem _ (List.mem_append_right _ h)) (by decide +kernel))
set_option maxRecDepth 20000 in
theorem gX3_approve_X3_checkPerson : GoodIn wsX3_approve (va_wsS RX3 43 yX3_checkPerson wsX3_checkPerson) := goodIn_app (goodIn_of _ (by decide +kernel)) ggX3_approve_X3_checkPerson
set_option maxRecDepth 20000 in
theorem ggX3_approve_X3_checkRange : GoodIn wsX3_approve wsX3_checkRange := goodIn_ca (goodIn_r _ [20, 21, 22] (by decide +kernel) (by decide +kernel)) (goodIn_sub (fun _ h => List.mem_cons_of_mem _ (List.mem_append_right _ h)) (by decide +kernel))
set_option maxRecDepth 20000 in
theorem gX3_approve_X3_checkRange : GoodIn wsX3_approve (va_wsS RX3 75 yX3_checkRange wsX3_checkRange) := goodIn_app (goodIn_of _ (by decide +kernel)) ggX3_approve_X3_checkRange
set_option maxRecDepth 20000 in
theorem ggX3_approve_X3_draftOf : GoodIn wsX3_approve wsX3_draftOf := goodIn_ca (goodIn_r _ [25, 1, 2, 26, 27, 79, 80, 81, 82, 83, 84, 85, 86, 87] (by decide +kernel) (by decide +kernel)) (goodIn_sub (fun _ h => List.mem_cons_of_mem _ (List.mem_append_left _ (List.mem_append_left _ (List.mem_append_right _ h)))) (by decide +kernel))

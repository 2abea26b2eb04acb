set_option maxRecDepth 20000 in
theorem gX3_approve_X3_draftOf : GoodIn wsX3_approve (va_wsS RX3 95 yX3_draftOf wsX3_draftOf) := goodIn_app (goodIn_of _ (by decide +kernel)) ggX3_approve_X3_draftOf
set_option maxRecDepth 20000 in
theorem ggX3_approve_X1_nextStep : GoodIn wsX3_approve wsX1_nextStep := goodIn_r _ [32, 33, 34, 35, 36, 37, 31, 38, 39, 40, 41, 42, 43, 44, 45, 46, 47, 48, 49, 50, 51, 52, 67, 68, 69, 70, 71, 72, 73, 74, 75, 76, 77, 78] (by decide +kernel) (by decide +kernel)
set_option maxRecDepth 20000 in
theorem gX3_approve_X1_nextStep : GoodIn wsX3_approve (wsV RX3 170 RX1 yX1_nextStep wsX1_nextStep) := goodIn_app (goodIn_of _ (by decide +kernel)) ggX3_approve_X1_nextStep
set_option maxRecDepth 20000 in
theorem ggX3_approve_X3_canApprove : GoodIn wsX3_approve wsX3_canApprove := goodIn_r _ [56, 57, 58, 59, 60, 61, 62, 63, 64, 65, 66] (by decide +kernel) (by decide +kernel)
set_option maxRecDepth 20000 in
theorem gX3_approve_X3_canApprove : GoodIn wsX3_approve (wsV RX3 175 RX3 yX3_canApprove wsX3_canApprove) := goodIn_app (goodIn_of _ (by decide +kernel)) ggX3_approve_X3_canApprove
theorem dX3_approve_0 : decode cX3_approve 0 = .ok (.aload_n 0, 1) := by decide +kernel
theorem dX3_approve_1 : decode cX3_approve 1 = .ok (.iload_n 1, 1) := by decide +kernel
theorem dX3_approve_2 : decode cX3_approve 2 = .ok (.invokevirtual 62, 3) := by decide +kernel
theorem dX3_approve_5 : decode cX3_approve 5 = .ok (.astore 4, 2) := by decide +kernel
theorem dX3_approve_7 : decode cX3_approve 7 = .ok (.iload_n 2, 1) := by decide +kernel
theorem dX3_approve_8 : decode cX3_approve 8 = .ok (.invokestatic 43, 3) := by decide +kernel
theorem dX3_approve_11 : decode cX3_approve 11 = .ok (.iload_n 3, 1) := by decide +kernel
theorem dX3_approve_12 : decode cX3_approve 12 = .ok (.aload_n 0, 1) := by decide +kernel
theorem dX3_approve_13 : decode cX3_approve 13 = .ok (.getfield 40, 3) := by decide +kernel
theorem dX3_approve_16 : decode cX3_approve 16 = .ok (.iconst 1, 1) := by decide +kernel
theorem dX3_approve_17 : decode cX3_approve 17 = .ok (.iadd, 1) := by decide +kernel
theorem dX3_approve_18 : decode cX3_approve 18 = .ok (.sipush 1000, 3) := by decide +kernel
theorem dX3_approve_21 : decode cX3_approve 21 = .ok (.invokestatic 75, 3) := by decide +kernel
theorem dX3_approve_24 : decode cX3_approve 24 = .ok (.aload 4, 2) := by decide +kernel
theorem dX3_approve_26 : decode cX3_approve 26 = .ok (.invokestatic 95, 3) := by decide +kernel
theorem dX3_approve_29 : decode cX3_approve 29 = .ok (.astore 5, 2) := by decide +kernel
theorem dX3_approve_31 : decode cX3_approve 31 = .ok (.aload 5, 2) := by decide +kernel
theorem dX3_approve_33 : decode cX3_approve 33 = .ok (.invokevirtual 170, 3) := by decide +kernel
theorem dX3_approve_36 : decode cX3_approve 36 = .ok (.iconst 3, 1) := by decide +kernel
theorem dX3_approve_37 : decode cX3_approve 37 = .ok (.if_icmp .eq 13, 3) := by decide +kernel
theorem dX3_approve_40 : decode cX3_approve 40 = .ok (.new 54, 3) := by decide +kernel
theorem dX3_approve_43 : decode cX3_approve 43 = .ok (.dup, 1) := by decide +kernel
theorem dX3_approve_44 : decode cX3_approve 44 = .ok (.ldc 173, 2) := by decide +kernel
theorem dX3_approve_46 : decode cX3_approve 46 = .ok (.invokespecial 58, 3) := by decide +kernel
theorem dX3_approve_49 : decode cX3_approve 49 = .ok (.athrow, 1) := by decide +kernel
theorem dX3_approve_50 : decode cX3_approve 50 = .ok (.iload_n 2, 1) := by decide +kernel
theorem dX3_approve_51 : decode cX3_approve 51 = .ok (.aload 5, 2) := by decide +kernel
theorem dX3_approve_53 : decode cX3_approve 53 = .ok (.getfield 115, 3) := by decide +kernel
theorem dX3_approve_56 : decode cX3_approve 56 = .ok (.if_icmp .eq 11, 3) := by decide +kernel
theorem dX3_approve_59 : decode cX3_approve 59 = .ok (.aload_n 0, 1) := by decide +kernel
theorem dX3_approve_60 : decode cX3_approve 60 = .ok (.iload_n 2, 1) := by decide +kernel
theorem dX3_approve_61 : decode cX3_approve 61 = .ok (.invokevirtual 175, 3) := by decide +kernel
theorem dX3_approve_64 : decode cX3_approve 64 = .ok (.ifCond .ne 13, 3) := by decide +kernel
theorem dX3_approve_67 : decode cX3_approve 67 = .ok (.new 54, 3) := by decide +kernel
theorem dX3_approve_70 : decode cX3_approve 70 = .ok (.dup, 1) := by decide +kernel
theorem dX3_approve_71 : decode cX3_approve 71 = .ok (.ldc 178, 2) := by decide +kernel
theorem dX3_approve_73 : decode cX3_approve 73 = .ok (.invokespecial 58, 3) := by decide +kernel
theorem dX3_approve_76 : decode cX3_approve 76 = .ok (.athrow, 1) := by decide +kernel
theorem dX3_approve_77 : decode cX3_approve 77 = .ok (.aload 5, 2) := by decide +kernel
theorem dX3_approve_79 : decode cX3_approve 79 = .ok (.iconst 1, 1) := by decide +kernel
theorem dX3_approve_80 : decode cX3_approve 80 = .ok (.putfield 110, 3) := by decide +kernel
theorem dX3_approve_83 : decode cX3_approve 83 = .ok (.aload 5, 2) := by decide +kernel
theorem dX3_approve_85 : decode cX3_approve 85 = .ok (.iload_n 3, 1) := by decide +kernel
theorem dX3_approve_86 : decode cX3_approve 86 = .ok (.putfield 180, 3) := by decide +kernel
theorem dX3_approve_89 : decode cX3_approve 89 = .ok (.return_, 1) := by decide +kernel
set_option maxRecDepth 20000 in
theorem ggX3_confirm_X3_paperAt : GoodIn wsX3_confirm wsX3_paperAt := goodIn_ca (goodIn_r _ [10, 11, 12, 13, 42, 43, 44, 45, 46, 47, 48, 49] (by decide +kernel) (by decide +kernel)) (goodIn_sub (fun _ h => List.mem_cons_of_mem _ (List.mem_append_left _ (List.mem_append_right _ h))) (by decide +kernel))
set_option maxRecDepth 20000 in
theorem gX3_confirm_X3_paperAt : GoodIn wsX3_confirm (wsV RX3 62 RX3 yX3_paperAt wsX3_paperAt) := goodIn_app (goodIn_of _ (by decide +kernel)) ggX3_confirm_X3_paperAt
set_option maxRecDepth 20000 in
theorem ggX3_confirm_X3_checkPerson : GoodIn wsX3_confirm wsX3_checkPerson := goodIn_ca (goodIn_r _ [16, 17, 18, 9, 19, 20, 21] (by decide +kernel) (by decide +kernel)) (goodIn_sub (fun _ h => List.mem_cons_of_mem _ (List.mem_append_right _ h)) (by decide +kernel))
set_option maxRecDepth 20000 in
theorem gX3_confirm_X3_checkPerson : GoodIn wsX3_confirm (va_wsS RX3 43 yX3_checkPerson wsX3_checkPerson) := goodIn_app (goodIn_of _ (by decide +kernel)) ggX3_confirm_X3_checkPerson
set_option maxRecDepth 20000 in
theorem ggX3_confirm_X3_draftOf : GoodIn wsX3_confirm wsX3_draftOf := goodIn_ca (goodIn_r _ [24, 1, 2, 25, 26, 50, 51, 52, 53, 54, 55, 56, 57, 58] (by decide +kernel) (by decide +kernel)) (goodIn_sub (fun _ h => List.mem_cons_of_mem _ (List.mem_append_left _ (List.mem_append_left _ (List.mem_append_right _ h)))) (by decide +kernel))
set_option maxRecDepth 20000 in
theorem gX3_confirm_X3_draftOf : GoodIn wsX3_confirm (va_wsS RX3 95 yX3_draftOf wsX3_draftOf) := goodIn_app (goodIn_of _ (by decide +kernel)) ggX3_confirm_X3_draftOf
set_option maxRecDepth 20000 in
theorem ggX3_confirm_X3_countOf : GoodIn wsX3_confirm wsX3_countOf := goodIn_r _ [29] (by decide +kernel) (by decide +kernel)
set_option maxRecDepth 20000 in
theorem gX3_confirm_X3_countOf : GoodIn wsX3_confirm (va_wsS RX3 71 yX3_countOf wsX3_countOf) := goodIn_app (goodIn_of _ (by decide +kernel)) ggX3_confirm_X3_countOf
theorem dX3_confirm_0 : decode cX3_confirm 0 = .ok (.aload_n 0, 1) := by decide +kernel
theorem dX3_confirm_1 : decode cX3_confirm 1 = .ok (.iload_n 1, 1) := by decide +kernel
theorem dX3_confirm_2 : decode cX3_confirm 2 = .ok (.invokevirtual 62, 3) := by decide +kernel
theorem dX3_confirm_5 : decode cX3_confirm 5 = .ok (.astore_n 3, 1) := by decide +kernel
theorem dX3_confirm_6 : decode cX3_confirm 6 = .ok (.iload_n 2, 1) := by decide +kernel
theorem dX3_confirm_7 : decode cX3_confirm 7 = .ok (.invokestatic 43, 3) := by decide +kernel
theorem dX3_confirm_10 : decode cX3_confirm 10 = .ok (.aload_n 3, 1) := by decide +kernel
theorem dX3_confirm_11 : decode cX3_confirm 11 = .ok (.invokestatic 95, 3) := by decide +kernel
theorem dX3_confirm_14 : decode cX3_confirm 14 = .ok (.astore 4, 2) := by decide +kernel
theorem dX3_confirm_16 : decode cX3_confirm 16 = .ok (.aload 4, 2) := by decide +kernel
theorem dX3_confirm_18 : decode cX3_confirm 18 = .ok (.getfield 110, 3) := by decide +kernel
theorem dX3_confirm_21 : decode cX3_confirm 21 = .ok (.ifCond .ne 13, 3) := by decide +kernel
theorem dX3_confirm_24 : decode cX3_confirm 24 = .ok (.new 54, 3) := by decide +kernel
theorem dX3_confirm_27 : decode cX3_confirm 27 = .ok (.dup, 1) := by decide +kernel
theorem dX3_confirm_28 : decode cX3_confirm 28 = .ok (.ldc 183, 2) := by decide +kernel
theorem dX3_confirm_30 : decode cX3_confirm 30 = .ok (.invokespecial 58, 3) := by decide +kernel
theorem dX3_confirm_33 : decode cX3_confirm 33 = .ok (.athrow, 1) := by decide +kernel
theorem dX3_confirm_34 : decode cX3_confirm 34 = .ok (.aload 4, 2) := by decide +kernel
theorem dX3_confirm_36 : decode cX3_confirm 36 = .ok (.getfield 132, 3) := by decide +kernel
theorem dX3_confirm_39 : decode cX3_confirm 39 = .ok (.iload_n 2, 1) := by decide +kernel
theorem dX3_confirm_40 : decode cX3_confirm 40 = .ok (.baload, 1) := by decide +kernel
theorem dX3_confirm_41 : decode cX3_confirm 41 = .ok (.ifCond .eq 13, 3) := by decide +kernel
theorem dX3_confirm_44 : decode cX3_confirm 44 = .ok (.aload 4, 2) := by decide +kernel
theorem dX3_confirm_46 : decode cX3_confirm 46 = .ok (.getfield 185, 3) := by decide +kernel
theorem dX3_confirm_49 : decode cX3_confirm 49 = .ok (.iload_n 2, 1) := by decide +kernel
theorem dX3_confirm_50 : decode cX3_confirm 50 = .ok (.baload, 1) := by decide +kernel
theorem dX3_confirm_51 : decode cX3_confirm 51 = .ok (.ifCond .eq 13, 3) := by decide +kernel
theorem dX3_confirm_54 : decode cX3_confirm 54 = .ok (.new 54, 3) := by decide +kernel
theorem dX3_confirm_57 : decode cX3_confirm 57 = .ok (.dup, 1) := by decide +kernel
theorem dX3_confirm_58 : decode cX3_confirm 58 = .ok (.ldc 188, 2) := by decide +kernel
theorem dX3_confirm_60 : decode cX3_confirm 60 = .ok (.invokespecial 58, 3) := by decide +kernel
theorem dX3_confirm_63 : decode cX3_confirm 63 = .ok (.athrow, 1) := by decide +kernel
theorem dX3_confirm_64 : decode cX3_confirm 64 = .ok (.aload 4, 2) := by decide +kernel
theorem dX3_confirm_66 : decode cX3_confirm 66 = .ok (.getfield 185, 3) := by decide +kernel
theorem dX3_confirm_69 : decode cX3_confirm 69 = .ok (.iload_n 2, 1) := by decide +kernel
theorem dX3_confirm_70 : decode cX3_confirm 70 = .ok (.iconst 1, 1) := by decide +kernel
theorem dX3_confirm_71 : decode cX3_confirm 71 = .ok (.bastore, 1) := by decide +kernel
theorem dX3_confirm_72 : decode cX3_confirm 72 = .ok (.aload 4, 2) := by decide +kernel
theorem dX3_confirm_74 : decode cX3_confirm 74 = .ok (.getfield 132, 3) := by decide +kernel
theorem dX3_confirm_77 : decode cX3_confirm 77 = .ok (.invokestatic 71, 3) := by decide +kernel
theorem dX3_confirm_80 : decode cX3_confirm 80 = .ok (.aload 4, 2) := by decide +kernel
theorem dX3_confirm_82 : decode cX3_confirm 82 = .ok (.getfield 185, 3) := by decide +kernel
theorem dX3_confirm_85 : decode cX3_confirm 85 = .ok (.invokestatic 71, 3) := by decide +kernel
theorem dX3_confirm_88 : decode cX3_confirm 88 = .ok (.isub, 1) := by decide +kernel
theorem dX3_confirm_89 : decode cX3_confirm 89 = .ok (.ireturn, 1) := by decide +kernel
set_option maxRecDepth 20000 in
theorem ggX3_pass_X3_checkRange : GoodIn wsX3_pass wsX3_checkRange := goodIn_ca (goodIn_r _ [7, 8, 9] (by decide +kernel) (by decide +kernel)) (goodIn_sub (fun _ h => List.mem_cons_of_mem _ (List.mem_append_right _ h)) (by decide +kernel))
set_option maxRecDepth 20000 in
theorem gX3_pass_X3_checkRange : GoodIn wsX3_pass (va_wsS RX3 75 yX3_checkRange wsX3_checkRange) := goodIn_app (goodIn_of _ (by decide +kernel)) ggX3_pass_X3_checkRange
set_option maxRecDepth 20000 in
theorem ggX3_pass_X3_beginDay : GoodIn wsX3_pass wsX3_beginDay := goodIn_r _ [13, 14, 3, 15, 16, 17, 18, 19, 20, 21, 22, 23, 24, 25, 26, 27, 28, 29, 30, 31, 32, 33, 34, 35, 36, 37, 38, 39, 40, 41, 42, 43, 44, 45, 46, 47, 48, 49, 50, 51, 52, 53, 54, 55, 56, 57, 58, 59, 60, 61, 62, 63, 64, 6, 65, 66, 67, 68, 69, 70, 71, 72, 73, 74, 75, 76, 77, 78, 79, 80, 81, 82, 83, 84, 85, 86, 87, 88, 89, 90, 91, 92, 93, 94, 95, 96, 97, 98, 99, 100] (by decide +kernel) (by decide +kernel)
set_option maxRecDepth 20000 in
theorem gX3_pass_X3_beginDay : GoodIn wsX3_pass (wsV RX3 192 RX3 yX3_beginDay wsX3_beginDay) := goodIn_app (goodIn_of _ (by decide +kernel)) ggX3_pass_X3_beginDay
theorem dX3_pass_0 : decode cX3_pass 0 = .ok (.iload_n 1, 1) := by decide +kernel
theorem dX3_pass_1 : decode cX3_pass 1 = .ok (.iconst 1, 1) := by decide +kernel
theorem dX3_pass_2 : decode cX3_pass 2 = .ok (.bipush 50, 2) := by decide +kernel
theorem dX3_pass_4 : decode cX3_pass 4 = .ok (.invokestatic 75, 3) := by decide +kernel
theorem dX3_pass_7 : decode cX3_pass 7 = .ok (.aload_n 0, 1) := by decide +kernel
theorem dX3_pass_8 : decode cX3_pass 8 = .ok (.getfield 40, 3) := by decide +kernel
theorem dX3_pass_11 : decode cX3_pass 11 = .ok (.iload_n 1, 1) := by decide +kernel
theorem dX3_pass_12 : decode cX3_pass 12 = .ok (.iadd, 1) := by decide +kernel
theorem dX3_pass_13 : decode cX3_pass 13 = .ok (.sipush 1000, 3) := by decide +kernel
theorem dX3_pass_16 : decode cX3_pass 16 = .ok (.if_icmp .le 13, 3) := by decide +kernel
theorem dX3_pass_19 : decode cX3_pass 19 = .ok (.new 54, 3) := by decide +kernel
theorem dX3_pass_22 : decode cX3_pass 22 = .ok (.dup, 1) := by decide +kernel
theorem dX3_pass_23 : decode cX3_pass 23 = .ok (.ldc 190, 2) := by decide +kernel
theorem dX3_pass_25 : decode cX3_pass 25 = .ok (.invokespecial 58, 3) := by decide +kernel
theorem dX3_pass_28 : decode cX3_pass 28 = .ok (.athrow, 1) := by decide +kernel
theorem dX3_pass_29 : decode cX3_pass 29 = .ok (.iconst 0, 1) := by decide +kernel
theorem dX3_pass_30 : decode cX3_pass 30 = .ok (.istore_n 2, 1) := by decide +kernel
theorem dX3_pass_31 : decode cX3_pass 31 = .ok (.iconst 0, 1) := by decide +kernel
theorem dX3_pass_32 : decode cX3_pass 32 = .ok (.istore_n 3, 1) := by decide +kernel
theorem dX3_pass_33 : decode cX3_pass 33 = .ok (.iload_n 3, 1) := by decide +kernel
theorem dX3_pass_34 : decode cX3_pass 34 = .ok (.iload_n 1, 1) := by decide +kernel
theorem dX3_pass_35 : decode cX3_pass 35 = .ok (.if_icmp .ge 26, 3) := by decide +kernel
theorem dX3_pass_38 : decode cX3_pass 38 = .ok (.aload_n 0, 1) := by decide +kernel
theorem dX3_pass_39 : decode cX3_pass 39 = .ok (.dup, 1) := by decide +kernel
theorem dX3_pass_40 : decode cX3_pass 40 = .ok (.getfield 40, 3) := by decide +kernel
theorem dX3_pass_43 : decode cX3_pass 43 = .ok (.iconst 1, 1) := by decide +kernel
theorem dX3_pass_44 : decode cX3_pass 44 = .ok (.iadd, 1) := by decide +kernel
theorem dX3_pass_45 : decode cX3_pass 45 = .ok (.putfield 40, 3) := by decide +kernel
theorem dX3_pass_48 : decode cX3_pass 48 = .ok (.iload_n 2, 1) := by decide +kernel
theorem dX3_pass_49 : decode cX3_pass 49 = .ok (.aload_n 0, 1) := by decide +kernel
theorem dX3_pass_50 : decode cX3_pass 50 = .ok (.invokevirtual 192, 3) := by decide +kernel
theorem dX3_pass_53 : decode cX3_pass 53 = .ok (.iadd, 1) := by decide +kernel
theorem dX3_pass_54 : decode cX3_pass 54 = .ok (.istore_n 2, 1) := by decide +kernel
theorem dX3_pass_55 : decode cX3_pass 55 = .ok (.iinc 3 1, 3) := by decide +kernel
theorem dX3_pass_58 : decode cX3_pass 58 = .ok (.goto (-25), 3) := by decide +kernel
theorem dX3_pass_61 : decode cX3_pass 61 = .ok (.iload_n 2, 1) := by decide +kernel
theorem dX3_pass_62 : decode cX3_pass 62 = .ok (.ireturn, 1) := by decide +kernel
set_option maxRecDepth 20000 in
theorem ggX3_look_X3_paperAt : GoodIn wsX3_look wsX3_paperAt := goodIn_ca (goodIn_r _ [7, 8, 9, 10, 32, 33, 34, 35, 36, 37, 38, 39] (by decide +kernel) (by decide +kernel)) (goodIn_sub (fun _ h => List.mem_cons_of_mem _ (List.mem_append_left _ (List.mem_append_right _ h))) (by decide +kernel))
set_option maxRecDepth 20000 in
theorem gX3_look_X3_paperAt : GoodIn wsX3_look (wsV RX3 62 RX3 yX3_paperAt wsX3_paperAt) := goodIn_app (goodIn_of _ (by decide +kernel)) ggX3_look_X3_paperAt
set_option maxRecDepth 20000 in
theorem ggX3_look_X3_checkInForce : GoodIn wsX3_look wsX3_checkInForce := goodIn_ca (goodIn_r _ [13, 14, 15, 16, 17, 18, 19, 20, 21, 40, 41, 42, 43, 44, 45, 46, 47, 48] (by decide +kernel) (by decide +kernel)) (goodIn_sub (fun _ h => List.mem_cons_of_mem _ (List.mem_append_right _ h)) (by decide +kernel))
set_option maxRecDepth 20000 in
theorem gX3_look_X3_checkInForce : GoodIn wsX3_look (va_wsS RX3 195 yX3_checkInForce wsX3_checkInForce) := goodIn_app (goodIn_of _ (by decide +kernel)) ggX3_look_X3_checkInForce
set_option maxRecDepth 20000 in
theorem ggX3_look_X2_needsLook : GoodIn wsX3_look wsX2_needsLook := goodIn_r _ [25, 21, 26, 27, 40, 41, 42, 43, 44, 45, 46, 47, 48] (by decide +kernel) (by decide +kernel)
set_option maxRecDepth 20000 in
theorem gX3_look_X2_needsLook : GoodIn wsX3_look (wsV RX3 199 RX2 yX2_needsLook wsX2_needsLook) := goodIn_app (goodIn_of _ (by decide +kernel)) ggX3_look_X2_needsLook
set_option maxRecDepth 20000 in
theorem ggX3_look_X2_restartInterval : GoodIn wsX3_look wsX2_restartInterval := goodIn_r _ [31, 26, 27, 40, 41, 42, 43, 44, 45, 46, 47, 48] (by decide +kernel) (by decide +kernel)
set_option maxRecDepth 20000 in
theorem gX3_look_X2_restartInterval : GoodIn wsX3_look (wsV RX3 203 RX2 yX2_restartInterval wsX2_restartInterval) := goodIn_app (goodIn_of _ (by decide +kernel)) ggX3_look_X2_restartInterval
theorem dX3_look_0 : decode cX3_look 0 = .ok (.aload_n 0, 1) := by decide +kernel
theorem dX3_look_1 : decode cX3_look 1 = .ok (.iload_n 1, 1) := by decide +kernel
theorem dX3_look_2 : decode cX3_look 2 = .ok (.invokevirtual 62, 3) := by decide +kernel
theorem dX3_look_5 : decode cX3_look 5 = .ok (.astore_n 2, 1) := by decide +kernel
theorem dX3_look_6 : decode cX3_look 6 = .ok (.aload_n 2, 1) := by decide +kernel
theorem dX3_look_7 : decode cX3_look 7 = .ok (.invokestatic 195, 3) := by decide +kernel
theorem dX3_look_10 : decode cX3_look 10 = .ok (.aload_n 2, 1) := by decide +kernel
theorem dX3_look_11 : decode cX3_look 11 = .ok (.aload_n 0, 1) := by decide +kernel
theorem dX3_look_12 : decode cX3_look 12 = .ok (.getfield 40, 3) := by decide +kernel
theorem dX3_look_15 : decode cX3_look 15 = .ok (.aload_n 0, 1) := by decide +kernel
theorem dX3_look_16 : decode cX3_look 16 = .ok (.getfield 37, 3) := by decide +kernel
theorem dX3_look_19 : decode cX3_look 19 = .ok (.invokevirtual 199, 3) := by decide +kernel
theorem dX3_look_22 : decode cX3_look 22 = .ok (.istore_n 3, 1) := by decide +kernel
theorem dX3_look_23 : decode cX3_look 23 = .ok (.aload_n 2, 1) := by decide +kernel
theorem dX3_look_24 : decode cX3_look 24 = .ok (.aload_n 0, 1) := by decide +kernel
theorem dX3_look_25 : decode cX3_look 25 = .ok (.getfield 40, 3) := by decide +kernel
theorem dX3_look_28 : decode cX3_look 28 = .ok (.invokevirtual 203, 3) := by decide +kernel
theorem dX3_look_31 : decode cX3_look 31 = .ok (.iload_n 3, 1) := by decide +kernel
theorem dX3_look_32 : decode cX3_look 32 = .ok (.ireturn, 1) := by decide +kernel
set_option maxRecDepth 20000 in
theorem ggX3_isDue_X3_paperAt : GoodIn wsX3_isDue wsX3_paperAt := goodIn_ca (goodIn_r _ [7, 8, 9, 10, 19, 20, 21, 22, 23, 24, 25, 26] (by decide +kernel) (by decide +kernel)) (goodIn_sub (fun _ h => List.mem_cons_of_mem _ (List.mem_append_right _ h)) (by decide +kernel))
set_option maxRecDepth 20000 in
theorem gX3_isDue_X3_paperAt : GoodIn wsX3_isDue (wsV RX3 62 RX3 yX3_paperAt wsX3_paperAt) := goodIn_app (goodIn_of _ (by decide +kernel)) ggX3_isDue_X3_paperAt
set_option maxRecDepth 20000 in
theorem ggX3_isDue_X2_needsLook : GoodIn wsX3_isDue wsX2_needsLook := goodIn_r _ [15, 16, 17, 18, 27, 28, 29, 30, 31, 32, 33, 34, 35] (by decide +kernel) (by decide +kernel)
set_option maxRecDepth 20000 in
theorem gX3_isDue_X2_needsLook : GoodIn wsX3_isDue (wsV RX3 199 RX2 yX2_needsLook wsX2_needsLook) := goodIn_app (goodIn_of _ (by decide +kernel)) ggX3_isDue_X2_needsLook
theorem dX3_isDue_0 : decode cX3_isDue 0 = .ok (.aload_n 0, 1) := by decide +kernel
theorem dX3_isDue_1 : decode cX3_isDue 1 = .ok (.iload_n 1, 1) := by decide +kernel
theorem dX3_isDue_2 : decode cX3_isDue 2 = .ok (.invokevirtual 62, 3) := by decide +kernel
theorem dX3_isDue_5 : decode cX3_isDue 5 = .ok (.aload_n 0, 1) := by decide +kernel
theorem dX3_isDue_6 : decode cX3_isDue 6 = .ok (.getfield 40, 3) := by decide +kernel
theorem dX3_isDue_9 : decode cX3_isDue 9 = .ok (.aload_n 0, 1) := by decide +kernel
theorem dX3_isDue_10 : decode cX3_isDue 10 = .ok (.getfield 37, 3) := by decide +kernel
theorem dX3_isDue_13 : decode cX3_isDue 13 = .ok (.invokevirtual 199, 3) := by decide +kernel
theorem dX3_isDue_16 : decode cX3_isDue 16 = .ok (.ireturn, 1) := by decide +kernel
set_option maxRecDepth 20000 in
theorem ggX3_copy_X3_paperAt : GoodIn wsX3_copy wsX3_paperAt := goodIn_ca (goodIn_r _ [9, 10, 11, 12, 36, 37, 38, 39, 40, 41, 42, 43] (by decide +kernel) (by decide +kernel)) (goodIn_sub (fun _ h => List.mem_cons_of_mem _ (List.mem_append_left _ (List.mem_append_right _ h))) (by decide +kernel))
set_option maxRecDepth 20000 in
theorem gX3_copy_X3_paperAt : GoodIn wsX3_copy (wsV RX3 62 RX3 yX3_paperAt wsX3_paperAt) := goodIn_app (goodIn_of _ (by decide +kernel)) ggX3_copy_X3_paperAt
set_option maxRecDepth 20000 in
theorem ggX3_copy_X3_checkRange : GoodIn wsX3_copy wsX3_checkRange := goodIn_ca (goodIn_r _ [15, 16, 17] (by decide +kernel) (by decide +kernel)) (goodIn_sub (fun _ h => List.mem_cons_of_mem _ (List.mem_append_right _ h)) (by decide +kernel))
set_option maxRecDepth 20000 in
theorem gX3_copy_X3_checkRange : GoodIn wsX3_copy (va_wsS RX3 75 yX3_checkRange wsX3_checkRange) := goodIn_app (goodIn_of _ (by decide +kernel)) ggX3_copy_X3_checkRange
set_option maxRecDepth 20000 in
theorem ggX3_copy_X3_checkInForce : GoodIn wsX3_copy wsX3_checkInForce := goodIn_ca (goodIn_r _ [20, 1, 2, 21, 22, 23, 24, 25, 26, 48, 49, 50, 51, 52, 53, 54, 55, 56] (by decide +kernel) (by decide +kernel)) (goodIn_sub (fun _ h => List.mem_cons_of_mem _ (List.mem_append_left _ (List.mem_append_left _ (List.mem_append_right _ h)))) (by decide +kernel))
set_option maxRecDepth 20000 in
theorem gX3_copy_X3_checkInForce : GoodIn wsX3_copy (va_wsS RX3 195 yX3_checkInForce wsX3_checkInForce) := goodIn_app (goodIn_of _ (by decide +kernel)) ggX3_copy_X3_checkInForce
set_option maxRecDepth 20000 in
theorem ggX3_copy_X2_newest : GoodIn wsX3_copy wsX2_newest := goodIn_r _ [25, 26, 48, 49, 50, 51, 52, 53, 54, 55, 56] (by decide +kernel) (by decide +kernel)
set_option maxRecDepth 20000 in
theorem gX3_copy_X2_newest : GoodIn wsX3_copy (wsV RX3 211 RX2 yX2_newest wsX2_newest) := goodIn_app (goodIn_of _ (by decide +kernel)) ggX3_copy_X2_newest
set_option maxRecDepth 20000 in
theorem ggX3_copy_X0_add : GoodIn wsX3_copy wsX0_add := goodIn_r _ [31, 32, 33, 34, 35, 44, 45, 46, 47] (by decide +kernel) (by decide +kernel)
set_option maxRecDepth 20000 in
theorem gX3_copy_X0_add : GoodIn wsX3_copy (wsV RX3 214 RX0 yX0_add wsX0_add) := goodIn_app (goodIn_of _ (by decide +kernel)) ggX3_copy_X0_add
theorem dX3_copy_0 : decode cX3_copy 0 = .ok (.aload_n 0, 1) := by decide +kernel
theorem dX3_copy_1 : decode cX3_copy 1 = .ok (.iload_n 1, 1) := by decide +kernel
theorem dX3_copy_2 : decode cX3_copy 2 = .ok (.invokevirtual 62, 3) := by decide +kernel
theorem dX3_copy_5 : decode cX3_copy 5 = .ok (.astore_n 3, 1) := by decide +kernel
theorem dX3_copy_6 : decode cX3_copy 6 = .ok (.iload_n 2, 1) := by decide +kernel
theorem dX3_copy_7 : decode cX3_copy 7 = .ok (.iconst 0, 1) := by decide +kernel
theorem dX3_copy_8 : decode cX3_copy 8 = .ok (.bipush 9, 2) := by decide +kernel
theorem dX3_copy_10 : decode cX3_copy 10 = .ok (.invokestatic 75, 3) := by decide +kernel
theorem dX3_copy_13 : decode cX3_copy 13 = .ok (.aload_n 3, 1) := by decide +kernel
theorem dX3_copy_14 : decode cX3_copy 14 = .ok (.invokestatic 195, 3) := by decide +kernel
theorem dX3_copy_17 : decode cX3_copy 17 = .ok (.aload_n 0, 1) := by decide +kernel
theorem dX3_copy_18 : decode cX3_copy 18 = .ok (.getfield 29, 3) := by decide +kernel
theorem dX3_copy_21 : decode cX3_copy 21 = .ok (.getfield 206, 3) := by decide +kernel
theorem dX3_copy_24 : decode cX3_copy 24 = .ok (.bipush 30, 2) := by decide +kernel
theorem dX3_copy_26 : decode cX3_copy 26 = .ok (.if_icmp .lt 13, 3) := by decide +kernel
theorem dX3_copy_29 : decode cX3_copy 29 = .ok (.new 54, 3) := by decide +kernel
theorem dX3_copy_32 : decode cX3_copy 32 = .ok (.dup, 1) := by decide +kernel
theorem dX3_copy_33 : decode cX3_copy 33 = .ok (.ldc 209, 2) := by decide +kernel
theorem dX3_copy_35 : decode cX3_copy 35 = .ok (.invokespecial 58, 3) := by decide +kernel
theorem dX3_copy_38 : decode cX3_copy 38 = .ok (.athrow, 1) := by decide +kernel
theorem dX3_copy_39 : decode cX3_copy 39 = .ok (.aload_n 0, 1) := by decide +kernel
theorem dX3_copy_40 : decode cX3_copy 40 = .ok (.getfield 29, 3) := by decide +kernel
theorem dX3_copy_43 : decode cX3_copy 43 = .ok (.iload_n 1, 1) := by decide +kernel
theorem dX3_copy_44 : decode cX3_copy 44 = .ok (.aload_n 3, 1) := by decide +kernel
theorem dX3_copy_45 : decode cX3_copy 45 = .ok (.invokevirtual 211, 3) := by decide +kernel
theorem dX3_copy_48 : decode cX3_copy 48 = .ok (.iload_n 2, 1) := by decide +kernel
theorem dX3_copy_49 : decode cX3_copy 49 = .ok (.invokevirtual 214, 3) := by decide +kernel
theorem dX3_copy_52 : decode cX3_copy 52 = .ok (.ireturn, 1) := by decide +kernel
theorem dX3_takeDown_0 : decode cX3_takeDown 0 = .ok (.iload_n 1, 1) := by decide +kernel
theorem dX3_takeDown_1 : decode cX3_takeDown 1 = .ok (.ifCond .lt 27, 3) := by decide +kernel
theorem dX3_takeDown_4 : decode cX3_takeDown 4 = .ok (.iload_n 1, 1) := by decide +kernel
theorem dX3_takeDown_5 : decode cX3_takeDown 5 = .ok (.aload_n 0, 1) := by decide +kernel
theorem dX3_takeDown_6 : decode cX3_takeDown 6 = .ok (.getfield 29, 3) := by decide +kernel
theorem dX3_takeDown_9 : decode cX3_takeDown 9 = .ok (.getfield 206, 3) := by decide +kernel
theorem dX3_takeDown_12 : decode cX3_takeDown 12 = .ok (.if_icmp .ge 16, 3) := by decide +kernel
theorem dX3_takeDown_15 : decode cX3_takeDown 15 = .ok (.aload_n 0, 1) := by decide +kernel
theorem dX3_takeDown_16 : decode cX3_takeDown 16 = .ok (.getfield 29, 3) := by decide +kernel
theorem dX3_takeDown_19 : decode cX3_takeDown 19 = .ok (.getfield 218, 3) := by decide +kernel
theorem dX3_takeDown_22 : decode cX3_takeDown 22 = .ok (.iload_n 1, 1) := by decide +kernel
theorem dX3_takeDown_23 : decode cX3_takeDown 23 = .ok (.iaload, 1) := by decide +kernel
theorem dX3_takeDown_24 : decode cX3_takeDown 24 = .ok (.iconst (-1), 1) := by decide +kernel
theorem dX3_takeDown_25 : decode cX3_takeDown 25 = .ok (.if_icmp .ne 13, 3) := by decide +kernel
theorem dX3_takeDown_28 : decode cX3_takeDown 28 = .ok (.new 157, 3) := by decide +kernel
theorem dX3_takeDown_31 : decode cX3_takeDown 31 = .ok (.dup, 1) := by decide +kernel
theorem dX3_takeDown_32 : decode cX3_takeDown 32 = .ok (.ldc 221, 2) := by decide +kernel
theorem dX3_takeDown_34 : decode cX3_takeDown 34 = .ok (.invokespecial 161, 3) := by decide +kernel
theorem dX3_takeDown_37 : decode cX3_takeDown 37 = .ok (.athrow, 1) := by decide +kernel
theorem dX3_takeDown_38 : decode cX3_takeDown 38 = .ok (.aload_n 0, 1) := by decide +kernel
theorem dX3_takeDown_39 : decode cX3_takeDown 39 = .ok (.getfield 29, 3) := by decide +kernel
theorem dX3_takeDown_42 : decode cX3_takeDown 42 = .ok (.getfield 218, 3) := by decide +kernel
theorem dX3_takeDown_45 : decode cX3_takeDown 45 = .ok (.iload_n 1, 1) := by decide +kernel
theorem dX3_takeDown_46 : decode cX3_takeDown 46 = .ok (.iaload, 1) := by decide +kernel
theorem dX3_takeDown_47 : decode cX3_takeDown 47 = .ok (.istore_n 2, 1) := by decide +kernel
theorem dX3_takeDown_48 : decode cX3_takeDown 48 = .ok (.aload_n 0, 1) := by decide +kernel
theorem dX3_takeDown_49 : decode cX3_takeDown 49 = .ok (.getfield 29, 3) := by decide +kernel
theorem dX3_takeDown_52 : decode cX3_takeDown 52 = .ok (.getfield 218, 3) := by decide +kernel
theorem dX3_takeDown_55 : decode cX3_takeDown 55 = .ok (.iload_n 1, 1) := by decide +kernel
theorem dX3_takeDown_56 : decode cX3_takeDown 56 = .ok (.iconst (-1), 1) := by decide +kernel
theorem dX3_takeDown_57 : decode cX3_takeDown 57 = .ok (.iastore, 1) := by decide +kernel
theorem dX3_takeDown_58 : decode cX3_takeDown 58 = .ok (.iload_n 2, 1) := by decide +kernel
theorem dX3_takeDown_59 : decode cX3_takeDown 59 = .ok (.ireturn, 1) := by decide +kernel
set_option maxRecDepth 20000 in
theorem ggX3_outOfDate_X3_paperAt : GoodIn wsX3_outOfDate wsX3_paperAt := goodIn_ca (goodIn_r _ [6, 7, 8, 9, 25, 26, 27, 28, 29, 30, 31, 32] (by decide +kernel) (by decide +kernel)) (goodIn_sub (fun _ h => List.mem_cons_of_mem _ (List.mem_append_right _ h)) (by decide +kernel))
set_option maxRecDepth 20000 in
theorem gX3_outOfDate_X3_paperAt : GoodIn wsX3_outOfDate (wsV RX3 62 RX3 yX3_paperAt wsX3_paperAt) := goodIn_app (goodIn_of _ (by decide +kernel)) ggX3_outOfDate_X3_paperAt
set_option maxRecDepth 20000 in
theorem ggX3_outOfDate_X2_newest : GoodIn wsX3_outOfDate wsX2_newest := goodIn_r _ [14, 15, 33, 34, 35, 36, 37, 38, 39, 40, 41] (by decide +kernel) (by decide +kernel)
set_option maxRecDepth 20000 in
theorem gX3_outOfDate_X2_newest : GoodIn wsX3_outOfDate (wsV RX3 211 RX2 yX2_newest wsX2_newest) := goodIn_app (goodIn_of _ (by decide +kernel)) ggX3_outOfDate_X2_newest
set_option maxRecDepth 20000 in
theorem ggX3_outOfDate_X0_countOld : GoodIn wsX3_outOfDate wsX0_countOld := goodIn_r _ [20, 21, 22, 23, 24, 42, 43, 44, 45] (by decide +kernel) (by decide +kernel)
set_option maxRecDepth 20000 in
theorem gX3_outOfDate_X0_countOld : GoodIn wsX3_outOfDate (wsV RX3 223 RX0 yX0_countOld wsX0_countOld) := goodIn_app (goodIn_of _ (by decide +kernel)) ggX3_outOfDate_X0_countOld
theorem dX3_outOfDate_0 : decode cX3_outOfDate 0 = .ok (.aload_n 0, 1) := by decide +kernel
theorem dX3_outOfDate_1 : decode cX3_outOfDate 1 = .ok (.getfield 29, 3) := by decide +kernel
theorem dX3_outOfDate_4 : decode cX3_outOfDate 4 = .ok (.iload_n 1, 1) := by decide +kernel
theorem dX3_outOfDate_5 : decode cX3_outOfDate 5 = .ok (.aload_n 0, 1) := by decide +kernel
theorem dX3_outOfDate_6 : decode cX3_outOfDate 6 = .ok (.iload_n 1, 1) := by decide +kernel
theorem dX3_outOfDate_7 : decode cX3_outOfDate 7 = .ok (.invokevirtual 62, 3) := by decide +kernel
theorem dX3_outOfDate_10 : decode cX3_outOfDate 10 = .ok (.invokevirtual 211, 3) := by decide +kernel
theorem dX3_outOfDate_13 : decode cX3_outOfDate 13 = .ok (.invokevirtual 223, 3) := by decide +kernel
theorem dX3_outOfDate_16 : decode cX3_outOfDate 16 = .ok (.ireturn, 1) := by decide +kernel
theorem dX3_day_0 : decode cX3_day 0 = .ok (.aload_n 0, 1) := by decide +kernel
theorem dX3_day_1 : decode cX3_day 1 = .ok (.getfield 40, 3) := by decide +kernel
theorem dX3_day_4 : decode cX3_day 4 = .ok (.ireturn, 1) := by decide +kernel
set_option maxRecDepth 20000 in
theorem ggX3_step_X3_paperAt : GoodIn wsX3_step wsX3_paperAt := goodIn_ca (goodIn_r _ [7, 8, 9, 10, 45, 46, 47, 48, 49, 50, 51, 52] (by decide +kernel) (by decide +kernel)) (goodIn_sub (fun _ h => List.mem_cons_of_mem _ (List.mem_append_right _ h)) (by decide +kernel))
set_option maxRecDepth 20000 in
theorem gX3_step_X3_paperAt : GoodIn wsX3_step (wsV RX3 62 RX3 yX3_paperAt wsX3_paperAt) := goodIn_app (goodIn_of _ (by decide +kernel)) ggX3_step_X3_paperAt
set_option maxRecDepth 20000 in
theorem ggX3_step_X1_nextStep : GoodIn wsX3_step wsX1_nextStep := goodIn_r _ [15, 16, 17, 18, 19, 20, 14, 21, 22, 23, 24, 25, 26, 27, 28, 29, 30, 31, 32, 33, 34, 35, 53, 54, 55, 56, 57, 58, 59, 60, 61, 62, 63, 64] (by decide +kernel) (by decide +kernel)
set_option maxRecDepth 20000 in
theorem gX3_step_X1_nextStep : GoodIn wsX3_step (wsV RX3 170 RX1 yX1_nextStep wsX1_nextStep) := goodIn_app (goodIn_of _ (by decide +kernel)) ggX3_step_X1_nextStep
theorem dX3_step_0 : decode cX3_step 0 = .ok (.aload_n 0, 1) := by decide +kernel
theorem dX3_step_1 : decode cX3_step 1 = .ok (.iload_n 1, 1) := by decide +kernel
theorem dX3_step_2 : decode cX3_step 2 = .ok (.invokevirtual 62, 3) := by decide +kernel
theorem dX3_step_5 : decode cX3_step 5 = .ok (.astore_n 2, 1) := by decide +kernel
theorem dX3_step_6 : decode cX3_step 6 = .ok (.aload_n 2, 1) := by decide +kernel
theorem dX3_step_7 : decode cX3_step 7 = .ok (.getfield 79, 3) := by decide +kernel
theorem dX3_step_10 : decode cX3_step 10 = .ok (.ifCond .eq 13, 3) := by decide +kernel
theorem dX3_step_13 : decode cX3_step 13 = .ok (.aload_n 2, 1) := by decide +kernel
theorem dX3_step_14 : decode cX3_step 14 = .ok (.getfield 85, 3) := by decide +kernel
theorem dX3_step_17 : decode cX3_step 17 = .ok (.invokevirtual 170, 3) := by decide +kernel
theorem dX3_step_20 : decode cX3_step 20 = .ok (.goto 4, 3) := by decide +kernel
theorem dX3_step_23 : decode cX3_step 23 = .ok (.iconst 0, 1) := by decide +kernel
theorem dX3_step_24 : decode cX3_step 24 = .ok (.ireturn, 1) := by decide +kernel
set_option maxRecDepth 20000 in
theorem ggX3_inForce_X3_paperAt : GoodIn wsX3_inForce wsX3_paperAt := goodIn_ca (goodIn_r _ [5, 6, 7, 8, 15, 16, 17, 18, 19, 20, 21, 22] (by decide +kernel) (by decide +kernel)) (goodIn_sub (fun _ h => List.mem_cons_of_mem _ (List.mem_append_right _ h)) (by decide +kernel))
set_option maxRecDepth 20000 in
theorem gX3_inForce_X3_paperAt : GoodIn wsX3_inForce (wsV RX3 62 RX3 yX3_paperAt wsX3_paperAt) := goodIn_app (goodIn_of _ (by decide +kernel)) ggX3_inForce_X3_paperAt
set_option maxRecDepth 20000 in
theorem ggX3_inForce_X2_newest : GoodIn wsX3_inForce wsX2_newest := goodIn_r _ [13, 14, 23, 24, 25, 26, 27, 28, 29, 30, 31] (by decide +kernel) (by decide +kernel)
set_option maxRecDepth 20000 in
theorem gX3_inForce_X2_newest : GoodIn wsX3_inForce (wsV RX3 211 RX2 yX2_newest wsX2_newest) := goodIn_app (goodIn_of _ (by decide +kernel)) ggX3_inForce_X2_newest
theorem dX3_inForce_0 : decode cX3_inForce 0 = .ok (.aload_n 0, 1) := by decide +kernel
theorem dX3_inForce_1 : decode cX3_inForce 1 = .ok (.iload_n 1, 1) := by decide +kernel
theorem dX3_inForce_2 : decode cX3_inForce 2 = .ok (.invokevirtual 62, 3) := by decide +kernel
theorem dX3_inForce_5 : decode cX3_inForce 5 = .ok (.invokevirtual 211, 3) := by decide +kernel
theorem dX3_inForce_8 : decode cX3_inForce 8 = .ok (.ireturn, 1) := by decide +kernel
set_option maxRecDepth 20000 in
theorem ggX3_text_X3_paperAt : GoodIn wsX3_text wsX3_paperAt := goodIn_ca (goodIn_r _ [6, 7, 8, 9, 25, 26, 27, 28, 29, 30, 31, 32] (by decide +kernel) (by decide +kernel)) (goodIn_sub (fun _ h => List.mem_cons_of_mem _ (List.mem_append_right _ h)) (by decide +kernel))
set_option maxRecDepth 20000 in
theorem gX3_text_X3_paperAt : GoodIn wsX3_text (wsV RX3 62 RX3 yX3_paperAt wsX3_paperAt) := goodIn_app (goodIn_of _ (by decide +kernel)) ggX3_text_X3_paperAt
set_option maxRecDepth 20000 in
theorem ggX3_text_X2_newest : GoodIn wsX3_text wsX2_newest := goodIn_r _ [14, 15, 16, 17, 18, 19, 20, 21, 22, 23, 24] (by decide +kernel) (by decide +kernel)
set_option maxRecDepth 20000 in
theorem gX3_text_X2_newest : GoodIn wsX3_text (wsV RX3 211 RX2 yX2_newest wsX2_newest) := goodIn_app (goodIn_of _ (by decide +kernel)) ggX3_text_X2_newest
theorem dX3_text_0 : decode cX3_text 0 = .ok (.aload_n 0, 1) := by decide +kernel
theorem dX3_text_1 : decode cX3_text 1 = .ok (.iload_n 1, 1) := by decide +kernel
theorem dX3_text_2 : decode cX3_text 2 = .ok (.invokevirtual 62, 3) := by decide +kernel
theorem dX3_text_5 : decode cX3_text 5 = .ok (.astore_n 2, 1) := by decide +kernel
theorem dX3_text_6 : decode cX3_text 6 = .ok (.aload_n 2, 1) := by decide +kernel
theorem dX3_text_7 : decode cX3_text 7 = .ok (.invokevirtual 211, 3) := by decide +kernel
theorem dX3_text_10 : decode cX3_text 10 = .ok (.istore_n 3, 1) := by decide +kernel
theorem dX3_text_11 : decode cX3_text 11 = .ok (.iload_n 3, 1) := by decide +kernel
theorem dX3_text_12 : decode cX3_text 12 = .ok (.ifCond .ge 7, 3) := by decide +kernel
theorem dX3_text_15 : decode cX3_text 15 = .ok (.iconst (-1), 1) := by decide +kernel
theorem dX3_text_16 : decode cX3_text 16 = .ok (.goto 9, 3) := by decide +kernel
theorem dX3_text_19 : decode cX3_text 19 = .ok (.aload_n 2, 1) := by decide +kernel
theorem dX3_text_20 : decode cX3_text 20 = .ok (.getfield 227, 3) := by decide +kernel
theorem dX3_text_23 : decode cX3_text 23 = .ok (.iload_n 3, 1) := by decide +kernel
theorem dX3_text_24 : decode cX3_text 24 = .ok (.iaload, 1) := by decide +kernel
theorem dX3_text_25 : decode cX3_text 25 = .ok (.ireturn, 1) := by decide +kernel
set_option maxRecDepth 20000 in
theorem ggX3_inForceOn_X3_paperAt : GoodIn wsX3_inForceOn wsX3_paperAt := goodIn_ca (goodIn_r _ [6, 7, 8, 9, 22, 23, 24, 25, 26, 27, 28, 29] (by decide +kernel) (by decide +kernel)) (goodIn_sub (fun _ h => List.mem_cons_of_mem _ (List.mem_append_left _ (List.mem_append_right _ h))) (by decide +kernel))
set_option maxRecDepth 20000 in
theorem gX3_inForceOn_X3_paperAt : GoodIn wsX3_inForceOn (wsV RX3 62 RX3 yX3_paperAt wsX3_paperAt) := goodIn_app (goodIn_of _ (by decide +kernel)) ggX3_inForceOn_X3_paperAt
set_option maxRecDepth 20000 in
theorem ggX3_inForceOn_X3_checkRange : GoodIn wsX3_inForceOn wsX3_checkRange := goodIn_ca (goodIn_r _ [12, 13, 14] (by decide +kernel) (by decide +kernel)) (goodIn_sub (fun _ h => List.mem_cons_of_mem _ (List.mem_append_right _ h)) (by decide +kernel))
set_option maxRecDepth 20000 in
theorem gX3_inForceOn_X3_checkRange : GoodIn wsX3_inForceOn (va_wsS RX3 75 yX3_checkRange wsX3_checkRange) := goodIn_app (goodIn_of _ (by decide +kernel)) ggX3_inForceOn_X3_checkRange
set_option maxRecDepth 20000 in
theorem ggX3_inForceOn_X2_versionOn : GoodIn wsX3_inForceOn wsX2_versionOn := goodIn_r _ [19, 20, 21, 30, 31, 32, 33, 34, 35, 36, 37, 38] (by decide +kernel) (by decide +kernel)
set_option maxRecDepth 20000 in
theorem gX3_inForceOn_X2_versionOn : GoodIn wsX3_inForceOn (wsV RX3 230 RX2 yX2_versionOn wsX2_versionOn) := goodIn_app (goodIn_of _ (by decide +kernel)) ggX3_inForceOn_X2_versionOn
theorem dX3_inForceOn_0 : decode cX3_inForceOn 0 = .ok (.aload_n 0, 1) := by decide +kernel
theorem dX3_inForceOn_1 : decode cX3_inForceOn 1 = .ok (.iload_n 1, 1) := by decide +kernel
theorem dX3_inForceOn_2 : decode cX3_inForceOn 2 = .ok (.invokevirtual 62, 3) := by decide +kernel
theorem dX3_inForceOn_5 : decode cX3_inForceOn 5 = .ok (.astore_n 3, 1) := by decide +kernel
theorem dX3_inForceOn_6 : decode cX3_inForceOn 6 = .ok (.iload_n 2, 1) := by decide +kernel
theorem dX3_inForceOn_7 : decode cX3_inForceOn 7 = .ok (.iconst 0, 1) := by decide +kernel
theorem dX3_inForceOn_8 : decode cX3_inForceOn 8 = .ok (.aload_n 0, 1) := by decide +kernel
theorem dX3_inForceOn_9 : decode cX3_inForceOn 9 = .ok (.getfield 40, 3) := by decide +kernel
theorem dX3_inForceOn_12 : decode cX3_inForceOn 12 = .ok (.invokestatic 75, 3) := by decide +kernel
theorem dX3_inForceOn_15 : decode cX3_inForceOn 15 = .ok (.aload_n 3, 1) := by decide +kernel
theorem dX3_inForceOn_16 : decode cX3_inForceOn 16 = .ok (.iload_n 2, 1) := by decide +kernel
theorem dX3_inForceOn_17 : decode cX3_inForceOn 17 = .ok (.invokevirtual 230, 3) := by decide +kernel
theorem dX3_inForceOn_20 : decode cX3_inForceOn 20 = .ok (.ireturn, 1) := by decide +kernel
set_option maxRecDepth 20000 in
theorem ggX3_since_X3_paperAt : GoodIn wsX3_since wsX3_paperAt := goodIn_ca (goodIn_r _ [9, 1, 2, 10, 20, 21, 22, 23, 24, 25, 26, 27] (by decide +kernel) (by decide +kernel)) (goodIn_sub (fun _ h => List.mem_cons_of_mem _ (List.mem_append_right _ h)) (by decide +kernel))
set_option maxRecDepth 20000 in
theorem gX3_since_X3_paperAt : GoodIn wsX3_since (wsV RX3 62 RX3 yX3_paperAt wsX3_paperAt) := goodIn_app (goodIn_of _ (by decide +kernel)) ggX3_since_X3_paperAt
theorem dX3_since_0 : decode cX3_since 0 = .ok (.aload_n 0, 1) := by decide +kernel
theorem dX3_since_1 : decode cX3_since 1 = .ok (.iload_n 1, 1) := by decide +kernel
theorem dX3_since_2 : decode cX3_since 2 = .ok (.invokevirtual 62, 3) := by decide +kernel
theorem dX3_since_5 : decode cX3_since 5 = .ok (.astore_n 3, 1) := by decide +kernel
theorem dX3_since_6 : decode cX3_since 6 = .ok (.iload_n 2, 1) := by decide +kernel
theorem dX3_since_7 : decode cX3_since 7 = .ok (.ifCond .lt 11, 3) := by decide +kernel
theorem dX3_since_10 : decode cX3_since 10 = .ok (.iload_n 2, 1) := by decide +kernel
theorem dX3_since_11 : decode cX3_since 11 = .ok (.aload_n 3, 1) := by decide +kernel
theorem dX3_since_12 : decode cX3_since 12 = .ok (.getfield 234, 3) := by decide +kernel
theorem dX3_since_15 : decode cX3_since 15 = .ok (.if_icmp .lt 13, 3) := by decide +kernel
theorem dX3_since_18 : decode cX3_since 18 = .ok (.new 157, 3) := by decide +kernel
theorem dX3_since_21 : decode cX3_since 21 = .ok (.dup, 1) := by decide +kernel
theorem dX3_since_22 : decode cX3_since 22 = .ok (.ldc 237, 2) := by decide +kernel
theorem dX3_since_24 : decode cX3_since 24 = .ok (.invokespecial 161, 3) := by decide +kernel
theorem dX3_since_27 : decode cX3_since 27 = .ok (.athrow, 1) := by decide +kernel
theorem dX3_since_28 : decode cX3_since 28 = .ok (.aload_n 3, 1) := by decide +kernel
theorem dX3_since_29 : decode cX3_since 29 = .ok (.getfield 239, 3) := by decide +kernel
theorem dX3_since_32 : decode cX3_since 32 = .ok (.iload_n 2, 1) := by decide +kernel
theorem dX3_since_33 : decode cX3_since 33 = .ok (.iaload, 1) := by decide +kernel
theorem dX3_since_34 : decode cX3_since 34 = .ok (.ireturn, 1) := by decide +kernel
set_option maxRecDepth 20000 in
theorem ggX3_waitsFor_X3_paperAt : GoodIn wsX3_waitsFor wsX3_paperAt := goodIn_ca (goodIn_r _ [7, 8, 9, 10, 50, 51, 52, 53, 54, 55, 56, 57] (by decide +kernel) (by decide +kernel)) (goodIn_sub (fun _ h => List.mem_cons_of_mem _ (List.mem_append_right _ h)) (by decide +kernel))
set_option maxRecDepth 20000 in
theorem gX3_waitsFor_X3_paperAt : GoodIn wsX3_waitsFor (wsV RX3 62 RX3 yX3_paperAt wsX3_paperAt) := goodIn_app (goodIn_of _ (by decide +kernel)) ggX3_waitsFor_X3_paperAt
set_option maxRecDepth 20000 in
theorem ggX3_waitsFor_X1_nextPerson : GoodIn wsX3_waitsFor wsX1_nextPerson := goodIn_r _ [15, 16, 17, 18, 19, 14, 20, 21, 22, 23, 24, 25, 26, 27, 28, 29, 30, 31, 32, 33, 34, 35, 36, 37, 38, 39, 40, 58, 59, 60, 61, 62, 63, 64, 65, 66, 67, 68, 69] (by decide +kernel) (by decide +kernel)
set_option maxRecDepth 20000 in
theorem gX3_waitsFor_X1_nextPerson : GoodIn wsX3_waitsFor (wsV RX3 242 RX1 yX1_nextPerson wsX1_nextPerson) := goodIn_app (goodIn_of _ (by decide +kernel)) ggX3_waitsFor_X1_nextPerson
theorem dX3_waitsFor_0 : decode cX3_waitsFor 0 = .ok (.aload_n 0, 1) := by decide +kernel
theorem dX3_waitsFor_1 : decode cX3_waitsFor 1 = .ok (.iload_n 1, 1) := by decide +kernel
theorem dX3_waitsFor_2 : decode cX3_waitsFor 2 = .ok (.invokevirtual 62, 3) := by decide +kernel
theorem dX3_waitsFor_5 : decode cX3_waitsFor 5 = .ok (.astore_n 2, 1) := by decide +kernel
theorem dX3_waitsFor_6 : decode cX3_waitsFor 6 = .ok (.aload_n 2, 1) := by decide +kernel
theorem dX3_waitsFor_7 : decode cX3_waitsFor 7 = .ok (.getfield 79, 3) := by decide +kernel
theorem dX3_waitsFor_10 : decode cX3_waitsFor 10 = .ok (.ifCond .eq 13, 3) := by decide +kernel
theorem dX3_waitsFor_13 : decode cX3_waitsFor 13 = .ok (.aload_n 2, 1) := by decide +kernel
theorem dX3_waitsFor_14 : decode cX3_waitsFor 14 = .ok (.getfield 85, 3) := by decide +kernel
theorem dX3_waitsFor_17 : decode cX3_waitsFor 17 = .ok (.invokevirtual 242, 3) := by decide +kernel
theorem dX3_waitsFor_20 : decode cX3_waitsFor 20 = .ok (.goto 4, 3) := by decide +kernel
theorem dX3_waitsFor_23 : decode cX3_waitsFor 23 = .ok (.iconst (-1), 1) := by decide +kernel
theorem dX3_waitsFor_24 : decode cX3_waitsFor 24 = .ok (.ireturn, 1) := by decide +kernel
set_option maxRecDepth 20000 in
theorem ggX3_checkPerson_X3_checkRange : GoodIn wsX3_checkPerson wsX3_checkRange := goodIn_ca (goodIn_r _ [4, 5, 6] (by decide +kernel) (by decide +kernel)) (goodIn_sub (fun _ h => List.mem_cons_of_mem _ (List.mem_append_right _ h)) (by decide +kernel))
set_option maxRecDepth 20000 in
theorem gX3_checkPerson_X3_checkRange : GoodIn wsX3_checkPerson (va_wsS RX3 75 yX3_checkRange wsX3_checkRange) := goodIn_app (goodIn_of _ (by decide +kernel)) ggX3_checkPerson_X3_checkRange
theorem dX3_checkPerson_0 : decode cX3_checkPerson 0 = .ok (.iload_n 0, 1) := by decide +kernel
theorem dX3_checkPerson_1 : decode cX3_checkPerson 1 = .ok (.iconst 0, 1) := by decide +kernel
theorem dX3_checkPerson_2 : decode cX3_checkPerson 2 = .ok (.iconst 5, 1) := by decide +kernel
theorem dX3_checkPerson_3 : decode cX3_checkPerson 3 = .ok (.invokestatic 75, 3) := by decide +kernel
theorem dX3_checkPerson_6 : decode cX3_checkPerson 6 = .ok (.return_, 1) := by decide +kernel
theorem dX3_checkRange_0 : decode cX3_checkRange 0 = .ok (.iload_n 0, 1) := by decide +kernel
theorem dX3_checkRange_1 : decode cX3_checkRange 1 = .ok (.iload_n 1, 1) := by decide +kernel
theorem dX3_checkRange_2 : decode cX3_checkRange 2 = .ok (.if_icmp .lt 8, 3) := by decide +kernel
theorem dX3_checkRange_5 : decode cX3_checkRange 5 = .ok (.iload_n 0, 1) := by decide +kernel
theorem dX3_checkRange_6 : decode cX3_checkRange 6 = .ok (.iload_n 2, 1) := by decide +kernel
theorem dX3_checkRange_7 : decode cX3_checkRange 7 = .ok (.if_icmp .le 13, 3) := by decide +kernel
theorem dX3_checkRange_10 : decode cX3_checkRange 10 = .ok (.new 47, 3) := by decide +kernel
theorem dX3_checkRange_13 : decode cX3_checkRange 13 = .ok (.dup, 1) := by decide +kernel
theorem dX3_checkRange_14 : decode cX3_checkRange 14 = .ok (.ldc 245, 2) := by decide +kernel
theorem dX3_checkRange_16 : decode cX3_checkRange 16 = .ok (.invokespecial 51, 3) := by decide +kernel
theorem dX3_checkRange_19 : decode cX3_checkRange 19 = .ok (.athrow, 1) := by decide +kernel
theorem dX3_checkRange_20 : decode cX3_checkRange 20 = .ok (.return_, 1) := by decide +kernel
set_option maxRecDepth 20000 in
theorem ggX3_checkInForce_X2_newest : GoodIn wsX3_checkInForce wsX2_newest := goodIn_r _ [7, 8, 9, 10, 11, 12, 13, 14, 15, 16, 17] (by decide +kernel) (by decide +kernel)
set_option maxRecDepth 20000 in
theorem gX3_checkInForce_X2_newest : GoodIn wsX3_checkInForce (wsV RX3 211 RX2 yX2_newest wsX2_newest) := goodIn_app (goodIn_of _ (by decide +kernel)) ggX3_checkInForce_X2_newest
theorem dX3_checkInForce_0 : decode cX3_checkInForce 0 = .ok (.aload_n 0, 1) := by decide +kernel
theorem dX3_checkInForce_1 : decode cX3_checkInForce 1 = .ok (.invokevirtual 211, 3) := by decide +kernel
theorem dX3_checkInForce_4 : decode cX3_checkInForce 4 = .ok (.iconst (-1), 1) := by decide +kernel
theorem dX3_checkInForce_5 : decode cX3_checkInForce 5 = .ok (.if_icmp .ne 13, 3) := by decide +kernel
theorem dX3_checkInForce_8 : decode cX3_checkInForce 8 = .ok (.new 54, 3) := by decide +kernel
theorem dX3_checkInForce_11 : decode cX3_checkInForce 11 = .ok (.dup, 1) := by decide +kernel
theorem dX3_checkInForce_12 : decode cX3_checkInForce 12 = .ok (.ldc 247, 2) := by decide +kernel
theorem dX3_checkInForce_14 : decode cX3_checkInForce 14 = .ok (.invokespecial 58, 3) := by decide +kernel
theorem dX3_checkInForce_17 : decode cX3_checkInForce 17 = .ok (.athrow, 1) := by decide +kernel
theorem dX3_checkInForce_18 : decode cX3_checkInForce 18 = .ok (.return_, 1) := by decide +kernel
theorem dX3_countOf_0 : decode cX3_countOf 0 = .ok (.iconst 0, 1) := by decide +kernel
theorem dX3_countOf_1 : decode cX3_countOf 1 = .ok (.istore_n 1, 1) := by decide +kernel
theorem dX3_countOf_2 : decode cX3_countOf 2 = .ok (.iconst 0, 1) := by decide +kernel
theorem dX3_countOf_3 : decode cX3_countOf 3 = .ok (.istore_n 2, 1) := by decide +kernel
theorem dX3_countOf_4 : decode cX3_countOf 4 = .ok (.iload_n 2, 1) := by decide +kernel
theorem dX3_countOf_5 : decode cX3_countOf 5 = .ok (.aload_n 0, 1) := by decide +kernel
theorem dX3_countOf_6 : decode cX3_countOf 6 = .ok (.arraylength, 1) := by decide +kernel
theorem dX3_countOf_7 : decode cX3_countOf 7 = .ok (.if_icmp .ge 18, 3) := by decide +kernel
theorem dX3_countOf_10 : decode cX3_countOf 10 = .ok (.aload_n 0, 1) := by decide +kernel
theorem dX3_countOf_11 : decode cX3_countOf 11 = .ok (.iload_n 2, 1) := by decide +kernel
theorem dX3_countOf_12 : decode cX3_countOf 12 = .ok (.baload, 1) := by decide +kernel
theorem dX3_countOf_13 : decode cX3_countOf 13 = .ok (.ifCond .eq 6, 3) := by decide +kernel
theorem dX3_countOf_16 : decode cX3_countOf 16 = .ok (.iinc 1 1, 3) := by decide +kernel
theorem dX3_countOf_19 : decode cX3_countOf 19 = .ok (.iinc 2 1, 3) := by decide +kernel
theorem dX3_countOf_22 : decode cX3_countOf 22 = .ok (.goto (-18), 3) := by decide +kernel
theorem dX3_countOf_25 : decode cX3_countOf 25 = .ok (.iload_n 1, 1) := by decide +kernel
theorem dX3_countOf_26 : decode cX3_countOf 26 = .ok (.ireturn, 1) := by decide +kernel
theorem dX3_paperAt_0 : decode cX3_paperAt 0 = .ok (.iload_n 1, 1) := by decide +kernel
theorem dX3_paperAt_1 : decode cX3_paperAt 1 = .ok (.ifCond .lt 18, 3) := by decide +kernel
theorem dX3_paperAt_4 : decode cX3_paperAt 4 = .ok (.iload_n 1, 1) := by decide +kernel
theorem dX3_paperAt_5 : decode cX3_paperAt 5 = .ok (.bipush 8, 2) := by decide +kernel
theorem dX3_paperAt_7 : decode cX3_paperAt 7 = .ok (.if_icmp .ge 12, 3) := by decide +kernel
theorem dX3_paperAt_10 : decode cX3_paperAt 10 = .ok (.aload_n 0, 1) := by decide +kernel
theorem dX3_paperAt_11 : decode cX3_paperAt 11 = .ok (.getfield 22, 3) := by decide +kernel
theorem dX3_paperAt_14 : decode cX3_paperAt 14 = .ok (.iload_n 1, 1) := by decide +kernel
theorem dX3_paperAt_15 : decode cX3_paperAt 15 = .ok (.aaload, 1) := by decide +kernel
theorem dX3_paperAt_16 : decode cX3_paperAt 16 = .ok (.goto 4, 3) := by decide +kernel
theorem dX3_paperAt_19 : decode cX3_paperAt 19 = .ok (.aconst_null, 1) := by decide +kernel
theorem dX3_paperAt_20 : decode cX3_paperAt 20 = .ok (.astore_n 2, 1) := by decide +kernel
theorem dX3_paperAt_21 : decode cX3_paperAt 21 = .ok (.aload_n 2, 1) := by decide +kernel
theorem dX3_paperAt_22 : decode cX3_paperAt 22 = .ok (.ifnonnull 13, 3) := by decide +kernel
theorem dX3_paperAt_25 : decode cX3_paperAt 25 = .ok (.new 157, 3) := by decide +kernel
theorem dX3_paperAt_28 : decode cX3_paperAt 28 = .ok (.dup, 1) := by decide +kernel
theorem dX3_paperAt_29 : decode cX3_paperAt 29 = .ok (.ldc 249, 2) := by decide +kernel
theorem dX3_paperAt_31 : decode cX3_paperAt 31 = .ok (.invokespecial 161, 3) := by decide +kernel
theorem dX3_paperAt_34 : decode cX3_paperAt 34 = .ok (.athrow, 1) := by decide +kernel
theorem dX3_paperAt_35 : decode cX3_paperAt 35 = .ok (.aload_n 2, 1) := by decide +kernel
theorem dX3_paperAt_36 : decode cX3_paperAt 36 = .ok (.areturn, 1) := by decide +kernel
theorem dX3_draftOf_0 : decode cX3_draftOf 0 = .ok (.aload_n 0, 1) := by decide +kernel
theorem dX3_draftOf_1 : decode cX3_draftOf 1 = .ok (.getfield 79, 3) := by decide +kernel
theorem dX3_draftOf_4 : decode cX3_draftOf 4 = .ok (.ifCond .ne 13, 3) := by decide +kernel
theorem dX3_draftOf_7 : decode cX3_draftOf 7 = .ok (.new 54, 3) := by decide +kernel
theorem dX3_draftOf_10 : decode cX3_draftOf 10 = .ok (.dup, 1) := by decide +kernel
theorem dX3_draftOf_11 : decode cX3_draftOf 11 = .ok (.ldc 251, 2) := by decide +kernel
theorem dX3_draftOf_13 : decode cX3_draftOf 13 = .ok (.invokespecial 58, 3) := by decide +kernel
theorem dX3_draftOf_16 : decode cX3_draftOf 16 = .ok (.athrow, 1) := by decide +kernel
theorem dX3_draftOf_17 : decode cX3_draftOf 17 = .ok (.aload_n 0, 1) := by decide +kernel
theorem dX3_draftOf_18 : decode cX3_draftOf 18 = .ok (.getfield 85, 3) := by decide +kernel
theorem dX3_draftOf_21 : decode cX3_draftOf 21 = .ok (.areturn, 1) := by decide +kernel
theorem dX3_canApprove_0 : decode cX3_canApprove 0 = .ok (.aload_n 0, 1) := by decide +kernel
theorem dX3_canApprove_1 : decode cX3_canApprove 1 = .ok (.getfield 13, 3) := by decide +kernel
theorem dX3_canApprove_4 : decode cX3_canApprove 4 = .ok (.iload_n 1, 1) := by decide +kernel
theorem dX3_canApprove_5 : decode cX3_canApprove 5 = .ok (.baload, 1) := by decide +kernel
theorem dX3_canApprove_6 : decode cX3_canApprove 6 = .ok (.istore_n 2, 1) := by decide +kernel
theorem dX3_canApprove_7 : decode cX3_canApprove 7 = .ok (.iconst 0, 1) := by decide +kernel
theorem dX3_canApprove_8 : decode cX3_canApprove 8 = .ok (.istore_n 3, 1) := by decide +kernel
theorem dX3_canApprove_9 : decode cX3_canApprove 9 = .ok (.iload_n 3, 1) := by decide +kernel
theorem dX3_canApprove_10 : decode cX3_canApprove 10 = .ok (.bipush 6, 2) := by decide +kernel
theorem dX3_canApprove_12 : decode cX3_canApprove 12 = .ok (.if_icmp .ge 38, 3) := by decide +kernel
theorem dX3_canApprove_15 : decode cX3_canApprove 15 = .ok (.iload_n 2, 1) := by decide +kernel
theorem dX3_canApprove_16 : decode cX3_canApprove 16 = .ok (.ifCond .ne 22, 3) := by decide +kernel
theorem dX3_canApprove_19 : decode cX3_canApprove 19 = .ok (.aload_n 0, 1) := by decide +kernel
theorem dX3_canApprove_20 : decode cX3_canApprove 20 = .ok (.getfield 13, 3) := by decide +kernel
theorem dX3_canApprove_23 : decode cX3_canApprove 23 = .ok (.iload_n 3, 1) := by decide +kernel
theorem dX3_canApprove_24 : decode cX3_canApprove 24 = .ok (.baload, 1) := by decide +kernel
theorem dX3_canApprove_25 : decode cX3_canApprove 25 = .ok (.ifCond .eq 17, 3) := by decide +kernel
theorem dX3_canApprove_28 : decode cX3_canApprove 28 = .ok (.aload_n 0, 1) := by decide +kernel
theorem dX3_canApprove_29 : decode cX3_canApprove 29 = .ok (.getfield 16, 3) := by decide +kernel
theorem dX3_canApprove_32 : decode cX3_canApprove 32 = .ok (.iload_n 3, 1) := by decide +kernel
theorem dX3_canApprove_33 : decode cX3_canApprove 33 = .ok (.iaload, 1) := by decide +kernel
theorem dX3_canApprove_34 : decode cX3_canApprove 34 = .ok (.iload_n 1, 1) := by decide +kernel
theorem dX3_canApprove_35 : decode cX3_canApprove 35 = .ok (.if_icmp .ne 7, 3) := by decide +kernel
theorem dX3_canApprove_38 : decode cX3_canApprove 38 = .ok (.iconst 1, 1) := by decide +kernel
theorem dX3_canApprove_39 : decode cX3_canApprove 39 = .ok (.goto 4, 3) := by decide +kernel
theorem dX3_canApprove_42 : decode cX3_canApprove 42 = .ok (.iconst 0, 1) := by decide +kernel
theorem dX3_canApprove_43 : decode cX3_canApprove 43 = .ok (.istore_n 2, 1) := by decide +kernel
theorem dX3_canApprove_44 : decode cX3_canApprove 44 = .ok (.iinc 3 1, 3) := by decide +kernel
theorem dX3_canApprove_47 : decode cX3_canApprove 47 = .ok (.goto (-38), 3) := by decide +kernel
theorem dX3_canApprove_50 : decode cX3_canApprove 50 = .ok (.iload_n 2, 1) := by decide +kernel
theorem dX3_canApprove_51 : decode cX3_canApprove 51 = .ok (.ireturn, 1) := by decide +kernel
set_option maxRecDepth 20000 in
theorem ggX3_beginDay_X2_comeIntoForce : GoodIn wsX3_beginDay wsX2_comeIntoForce := goodIn_r _ [7, 8, 9, 10, 11, 12, 13, 14, 15, 16, 17, 18, 19, 20, 21, 22, 23, 24, 25, 26, 27, 28, 29, 30, 31, 32, 33, 34, 35, 36, 37, 38, 39, 40, 41, 42, 43, 44, 45, 46, 6, 47, 48, 49, 69, 70, 71, 72, 73, 74, 75, 76, 77, 78, 79, 80, 81, 82, 83, 84, 85, 86, 87, 88, 89] (by decide +kernel) (by decide +kernel)
set_option maxRecDepth 20000 in
theorem gX3_beginDay_X2_comeIntoForce : GoodIn wsX3_beginDay (wsV RX3 253 RX2 yX2_comeIntoForce wsX2_comeIntoForce) := goodIn_app (goodIn_of _ (by decide +kernel)) ggX3_beginDay_X2_comeIntoForce
set_option maxRecDepth 20000 in
theorem ggX3_beginDay_X3_askForLooks : GoodIn wsX3_beginDay wsX3_askForLooks := goodIn_r _ [54, 1, 55, 56, 57, 58, 59, 6, 60, 10, 61, 62, 63, 64, 65, 66, 67, 68, 69, 70, 71, 72, 73, 74, 75, 76, 77] (by decide +kernel) (by decide +kernel)
set_option maxRecDepth 20000 in
theorem gX3_beginDay_X3_askForLooks : GoodIn wsX3_beginDay (wsV RX3 256 RX3 yX3_askForLooks wsX3_askForLooks) := goodIn_app (goodIn_of _ (by decide +kernel)) ggX3_beginDay_X3_askForLooks
theorem dX3_beginDay_0 : decode cX3_beginDay 0 = .ok (.iconst 0, 1) := by decide +kernel
theorem dX3_beginDay_1 : decode cX3_beginDay 1 = .ok (.istore_n 1, 1) := by decide +kernel
theorem dX3_beginDay_2 : decode cX3_beginDay 2 = .ok (.iconst 0, 1) := by decide +kernel
theorem dX3_beginDay_3 : decode cX3_beginDay 3 = .ok (.istore_n 2, 1) := by decide +kernel
theorem dX3_beginDay_4 : decode cX3_beginDay 4 = .ok (.iload_n 2, 1) := by decide +kernel
theorem dX3_beginDay_5 : decode cX3_beginDay 5 = .ok (.bipush 8, 2) := by decide +kernel
theorem dX3_beginDay_7 : decode cX3_beginDay 7 = .ok (.if_icmp .ge 39, 3) := by decide +kernel
theorem dX3_beginDay_10 : decode cX3_beginDay 10 = .ok (.aload_n 0, 1) := by decide +kernel
theorem dX3_beginDay_11 : decode cX3_beginDay 11 = .ok (.getfield 22, 3) := by decide +kernel
theorem dX3_beginDay_14 : decode cX3_beginDay 14 = .ok (.iload_n 2, 1) := by decide +kernel
theorem dX3_beginDay_15 : decode cX3_beginDay 15 = .ok (.aaload, 1) := by decide +kernel
theorem dX3_beginDay_16 : decode cX3_beginDay 16 = .ok (.astore_n 3, 1) := by decide +kernel
theorem dX3_beginDay_17 : decode cX3_beginDay 17 = .ok (.aload_n 3, 1) := by decide +kernel
theorem dX3_beginDay_18 : decode cX3_beginDay 18 = .ok (.ifnull 22, 3) := by decide +kernel
theorem dX3_beginDay_21 : decode cX3_beginDay 21 = .ok (.aload_n 3, 1) := by decide +kernel
theorem dX3_beginDay_22 : decode cX3_beginDay 22 = .ok (.aload_n 0, 1) := by decide +kernel
theorem dX3_beginDay_23 : decode cX3_beginDay 23 = .ok (.getfield 40, 3) := by decide +kernel
theorem dX3_beginDay_26 : decode cX3_beginDay 26 = .ok (.invokevirtual 253, 3) := by decide +kernel
theorem dX3_beginDay_29 : decode cX3_beginDay 29 = .ok (.ifCond .eq 11, 3) := by decide +kernel
theorem dX3_beginDay_32 : decode cX3_beginDay 32 = .ok (.iinc 1 1, 3) := by decide +kernel
theorem dX3_beginDay_35 : decode cX3_beginDay 35 = .ok (.aload_n 0, 1) := by decide +kernel
theorem dX3_beginDay_36 : decode cX3_beginDay 36 = .ok (.iload_n 2, 1) := by decide +kernel
theorem dX3_beginDay_37 : decode cX3_beginDay 37 = .ok (.invokevirtual 256, 3) := by decide +kernel
theorem dX3_beginDay_40 : decode cX3_beginDay 40 = .ok (.iinc 2 1, 3) := by decide +kernel
theorem dX3_beginDay_43 : decode cX3_beginDay 43 = .ok (.goto (-39), 3) := by decide +kernel
theorem dX3_beginDay_46 : decode cX3_beginDay 46 = .ok (.iload_n 1, 1) := by decide +kernel
theorem dX3_beginDay_47 : decode cX3_beginDay 47 = .ok (.ireturn, 1) := by decide +kernel
set_option maxRecDepth 20000 in
theorem ggX3_askForLooks_X2_newest : GoodIn wsX3_askForLooks wsX2_newest := goodIn_r _ [8, 9, 18, 19, 20, 21, 22, 23, 24, 25, 26] (by decide +kernel) (by decide +kernel)
set_option maxRecDepth 20000 in
theorem gX3_askForLooks_X2_newest : GoodIn wsX3_askForLooks (wsV RX3 211 RX2 yX2_newest wsX2_newest) := goodIn_app (goodIn_of _ (by decide +kernel)) ggX3_askForLooks_X2_newest
theorem dX3_askForLooks_0 : decode cX3_askForLooks 0 = .ok (.iconst 0, 1) := by decide +kernel
theorem dX3_askForLooks_1 : decode cX3_askForLooks 1 = .ok (.istore_n 2, 1) := by decide +kernel
theorem dX3_askForLooks_2 : decode cX3_askForLooks 2 = .ok (.iload_n 2, 1) := by decide +kernel
theorem dX3_askForLooks_3 : decode cX3_askForLooks 3 = .ok (.bipush 8, 2) := by decide +kernel
theorem dX3_askForLooks_5 : decode cX3_askForLooks 5 = .ok (.if_icmp .ge 42, 3) := by decide +kernel
theorem dX3_askForLooks_8 : decode cX3_askForLooks 8 = .ok (.aload_n 0, 1) := by decide +kernel
theorem dX3_askForLooks_9 : decode cX3_askForLooks 9 = .ok (.getfield 22, 3) := by decide +kernel
theorem dX3_askForLooks_12 : decode cX3_askForLooks 12 = .ok (.iload_n 2, 1) := by decide +kernel
theorem dX3_askForLooks_13 : decode cX3_askForLooks 13 = .ok (.aaload, 1) := by decide +kernel
theorem dX3_askForLooks_14 : decode cX3_askForLooks 14 = .ok (.astore_n 3, 1) := by decide +kernel
theorem dX3_askForLooks_15 : decode cX3_askForLooks 15 = .ok (.aload_n 3, 1) := by decide +kernel
theorem dX3_askForLooks_16 : decode cX3_askForLooks 16 = .ok (.ifnull 25, 3) := by decide +kernel
theorem dX3_askForLooks_19 : decode cX3_askForLooks 19 = .ok (.aload_n 3, 1) := by decide +kernel
theorem dX3_askForLooks_20 : decode cX3_askForLooks 20 = .ok (.getfield 68, 3) := by decide +kernel
theorem dX3_askForLooks_23 : decode cX3_askForLooks 23 = .ok (.iload_n 1, 1) := by decide +kernel
theorem dX3_askForLooks_24 : decode cX3_askForLooks 24 = .ok (.baload, 1) := by decide +kernel
theorem dX3_askForLooks_25 : decode cX3_askForLooks 25 = .ok (.ifCond .eq 16, 3) := by decide +kernel
theorem dX3_askForLooks_28 : decode cX3_askForLooks 28 = .ok (.aload_n 3, 1) := by decide +kernel
theorem dX3_askForLooks_29 : decode cX3_askForLooks 29 = .ok (.invokevirtual 211, 3) := by decide +kernel
theorem dX3_askForLooks_32 : decode cX3_askForLooks 32 = .ok (.iconst (-1), 1) := by decide +kernel
theorem dX3_askForLooks_33 : decode cX3_askForLooks 33 = .ok (.if_icmp .eq 8, 3) := by decide +kernel
theorem dX3_askForLooks_36 : decode cX3_askForLooks 36 = .ok (.aload_n 3, 1) := by decide +kernel
theorem dX3_askForLooks_37 : decode cX3_askForLooks 37 = .ok (.iconst 1, 1) := by decide +kernel
theorem dX3_askForLooks_38 : decode cX3_askForLooks 38 = .ok (.putfield 259, 3) := by decide +kernel
theorem dX3_askForLooks_41 : decode cX3_askForLooks 41 = .ok (.iinc 2 1, 3) := by decide +kernel
theorem dX3_askForLooks_44 : decode cX3_askForLooks 44 = .ok (.goto (-42), 3) := by decide +kernel
theorem dX3_askForLooks_47 : decode cX3_askForLooks 47 = .ok (.return_, 1) := by decide +kernel

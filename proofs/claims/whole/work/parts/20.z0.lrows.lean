set_option maxRecDepth 20000 in
theorem ggL_setRoles_X3_setRoles : GoodIn wsL_setRoles wsX3_setRoles := goodIn_ca (goodIn_r _ [6, 7, 8, 9, 10, 5, 11, 12, 13, 14, 15, 16, 17, 18, 19, 20, 21, 22, 23, 24] (by decide +kernel) (by decide +kernel)) (goodIn_sub (fun _ h => List.mem_cons_of_mem _ (List.mem_append_right _ h)) (by decide +kernel))
set_option maxRecDepth 20000 in
theorem gL_setRoles_X3_setRoles : GoodIn wsL_setRoles (wsV RL 7 RX3 yX3_setRoles wsX3_setRoles) := goodIn_app (goodIn_of _ (by decide +kernel)) ggL_setRoles_X3_setRoles
theorem dL_setRoles_0 : decode cL_setRoles 0 = .ok (.aload_n 0, 1) := by decide +kernel
theorem dL_setRoles_1 : decode cL_setRoles 1 = .ok (.iload_n 1, 1) := by decide +kernel
theorem dL_setRoles_2 : decode cL_setRoles 2 = .ok (.iload_n 2, 1) := by decide +kernel
theorem dL_setRoles_3 : decode cL_setRoles 3 = .ok (.iload_n 3, 1) := by decide +kernel
theorem dL_setRoles_4 : decode cL_setRoles 4 = .ok (.invokevirtual 7, 3) := by decide +kernel
theorem dL_setRoles_7 : decode cL_setRoles 7 = .ok (.goto 7, 3) := by decide +kernel
theorem dL_setRoles_10 : decode cL_setRoles 10 = .ok (.astore 4, 2) := by decide +kernel
theorem dL_setRoles_12 : decode cL_setRoles 12 = .ok (.iconst 1, 1) := by decide +kernel
theorem dL_setRoles_13 : decode cL_setRoles 13 = .ok (.ireturn, 1) := by decide +kernel
theorem dL_setRoles_14 : decode cL_setRoles 14 = .ok (.iconst 0, 1) := by decide +kernel
theorem dL_setRoles_15 : decode cL_setRoles 15 = .ok (.ireturn, 1) := by decide +kernel
set_option maxRecDepth 20000 in
theorem ggL_setDeputy_X3_setDeputy : GoodIn wsL_setDeputy wsX3_setDeputy := goodIn_ca (goodIn_r _ [6, 7, 8, 9, 10, 11, 5, 12, 13, 14, 15, 16, 17, 18, 19, 20, 21, 22, 23] (by decide +kernel) (by decide +kernel)) (goodIn_sub (fun _ h => List.mem_cons_of_mem _ (List.mem_append_right _ h)) (by decide +kernel))
set_option maxRecDepth 20000 in
theorem gL_setDeputy_X3_setDeputy : GoodIn wsL_setDeputy (wsV RL 15 RX3 yX3_setDeputy wsX3_setDeputy) := goodIn_app (goodIn_of _ (by decide +kernel)) ggL_setDeputy_X3_setDeputy
theorem dL_setDeputy_0 : decode cL_setDeputy 0 = .ok (.aload_n 3, 1) := by decide +kernel
theorem dL_setDeputy_1 : decode cL_setDeputy 1 = .ok (.iconst 0, 1) := by decide +kernel
theorem dL_setDeputy_2 : decode cL_setDeputy 2 = .ok (.aload_n 0, 1) := by decide +kernel
theorem dL_setDeputy_3 : decode cL_setDeputy 3 = .ok (.iload_n 1, 1) := by decide +kernel
theorem dL_setDeputy_4 : decode cL_setDeputy 4 = .ok (.iload_n 2, 1) := by decide +kernel
theorem dL_setDeputy_5 : decode cL_setDeputy 5 = .ok (.invokevirtual 15, 3) := by decide +kernel
theorem dL_setDeputy_8 : decode cL_setDeputy 8 = .ok (.i2l, 1) := by decide +kernel
theorem dL_setDeputy_9 : decode cL_setDeputy 9 = .ok (.lastore, 1) := by decide +kernel
theorem dL_setDeputy_10 : decode cL_setDeputy 10 = .ok (.goto 7, 3) := by decide +kernel
theorem dL_setDeputy_13 : decode cL_setDeputy 13 = .ok (.astore 4, 2) := by decide +kernel
theorem dL_setDeputy_15 : decode cL_setDeputy 15 = .ok (.iconst 1, 1) := by decide +kernel
theorem dL_setDeputy_16 : decode cL_setDeputy 16 = .ok (.ireturn, 1) := by decide +kernel
theorem dL_setDeputy_17 : decode cL_setDeputy 17 = .ok (.iconst 0, 1) := by decide +kernel
theorem dL_setDeputy_18 : decode cL_setDeputy 18 = .ok (.ireturn, 1) := by decide +kernel
set_option maxRecDepth 20000 in
theorem ggL_open_X3_open : GoodIn wsL_open wsX3_open := goodIn_ca (goodIn_r _ [6, 7, 8, 9, 10, 11, 12, 13, 14, 15, 16, 17, 18, 19, 20, 21, 22, 23, 24, 25, 26, 27, 28, 29, 30, 31, 32, 33, 34, 35, 36, 37, 38, 39, 40, 41, 42, 43, 44, 45, 46, 47, 48, 49, 50, 51, 52, 53, 54, 55, 56, 57, 58, 59, 60, 61, 62, 63, 64, 65, 66, 67] (by decide +kernel) (by decide +kernel)) (goodIn_sub (fun _ h => List.mem_cons_of_mem _ (List.mem_append_right _ h)) (by decide +kernel))
set_option maxRecDepth 20000 in
theorem gL_open_X3_open : GoodIn wsL_open (wsV RL 19 RX3 yX3_open wsX3_open) := goodIn_app (goodIn_of _ (by decide +kernel)) ggL_open_X3_open
theorem dL_open_0 : decode cL_open 0 = .ok (.aload_n 2, 1) := by decide +kernel
theorem dL_open_1 : decode cL_open 1 = .ok (.iconst 0, 1) := by decide +kernel
theorem dL_open_2 : decode cL_open 2 = .ok (.aload_n 0, 1) := by decide +kernel
theorem dL_open_3 : decode cL_open 3 = .ok (.iload_n 1, 1) := by decide +kernel
theorem dL_open_4 : decode cL_open 4 = .ok (.invokevirtual 19, 3) := by decide +kernel
theorem dL_open_7 : decode cL_open 7 = .ok (.i2l, 1) := by decide +kernel
theorem dL_open_8 : decode cL_open 8 = .ok (.lastore, 1) := by decide +kernel
theorem dL_open_9 : decode cL_open 9 = .ok (.goto 6, 3) := by decide +kernel
theorem dL_open_12 : decode cL_open 12 = .ok (.astore_n 3, 1) := by decide +kernel
theorem dL_open_13 : decode cL_open 13 = .ok (.iconst 1, 1) := by decide +kernel
theorem dL_open_14 : decode cL_open 14 = .ok (.ireturn, 1) := by decide +kernel
theorem dL_open_15 : decode cL_open 15 = .ok (.iconst 0, 1) := by decide +kernel
theorem dL_open_16 : decode cL_open 16 = .ok (.ireturn, 1) := by decide +kernel
set_option maxRecDepth 20000 in
theorem ggL_hang_X3_hang : GoodIn wsL_hang wsX3_hang := goodIn_ca (goodIn_ca (goodIn_r _ [7, 8, 9, 10, 11, 12, 13, 6, 14, 15, 16, 17, 18, 19, 20, 21, 22, 23, 24, 25, 26, 27, 28, 29, 30, 31, 32, 33, 34, 35, 36, 37] (by decide +kernel) (by decide +kernel)) (goodIn_sub (fun _ h => List.mem_cons_of_mem _ (List.mem_append_left _ (List.mem_append_right _ h))) (by decide +kernel))) (goodIn_sub (fun _ h => List.mem_cons_of_mem _ (List.mem_append_right _ h)) (by decide +kernel))
set_option maxRecDepth 20000 in
theorem gL_hang_X3_hang : GoodIn wsL_hang (wsV RL 25 RX3 yX3_hang wsX3_hang) := goodIn_app (goodIn_of _ (by decide +kernel)) ggL_hang_X3_hang
theorem dL_hang_0 : decode cL_hang 0 = .ok (.aload_n 3, 1) := by decide +kernel
theorem dL_hang_1 : decode cL_hang 1 = .ok (.iconst 0, 1) := by decide +kernel
theorem dL_hang_2 : decode cL_hang 2 = .ok (.aload_n 0, 1) := by decide +kernel
theorem dL_hang_3 : decode cL_hang 3 = .ok (.iload_n 1, 1) := by decide +kernel
theorem dL_hang_4 : decode cL_hang 4 = .ok (.iload_n 2, 1) := by decide +kernel
theorem dL_hang_5 : decode cL_hang 5 = .ok (.invokevirtual 25, 3) := by decide +kernel
theorem dL_hang_8 : decode cL_hang 8 = .ok (.i2l, 1) := by decide +kernel
theorem dL_hang_9 : decode cL_hang 9 = .ok (.lastore, 1) := by decide +kernel
theorem dL_hang_10 : decode cL_hang 10 = .ok (.goto 11, 3) := by decide +kernel
theorem dL_hang_13 : decode cL_hang 13 = .ok (.astore 4, 2) := by decide +kernel
theorem dL_hang_15 : decode cL_hang 15 = .ok (.iconst 1, 1) := by decide +kernel
theorem dL_hang_16 : decode cL_hang 16 = .ok (.ireturn, 1) := by decide +kernel
theorem dL_hang_17 : decode cL_hang 17 = .ok (.astore 4, 2) := by decide +kernel
theorem dL_hang_19 : decode cL_hang 19 = .ok (.iconst 2, 1) := by decide +kernel
theorem dL_hang_20 : decode cL_hang 20 = .ok (.ireturn, 1) := by decide +kernel
theorem dL_hang_21 : decode cL_hang 21 = .ok (.iconst 0, 1) := by decide +kernel
theorem dL_hang_22 : decode cL_hang 22 = .ok (.ireturn, 1) := by decide +kernel
set_option maxRecDepth 20000 in
theorem ggL_setInterval_X3_setInterval : GoodIn wsL_setInterval wsX3_setInterval := goodIn_ca (goodIn_r _ [6, 7, 8, 9, 5, 10, 11, 12, 13, 14, 15, 16, 17, 18, 19, 20] (by decide +kernel) (by decide +kernel)) (goodIn_sub (fun _ h => List.mem_cons_of_mem _ (List.mem_append_right _ h)) (by decide +kernel))
set_option maxRecDepth 20000 in
theorem gL_setInterval_X3_setInterval : GoodIn wsL_setInterval (wsV RL 30 RX3 yX3_setInterval wsX3_setInterval) := goodIn_app (goodIn_of _ (by decide +kernel)) ggL_setInterval_X3_setInterval
theorem dL_setInterval_0 : decode cL_setInterval 0 = .ok (.aload_n 2, 1) := by decide +kernel
theorem dL_setInterval_1 : decode cL_setInterval 1 = .ok (.iconst 0, 1) := by decide +kernel
theorem dL_setInterval_2 : decode cL_setInterval 2 = .ok (.aload_n 0, 1) := by decide +kernel
theorem dL_setInterval_3 : decode cL_setInterval 3 = .ok (.iload_n 1, 1) := by decide +kernel
theorem dL_setInterval_4 : decode cL_setInterval 4 = .ok (.invokevirtual 30, 3) := by decide +kernel
theorem dL_setInterval_7 : decode cL_setInterval 7 = .ok (.i2l, 1) := by decide +kernel
theorem dL_setInterval_8 : decode cL_setInterval 8 = .ok (.lastore, 1) := by decide +kernel
theorem dL_setInterval_9 : decode cL_setInterval 9 = .ok (.goto 6, 3) := by decide +kernel
theorem dL_setInterval_12 : decode cL_setInterval 12 = .ok (.astore_n 3, 1) := by decide +kernel
theorem dL_setInterval_13 : decode cL_setInterval 13 = .ok (.iconst 1, 1) := by decide +kernel
theorem dL_setInterval_14 : decode cL_setInterval 14 = .ok (.ireturn, 1) := by decide +kernel
theorem dL_setInterval_15 : decode cL_setInterval 15 = .ok (.iconst 0, 1) := by decide +kernel
theorem dL_setInterval_16 : decode cL_setInterval 16 = .ok (.ireturn, 1) := by decide +kernel
set_option maxRecDepth 20000 in
theorem ggL_draft_X3_draft : GoodIn wsL_draft wsX3_draft := goodIn_ca (goodIn_ca (goodIn_ca (goodIn_r _ [8, 9, 10, 11, 12, 13, 14, 15, 7, 16, 17, 18, 19, 20, 21, 22, 23, 24, 25, 26, 27, 28, 29, 30, 31, 32, 33, 34, 35, 36, 37, 38, 39, 40, 41, 42, 43, 44, 45, 46, 47, 48, 49, 50, 51, 52, 53, 54, 55, 56, 57, 58, 59, 60, 61, 62, 63, 64, 65, 66, 67, 68, 69, 70, 71, 72, 73, 74] (by decide +kernel) (by decide +kernel)) (goodIn_sub (fun _ h => List.mem_cons_of_mem _ (List.mem_append_left _ (List.mem_append_left _ (List.mem_append_right _ h)))) (by decide +kernel))) (goodIn_sub (fun _ h => List.mem_cons_of_mem _ (List.mem_append_left _ (List.mem_append_right _ h))) (by decide +kernel))) (goodIn_sub (fun _ h => List.mem_cons_of_mem _ (List.mem_append_right _ h)) (by decide +kernel))
set_option maxRecDepth 20000 in
theorem gL_draft_X3_draft : GoodIn wsL_draft (wsV RL 34 RX3 yX3_draft wsX3_draft) := goodIn_app (goodIn_of _ (by decide +kernel)) ggL_draft_X3_draft
theorem dL_draft_0 : decode cL_draft 0 = .ok (.aload_n 0, 1) := by decide +kernel
theorem dL_draft_1 : decode cL_draft 1 = .ok (.iload_n 1, 1) := by decide +kernel
theorem dL_draft_2 : decode cL_draft 2 = .ok (.iload_n 2, 1) := by decide +kernel
theorem dL_draft_3 : decode cL_draft 3 = .ok (.iload_n 3, 1) := by decide +kernel
theorem dL_draft_4 : decode cL_draft 4 = .ok (.invokevirtual 34, 3) := by decide +kernel
theorem dL_draft_7 : decode cL_draft 7 = .ok (.goto 15, 3) := by decide +kernel
theorem dL_draft_10 : decode cL_draft 10 = .ok (.astore 4, 2) := by decide +kernel
theorem dL_draft_12 : decode cL_draft 12 = .ok (.iconst 1, 1) := by decide +kernel
theorem dL_draft_13 : decode cL_draft 13 = .ok (.ireturn, 1) := by decide +kernel
theorem dL_draft_14 : decode cL_draft 14 = .ok (.astore 4, 2) := by decide +kernel
theorem dL_draft_16 : decode cL_draft 16 = .ok (.iconst 2, 1) := by decide +kernel
theorem dL_draft_17 : decode cL_draft 17 = .ok (.ireturn, 1) := by decide +kernel
theorem dL_draft_18 : decode cL_draft 18 = .ok (.astore 4, 2) := by decide +kernel
theorem dL_draft_20 : decode cL_draft 20 = .ok (.iconst 3, 1) := by decide +kernel
theorem dL_draft_21 : decode cL_draft 21 = .ok (.ireturn, 1) := by decide +kernel
theorem dL_draft_22 : decode cL_draft 22 = .ok (.iconst 0, 1) := by decide +kernel
theorem dL_draft_23 : decode cL_draft 23 = .ok (.ireturn, 1) := by decide +kernel
set_option maxRecDepth 20000 in
theorem ggL_change_X3_change : GoodIn wsL_change wsX3_change := goodIn_ca (goodIn_ca (goodIn_ca (goodIn_r _ [8, 9, 10, 11, 12, 13, 14, 15, 7, 16, 17, 18, 19, 20, 21, 22, 23, 24, 25, 26, 27, 28, 29, 30, 31, 32, 33, 34, 35, 36, 37, 38, 39, 40, 41, 42, 43, 44, 45, 46, 47, 48, 49, 50, 51, 52, 53, 54, 55, 56, 57, 58, 59, 60, 61, 62, 63, 64, 65, 66, 67, 68] (by decide +kernel) (by decide +kernel)) (goodIn_sub (fun _ h => List.mem_cons_of_mem _ (List.mem_append_left _ (List.mem_append_left _ (List.mem_append_right _ h)))) (by decide +kernel))) (goodIn_sub (fun _ h => List.mem_cons_of_mem _ (List.mem_append_left _ (List.mem_append_right _ h))) (by decide +kernel))) (goodIn_sub (fun _ h => List.mem_cons_of_mem _ (List.mem_append_right _ h)) (by decide +kernel))
set_option maxRecDepth 20000 in
theorem gL_change_X3_change : GoodIn wsL_change (wsV RL 38 RX3 yX3_change wsX3_change) := goodIn_app (goodIn_of _ (by decide +kernel)) ggL_change_X3_change
theorem dL_change_0 : decode cL_change 0 = .ok (.aload_n 3, 1) := by decide +kernel
theorem dL_change_1 : decode cL_change 1 = .ok (.iconst 0, 1) := by decide +kernel
theorem dL_change_2 : decode cL_change 2 = .ok (.aload_n 0, 1) := by decide +kernel
theorem dL_change_3 : decode cL_change 3 = .ok (.iload_n 1, 1) := by decide +kernel
theorem dL_change_4 : decode cL_change 4 = .ok (.iload_n 2, 1) := by decide +kernel
theorem dL_change_5 : decode cL_change 5 = .ok (.invokevirtual 38, 3) := by decide +kernel
theorem dL_change_8 : decode cL_change 8 = .ok (.i2l, 1) := by decide +kernel
theorem dL_change_9 : decode cL_change 9 = .ok (.lastore, 1) := by decide +kernel
theorem dL_change_10 : decode cL_change 10 = .ok (.goto 15, 3) := by decide +kernel
theorem dL_change_13 : decode cL_change 13 = .ok (.astore 4, 2) := by decide +kernel
theorem dL_change_15 : decode cL_change 15 = .ok (.iconst 1, 1) := by decide +kernel
theorem dL_change_16 : decode cL_change 16 = .ok (.ireturn, 1) := by decide +kernel
theorem dL_change_17 : decode cL_change 17 = .ok (.astore 4, 2) := by decide +kernel
theorem dL_change_19 : decode cL_change 19 = .ok (.iconst 2, 1) := by decide +kernel
theorem dL_change_20 : decode cL_change 20 = .ok (.ireturn, 1) := by decide +kernel
theorem dL_change_21 : decode cL_change 21 = .ok (.astore 4, 2) := by decide +kernel
theorem dL_change_23 : decode cL_change 23 = .ok (.iconst 3, 1) := by decide +kernel
theorem dL_change_24 : decode cL_change 24 = .ok (.ireturn, 1) := by decide +kernel
theorem dL_change_25 : decode cL_change 25 = .ok (.iconst 0, 1) := by decide +kernel
theorem dL_change_26 : decode cL_change 26 = .ok (.ireturn, 1) := by decide +kernel
set_option maxRecDepth 20000 in
theorem ggL_drop_X3_drop : GoodIn wsL_drop wsX3_drop := goodIn_ca (goodIn_ca (goodIn_r _ [7, 8, 9, 10, 11, 12, 6, 13, 14, 15, 16, 17, 18, 19, 20, 21, 22, 23, 24, 25, 26, 27, 28, 29, 30, 31, 32, 33, 34, 35, 36, 37, 38, 39, 40, 41, 42, 43, 44, 45, 46, 47, 48, 49, 50, 51] (by decide +kernel) (by decide +kernel)) (goodIn_sub (fun _ h => List.mem_cons_of_mem _ (List.mem_append_left _ (List.mem_append_right _ h))) (by decide +kernel))) (goodIn_sub (fun _ h => List.mem_cons_of_mem _ (List.mem_append_right _ h)) (by decide +kernel))
set_option maxRecDepth 20000 in
theorem gL_drop_X3_drop : GoodIn wsL_drop (wsV RL 41 RX3 yX3_drop wsX3_drop) := goodIn_app (goodIn_of _ (by decide +kernel)) ggL_drop_X3_drop
theorem dL_drop_0 : decode cL_drop 0 = .ok (.aload_n 2, 1) := by decide +kernel
theorem dL_drop_1 : decode cL_drop 1 = .ok (.iconst 0, 1) := by decide +kernel
theorem dL_drop_2 : decode cL_drop 2 = .ok (.aload_n 0, 1) := by decide +kernel
theorem dL_drop_3 : decode cL_drop 3 = .ok (.iload_n 1, 1) := by decide +kernel
theorem dL_drop_4 : decode cL_drop 4 = .ok (.invokevirtual 41, 3) := by decide +kernel
theorem dL_drop_7 : decode cL_drop 7 = .ok (.i2l, 1) := by decide +kernel
theorem dL_drop_8 : decode cL_drop 8 = .ok (.lastore, 1) := by decide +kernel
theorem dL_drop_9 : decode cL_drop 9 = .ok (.goto 9, 3) := by decide +kernel
theorem dL_drop_12 : decode cL_drop 12 = .ok (.astore_n 3, 1) := by decide +kernel
theorem dL_drop_13 : decode cL_drop 13 = .ok (.iconst 1, 1) := by decide +kernel
theorem dL_drop_14 : decode cL_drop 14 = .ok (.ireturn, 1) := by decide +kernel
theorem dL_drop_15 : decode cL_drop 15 = .ok (.astore_n 3, 1) := by decide +kernel
theorem dL_drop_16 : decode cL_drop 16 = .ok (.iconst 2, 1) := by decide +kernel
theorem dL_drop_17 : decode cL_drop 17 = .ok (.ireturn, 1) := by decide +kernel
theorem dL_drop_18 : decode cL_drop 18 = .ok (.iconst 0, 1) := by decide +kernel
theorem dL_drop_19 : decode cL_drop 19 = .ok (.ireturn, 1) := by decide +kernel
set_option maxRecDepth 20000 in
theorem ggL_reviewer_X3_reviewer : GoodIn wsL_reviewer wsX3_reviewer := goodIn_ca (goodIn_ca (goodIn_ca (goodIn_r _ [8, 9, 10, 11, 12, 13, 14, 15, 16, 17, 18, 7, 19, 20, 21, 22, 23, 24, 25, 26, 27, 28, 29, 30, 31, 32, 33, 34, 35, 36, 37, 38, 39, 40, 41, 42, 43, 44, 45, 46, 47, 48, 49, 50, 51, 52, 53, 54, 55, 56, 57, 58, 59, 60, 61, 62, 63, 64, 65, 66, 67, 68, 69, 70, 71] (by decide +kernel) (by decide +kernel)) (goodIn_sub (fun _ h => List.mem_cons_of_mem _ (List.mem_append_left _ (List.mem_append_left _ (List.mem_append_right _ h)))) (by decide +kernel))) (goodIn_sub (fun _ h => List.mem_cons_of_mem _ (List.mem_append_left _ (List.mem_append_right _ h))) (by decide +kernel))) (goodIn_sub (fun _ h => List.mem_cons_of_mem _ (List.mem_append_right _ h)) (by decide +kernel))
set_option maxRecDepth 20000 in
theorem gL_reviewer_X3_reviewer : GoodIn wsL_reviewer (wsV RL 44 RX3 yX3_reviewer wsX3_reviewer) := goodIn_app (goodIn_of _ (by decide +kernel)) ggL_reviewer_X3_reviewer
theorem dL_reviewer_0 : decode cL_reviewer 0 = .ok (.aload_n 3, 1) := by decide +kernel
theorem dL_reviewer_1 : decode cL_reviewer 1 = .ok (.iconst 0, 1) := by decide +kernel
theorem dL_reviewer_2 : decode cL_reviewer 2 = .ok (.aload_n 0, 1) := by decide +kernel
theorem dL_reviewer_3 : decode cL_reviewer 3 = .ok (.iload_n 1, 1) := by decide +kernel
theorem dL_reviewer_4 : decode cL_reviewer 4 = .ok (.iload_n 2, 1) := by decide +kernel
theorem dL_reviewer_5 : decode cL_reviewer 5 = .ok (.invokevirtual 44, 3) := by decide +kernel
theorem dL_reviewer_8 : decode cL_reviewer 8 = .ok (.i2l, 1) := by decide +kernel
theorem dL_reviewer_9 : decode cL_reviewer 9 = .ok (.lastore, 1) := by decide +kernel
theorem dL_reviewer_10 : decode cL_reviewer 10 = .ok (.goto 15, 3) := by decide +kernel
theorem dL_reviewer_13 : decode cL_reviewer 13 = .ok (.astore 4, 2) := by decide +kernel
theorem dL_reviewer_15 : decode cL_reviewer 15 = .ok (.iconst 1, 1) := by decide +kernel
theorem dL_reviewer_16 : decode cL_reviewer 16 = .ok (.ireturn, 1) := by decide +kernel
theorem dL_reviewer_17 : decode cL_reviewer 17 = .ok (.astore 4, 2) := by decide +kernel
theorem dL_reviewer_19 : decode cL_reviewer 19 = .ok (.iconst 2, 1) := by decide +kernel
theorem dL_reviewer_20 : decode cL_reviewer 20 = .ok (.ireturn, 1) := by decide +kernel
theorem dL_reviewer_21 : decode cL_reviewer 21 = .ok (.astore 4, 2) := by decide +kernel
theorem dL_reviewer_23 : decode cL_reviewer 23 = .ok (.iconst 3, 1) := by decide +kernel
theorem dL_reviewer_24 : decode cL_reviewer 24 = .ok (.ireturn, 1) := by decide +kernel
theorem dL_reviewer_25 : decode cL_reviewer 25 = .ok (.iconst 0, 1) := by decide +kernel
theorem dL_reviewer_26 : decode cL_reviewer 26 = .ok (.ireturn, 1) := by decide +kernel
set_option maxRecDepth 20000 in
theorem ggL_reader_X3_reader : GoodIn wsL_reader wsX3_reader := goodIn_ca (goodIn_ca (goodIn_ca (goodIn_r _ [8, 9, 10, 11, 12, 13, 14, 7, 15, 16, 17, 18, 19, 20, 21, 22, 23, 24, 25, 26, 27, 28, 29, 30, 31, 32, 33, 34, 35, 36, 37, 38, 39, 40, 41, 42, 43, 44, 45, 46, 47, 48, 49, 50, 51, 52, 53, 54, 55, 56, 57, 58, 59, 60, 61, 62, 63] (by decide +kernel) (by decide +kernel)) (goodIn_sub (fun _ h => List.mem_cons_of_mem _ (List.mem_append_left _ (List.mem_append_left _ (List.mem_append_right _ h)))) (by decide +kernel))) (goodIn_sub (fun _ h => List.mem_cons_of_mem _ (List.mem_append_left _ (List.mem_append_right _ h))) (by decide +kernel))) (goodIn_sub (fun _ h => List.mem_cons_of_mem _ (List.mem_append_right _ h)) (by decide +kernel))
set_option maxRecDepth 20000 in
theorem gL_reader_X3_reader : GoodIn wsL_reader (wsV RL 47 RX3 yX3_reader wsX3_reader) := goodIn_app (goodIn_of _ (by decide +kernel)) ggL_reader_X3_reader
theorem dL_reader_0 : decode cL_reader 0 = .ok (.aload_n 3, 1) := by decide +kernel
theorem dL_reader_1 : decode cL_reader 1 = .ok (.iconst 0, 1) := by decide +kernel
theorem dL_reader_2 : decode cL_reader 2 = .ok (.aload_n 0, 1) := by decide +kernel
theorem dL_reader_3 : decode cL_reader 3 = .ok (.iload_n 1, 1) := by decide +kernel
theorem dL_reader_4 : decode cL_reader 4 = .ok (.iload_n 2, 1) := by decide +kernel
theorem dL_reader_5 : decode cL_reader 5 = .ok (.invokevirtual 47, 3) := by decide +kernel
theorem dL_reader_8 : decode cL_reader 8 = .ok (.i2l, 1) := by decide +kernel
theorem dL_reader_9 : decode cL_reader 9 = .ok (.lastore, 1) := by decide +kernel
theorem dL_reader_10 : decode cL_reader 10 = .ok (.goto 15, 3) := by decide +kernel
theorem dL_reader_13 : decode cL_reader 13 = .ok (.astore 4, 2) := by decide +kernel
theorem dL_reader_15 : decode cL_reader 15 = .ok (.iconst 1, 1) := by decide +kernel
theorem dL_reader_16 : decode cL_reader 16 = .ok (.ireturn, 1) := by decide +kernel
theorem dL_reader_17 : decode cL_reader 17 = .ok (.astore 4, 2) := by decide +kernel
theorem dL_reader_19 : decode cL_reader 19 = .ok (.iconst 2, 1) := by decide +kernel
theorem dL_reader_20 : decode cL_reader 20 = .ok (.ireturn, 1) := by decide +kernel
theorem dL_reader_21 : decode cL_reader 21 = .ok (.astore 4, 2) := by decide +kernel
theorem dL_reader_23 : decode cL_reader 23 = .ok (.iconst 3, 1) := by decide +kernel
theorem dL_reader_24 : decode cL_reader 24 = .ok (.ireturn, 1) := by decide +kernel
theorem dL_reader_25 : decode cL_reader 25 = .ok (.iconst 0, 1) := by decide +kernel
theorem dL_reader_26 : decode cL_reader 26 = .ok (.ireturn, 1) := by decide +kernel
set_option maxRecDepth 20000 in
theorem ggL_review_X3_review : GoodIn wsL_review wsX3_review := goodIn_ca (goodIn_ca (goodIn_ca (goodIn_r _ [8, 9, 10, 11, 12, 13, 14, 15, 7, 16, 17, 18, 19, 20, 21, 22, 23, 24, 25, 26, 27, 28, 29, 30, 31, 32, 33, 34, 35, 36, 37, 38, 39, 40, 41, 42, 43, 44, 45, 46, 47, 48, 49, 50, 51, 52, 53, 54, 55, 56, 57, 58, 59, 60, 61, 62, 63, 64, 65, 66, 67, 68, 69, 70, 71, 72, 73, 74, 75, 76, 77, 78, 79] (by decide +kernel) (by decide +kernel)) (goodIn_sub (fun _ h => List.mem_cons_of_mem _ (List.mem_append_left _ (List.mem_append_left _ (List.mem_append_right _ h)))) (by decide +kernel))) (goodIn_sub (fun _ h => List.mem_cons_of_mem _ (List.mem_append_left _ (List.mem_append_right _ h))) (by decide +kernel))) (goodIn_sub (fun _ h => List.mem_cons_of_mem _ (List.mem_append_right _ h)) (by decide +kernel))
set_option maxRecDepth 20000 in
theorem gL_review_X3_review : GoodIn wsL_review (wsV RL 50 RX3 yX3_review wsX3_review) := goodIn_app (goodIn_of _ (by decide +kernel)) ggL_review_X3_review
theorem dL_review_0 : decode cL_review 0 = .ok (.aload 4, 2) := by decide +kernel
theorem dL_review_2 : decode cL_review 2 = .ok (.iconst 0, 1) := by decide +kernel
theorem dL_review_3 : decode cL_review 3 = .ok (.aload_n 0, 1) := by decide +kernel
theorem dL_review_4 : decode cL_review 4 = .ok (.iload_n 1, 1) := by decide +kernel
theorem dL_review_5 : decode cL_review 5 = .ok (.iload_n 2, 1) := by decide +kernel
theorem dL_review_6 : decode cL_review 6 = .ok (.iload_n 3, 1) := by decide +kernel
theorem dL_review_7 : decode cL_review 7 = .ok (.invokevirtual 50, 3) := by decide +kernel
theorem dL_review_10 : decode cL_review 10 = .ok (.i2l, 1) := by decide +kernel
theorem dL_review_11 : decode cL_review 11 = .ok (.lastore, 1) := by decide +kernel
theorem dL_review_12 : decode cL_review 12 = .ok (.goto 15, 3) := by decide +kernel
theorem dL_review_15 : decode cL_review 15 = .ok (.astore 5, 2) := by decide +kernel
theorem dL_review_17 : decode cL_review 17 = .ok (.iconst 1, 1) := by decide +kernel
theorem dL_review_18 : decode cL_review 18 = .ok (.ireturn, 1) := by decide +kernel
theorem dL_review_19 : decode cL_review 19 = .ok (.astore 5, 2) := by decide +kernel
theorem dL_review_21 : decode cL_review 21 = .ok (.iconst 2, 1) := by decide +kernel
theorem dL_review_22 : decode cL_review 22 = .ok (.ireturn, 1) := by decide +kernel
theorem dL_review_23 : decode cL_review 23 = .ok (.astore 5, 2) := by decide +kernel
theorem dL_review_25 : decode cL_review 25 = .ok (.iconst 3, 1) := by decide +kernel
theorem dL_review_26 : decode cL_review 26 = .ok (.ireturn, 1) := by decide +kernel
theorem dL_review_27 : decode cL_review 27 = .ok (.iconst 0, 1) := by decide +kernel
theorem dL_review_28 : decode cL_review 28 = .ok (.ireturn, 1) := by decide +kernel
set_option maxRecDepth 20000 in
theorem ggL_answer_X3_answer : GoodIn wsL_answer wsX3_answer := goodIn_ca (goodIn_ca (goodIn_r _ [7, 8, 9, 10, 11, 12, 13, 14, 15, 16, 6, 17, 18, 19, 20, 21, 22, 23, 24, 25, 26, 27, 28, 29, 30, 31, 32, 33, 34, 35, 36, 37, 38, 39, 40, 41, 42, 43, 44, 45, 46, 47, 48, 49, 50, 51, 52, 53, 54, 55, 56, 57, 58, 59] (by decide +kernel) (by decide +kernel)) (goodIn_sub (fun _ h => List.mem_cons_of_mem _ (List.mem_append_left _ (List.mem_append_right _ h))) (by decide +kernel))) (goodIn_sub (fun _ h => List.mem_cons_of_mem _ (List.mem_append_right _ h)) (by decide +kernel))
set_option maxRecDepth 20000 in
theorem gL_answer_X3_answer : GoodIn wsL_answer (wsV RL 54 RX3 yX3_answer wsX3_answer) := goodIn_app (goodIn_of _ (by decide +kernel)) ggL_answer_X3_answer
theorem dL_answer_0 : decode cL_answer 0 = .ok (.aload_n 3, 1) := by decide +kernel
theorem dL_answer_1 : decode cL_answer 1 = .ok (.iconst 0, 1) := by decide +kernel
theorem dL_answer_2 : decode cL_answer 2 = .ok (.aload_n 0, 1) := by decide +kernel
theorem dL_answer_3 : decode cL_answer 3 = .ok (.iload_n 1, 1) := by decide +kernel
theorem dL_answer_4 : decode cL_answer 4 = .ok (.iload_n 2, 1) := by decide +kernel
theorem dL_answer_5 : decode cL_answer 5 = .ok (.invokevirtual 54, 3) := by decide +kernel
theorem dL_answer_8 : decode cL_answer 8 = .ok (.i2l, 1) := by decide +kernel
theorem dL_answer_9 : decode cL_answer 9 = .ok (.lastore, 1) := by decide +kernel
theorem dL_answer_10 : decode cL_answer 10 = .ok (.goto 11, 3) := by decide +kernel
theorem dL_answer_13 : decode cL_answer 13 = .ok (.astore 4, 2) := by decide +kernel
theorem dL_answer_15 : decode cL_answer 15 = .ok (.iconst 1, 1) := by decide +kernel
theorem dL_answer_16 : decode cL_answer 16 = .ok (.ireturn, 1) := by decide +kernel
theorem dL_answer_17 : decode cL_answer 17 = .ok (.astore 4, 2) := by decide +kernel
theorem dL_answer_19 : decode cL_answer 19 = .ok (.iconst 2, 1) := by decide +kernel
theorem dL_answer_20 : decode cL_answer 20 = .ok (.ireturn, 1) := by decide +kernel
theorem dL_answer_21 : decode cL_answer 21 = .ok (.iconst 0, 1) := by decide +kernel
theorem dL_answer_22 : decode cL_answer 22 = .ok (.ireturn, 1) := by decide +kernel
set_option maxRecDepth 20000 in
theorem ggL_approve_X3_approve : GoodIn wsL_approve wsX3_approve := goodIn_ca (goodIn_ca (goodIn_ca (goodIn_r _ [8, 9, 10, 11, 12, 13, 14, 15, 16, 17, 7, 18, 19, 20, 21, 22, 23, 24, 25, 26, 27, 28, 29, 30, 31, 32, 33, 34, 35, 36, 37, 38, 39, 40, 41, 42, 43, 44, 45, 46, 47, 48, 49, 50, 51, 52, 53, 54, 55, 56, 57, 58, 59, 60, 61, 62, 63, 64, 65, 66, 67, 68, 69, 70, 71, 72, 73, 74, 75, 76, 77, 78, 79, 80, 81, 82, 83, 84, 85, 86, 87, 88, 89, 90, 91, 92, 93, 94] (by decide +kernel) (by decide +kernel)) (goodIn_sub (fun _ h => List.mem_cons_of_mem _ (List.mem_append_left _ (List.mem_append_left _ (List.mem_append_right _ h)))) (by decide +kernel))) (goodIn_sub (fun _ h => List.mem_cons_of_mem _ (List.mem_append_left _ (List.mem_append_right _ h))) (by decide +kernel))) (goodIn_sub (fun _ h => List.mem_cons_of_mem _ (List.mem_append_right _ h)) (by decide +kernel))
set_option maxRecDepth 20000 in
theorem gL_approve_X3_approve : GoodIn wsL_approve (wsV RL 57 RX3 yX3_approve wsX3_approve) := goodIn_app (goodIn_of _ (by decide +kernel)) ggL_approve_X3_approve
theorem dL_approve_0 : decode cL_approve 0 = .ok (.aload_n 0, 1) := by decide +kernel
theorem dL_approve_1 : decode cL_approve 1 = .ok (.iload_n 1, 1) := by decide +kernel
theorem dL_approve_2 : decode cL_approve 2 = .ok (.iload_n 2, 1) := by decide +kernel
theorem dL_approve_3 : decode cL_approve 3 = .ok (.iload_n 3, 1) := by decide +kernel
theorem dL_approve_4 : decode cL_approve 4 = .ok (.invokevirtual 57, 3) := by decide +kernel
theorem dL_approve_7 : decode cL_approve 7 = .ok (.goto 15, 3) := by decide +kernel
theorem dL_approve_10 : decode cL_approve 10 = .ok (.astore 4, 2) := by decide +kernel
theorem dL_approve_12 : decode cL_approve 12 = .ok (.iconst 1, 1) := by decide +kernel
theorem dL_approve_13 : decode cL_approve 13 = .ok (.ireturn, 1) := by decide +kernel
theorem dL_approve_14 : decode cL_approve 14 = .ok (.astore 4, 2) := by decide +kernel
theorem dL_approve_16 : decode cL_approve 16 = .ok (.iconst 2, 1) := by decide +kernel
theorem dL_approve_17 : decode cL_approve 17 = .ok (.ireturn, 1) := by decide +kernel
theorem dL_approve_18 : decode cL_approve 18 = .ok (.astore 4, 2) := by decide +kernel
theorem dL_approve_20 : decode cL_approve 20 = .ok (.iconst 3, 1) := by decide +kernel
theorem dL_approve_21 : decode cL_approve 21 = .ok (.ireturn, 1) := by decide +kernel
theorem dL_approve_22 : decode cL_approve 22 = .ok (.iconst 0, 1) := by decide +kernel
theorem dL_approve_23 : decode cL_approve 23 = .ok (.ireturn, 1) := by decide +kernel
set_option maxRecDepth 20000 in
theorem ggL_confirm_X3_confirm : GoodIn wsL_confirm wsX3_confirm := goodIn_ca (goodIn_ca (goodIn_ca (goodIn_r _ [8, 9, 10, 11, 12, 13, 14, 15, 16, 7, 17, 18, 19, 20, 21, 22, 23, 24, 25, 26, 27, 28, 29, 30, 31, 32, 33, 34, 35, 36, 37, 38, 39, 40, 41, 42, 43, 44, 45, 46, 47, 48, 49, 50, 51, 52, 53, 54, 55, 56, 57, 58, 59, 60, 61, 62, 63, 64, 65] (by decide +kernel) (by decide +kernel)) (goodIn_sub (fun _ h => List.mem_cons_of_mem _ (List.mem_append_left _ (List.mem_append_left _ (List.mem_append_right _ h)))) (by decide +kernel))) (goodIn_sub (fun _ h => List.mem_cons_of_mem _ (List.mem_append_left _ (List.mem_append_right _ h))) (by decide +kernel))) (goodIn_sub (fun _ h => List.mem_cons_of_mem _ (List.mem_append_right _ h)) (by decide +kernel))
set_option maxRecDepth 20000 in
theorem gL_confirm_X3_confirm : GoodIn wsL_confirm (wsV RL 60 RX3 yX3_confirm wsX3_confirm) := goodIn_app (goodIn_of _ (by decide +kernel)) ggL_confirm_X3_confirm
theorem dL_confirm_0 : decode cL_confirm 0 = .ok (.aload_n 3, 1) := by decide +kernel
theorem dL_confirm_1 : decode cL_confirm 1 = .ok (.iconst 0, 1) := by decide +kernel
theorem dL_confirm_2 : decode cL_confirm 2 = .ok (.aload_n 0, 1) := by decide +kernel
theorem dL_confirm_3 : decode cL_confirm 3 = .ok (.iload_n 1, 1) := by decide +kernel
theorem dL_confirm_4 : decode cL_confirm 4 = .ok (.iload_n 2, 1) := by decide +kernel
theorem dL_confirm_5 : decode cL_confirm 5 = .ok (.invokevirtual 60, 3) := by decide +kernel
theorem dL_confirm_8 : decode cL_confirm 8 = .ok (.i2l, 1) := by decide +kernel
theorem dL_confirm_9 : decode cL_confirm 9 = .ok (.lastore, 1) := by decide +kernel
theorem dL_confirm_10 : decode cL_confirm 10 = .ok (.goto 15, 3) := by decide +kernel
theorem dL_confirm_13 : decode cL_confirm 13 = .ok (.astore 4, 2) := by decide +kernel
theorem dL_confirm_15 : decode cL_confirm 15 = .ok (.iconst 1, 1) := by decide +kernel
theorem dL_confirm_16 : decode cL_confirm 16 = .ok (.ireturn, 1) := by decide +kernel
theorem dL_confirm_17 : decode cL_confirm 17 = .ok (.astore 4, 2) := by decide +kernel
theorem dL_confirm_19 : decode cL_confirm 19 = .ok (.iconst 2, 1) := by decide +kernel
theorem dL_confirm_20 : decode cL_confirm 20 = .ok (.ireturn, 1) := by decide +kernel
theorem dL_confirm_21 : decode cL_confirm 21 = .ok (.astore 4, 2) := by decide +kernel
theorem dL_confirm_23 : decode cL_confirm 23 = .ok (.iconst 3, 1) := by decide +kernel
theorem dL_confirm_24 : decode cL_confirm 24 = .ok (.ireturn, 1) := by decide +kernel
theorem dL_confirm_25 : decode cL_confirm 25 = .ok (.iconst 0, 1) := by decide +kernel
theorem dL_confirm_26 : decode cL_confirm 26 = .ok (.ireturn, 1) := by decide +kernel
set_option maxRecDepth 20000 in
theorem ggL_pass_X3_pass : GoodIn wsL_pass wsX3_pass := goodIn_ca (goodIn_ca (goodIn_r _ [7, 8, 9, 10, 11, 12, 6, 13, 14, 15, 16, 17, 18, 19, 20, 21, 22, 23, 24, 25, 26, 27, 28, 29, 30, 31, 32, 33, 34, 35, 36, 37, 38, 39, 40, 41, 42, 43, 44, 45, 46, 47, 48, 49, 50, 51, 52, 53, 54, 55, 56, 57, 58, 59, 60, 61, 62, 63, 64, 65, 66, 67, 68, 69, 70, 71, 72, 73, 74, 75, 76, 77, 78, 79, 80, 81, 82, 83, 84, 85, 86, 87, 88, 89, 90, 91, 92, 93, 94, 95, 96, 97, 98, 99, 100, 101, 102, 103, 104, 105, 106] (by decide +kernel) (by decide +kernel)) (goodIn_sub (fun _ h => List.mem_cons_of_mem _ (List.mem_append_left _ (List.mem_append_right _ h))) (by decide +kernel))) (goodIn_sub (fun _ h => List.mem_cons_of_mem _ (List.mem_append_right _ h)) (by decide +kernel))
set_option maxRecDepth 20000 in
theorem gL_pass_X3_pass : GoodIn wsL_pass (wsV RL 63 RX3 yX3_pass wsX3_pass) := goodIn_app (goodIn_of _ (by decide +kernel)) ggL_pass_X3_pass
theorem dL_pass_0 : decode cL_pass 0 = .ok (.aload_n 2, 1) := by decide +kernel
theorem dL_pass_1 : decode cL_pass 1 = .ok (.iconst 0, 1) := by decide +kernel
theorem dL_pass_2 : decode cL_pass 2 = .ok (.aload_n 0, 1) := by decide +kernel
theorem dL_pass_3 : decode cL_pass 3 = .ok (.iload_n 1, 1) := by decide +kernel
theorem dL_pass_4 : decode cL_pass 4 = .ok (.invokevirtual 63, 3) := by decide +kernel
theorem dL_pass_7 : decode cL_pass 7 = .ok (.i2l, 1) := by decide +kernel
theorem dL_pass_8 : decode cL_pass 8 = .ok (.lastore, 1) := by decide +kernel
theorem dL_pass_9 : decode cL_pass 9 = .ok (.goto 9, 3) := by decide +kernel
theorem dL_pass_12 : decode cL_pass 12 = .ok (.astore_n 3, 1) := by decide +kernel
theorem dL_pass_13 : decode cL_pass 13 = .ok (.iconst 1, 1) := by decide +kernel
theorem dL_pass_14 : decode cL_pass 14 = .ok (.ireturn, 1) := by decide +kernel
theorem dL_pass_15 : decode cL_pass 15 = .ok (.astore_n 3, 1) := by decide +kernel
theorem dL_pass_16 : decode cL_pass 16 = .ok (.iconst 2, 1) := by decide +kernel
theorem dL_pass_17 : decode cL_pass 17 = .ok (.ireturn, 1) := by decide +kernel
theorem dL_pass_18 : decode cL_pass 18 = .ok (.iconst 0, 1) := by decide +kernel
theorem dL_pass_19 : decode cL_pass 19 = .ok (.ireturn, 1) := by decide +kernel
set_option maxRecDepth 20000 in
theorem ggL_look_X3_look : GoodIn wsL_look wsX3_look := goodIn_ca (goodIn_ca (goodIn_r _ [7, 8, 9, 10, 11, 12, 6, 13, 14, 15, 16, 17, 18, 19, 20, 21, 22, 23, 24, 25, 26, 27, 28, 29, 30, 31, 32, 33, 34, 35, 36, 37, 38, 39, 40, 41, 42, 43, 44, 45, 46, 47, 48, 49, 50, 51, 52, 53, 54] (by decide +kernel) (by decide +kernel)) (goodIn_sub (fun _ h => List.mem_cons_of_mem _ (List.mem_append_left _ (List.mem_append_right _ h))) (by decide +kernel))) (goodIn_sub (fun _ h => List.mem_cons_of_mem _ (List.mem_append_right _ h)) (by decide +kernel))
set_option maxRecDepth 20000 in
theorem gL_look_X3_look : GoodIn wsL_look (wsV RL 66 RX3 yX3_look wsX3_look) := goodIn_app (goodIn_of _ (by decide +kernel)) ggL_look_X3_look
theorem dL_look_0 : decode cL_look 0 = .ok (.aload_n 2, 1) := by decide +kernel
theorem dL_look_1 : decode cL_look 1 = .ok (.iconst 0, 1) := by decide +kernel
theorem dL_look_2 : decode cL_look 2 = .ok (.aload_n 0, 1) := by decide +kernel
theorem dL_look_3 : decode cL_look 3 = .ok (.iload_n 1, 1) := by decide +kernel
theorem dL_look_4 : decode cL_look 4 = .ok (.invokevirtual 66, 3) := by decide +kernel
theorem dL_look_7 : decode cL_look 7 = .ok (.ifCond .eq 7, 3) := by decide +kernel
theorem dL_look_10 : decode cL_look 10 = .ok (.lconst 1, 1) := by decide +kernel
theorem dL_look_11 : decode cL_look 11 = .ok (.goto 4, 3) := by decide +kernel
theorem dL_look_14 : decode cL_look 14 = .ok (.lconst 0, 1) := by decide +kernel
theorem dL_look_15 : decode cL_look 15 = .ok (.lastore, 1) := by decide +kernel
theorem dL_look_16 : decode cL_look 16 = .ok (.goto 9, 3) := by decide +kernel
theorem dL_look_19 : decode cL_look 19 = .ok (.astore_n 3, 1) := by decide +kernel
theorem dL_look_20 : decode cL_look 20 = .ok (.iconst 1, 1) := by decide +kernel
theorem dL_look_21 : decode cL_look 21 = .ok (.ireturn, 1) := by decide +kernel
theorem dL_look_22 : decode cL_look 22 = .ok (.astore_n 3, 1) := by decide +kernel
theorem dL_look_23 : decode cL_look 23 = .ok (.iconst 2, 1) := by decide +kernel
theorem dL_look_24 : decode cL_look 24 = .ok (.ireturn, 1) := by decide +kernel
theorem dL_look_25 : decode cL_look 25 = .ok (.iconst 0, 1) := by decide +kernel
theorem dL_look_26 : decode cL_look 26 = .ok (.ireturn, 1) := by decide +kernel
set_option maxRecDepth 20000 in
theorem ggL_isDue_X3_isDue : GoodIn wsL_isDue wsX3_isDue := goodIn_ca (goodIn_r _ [6, 7, 8, 9, 10, 11, 5, 12, 13, 14, 15, 16, 17, 18, 19, 20, 21, 22, 23, 24, 25, 26, 27, 28, 29, 30, 31, 32, 33, 34, 35, 36, 37, 38, 39, 40] (by decide +kernel) (by decide +kernel)) (goodIn_sub (fun _ h => List.mem_cons_of_mem _ (List.mem_append_right _ h)) (by decide +kernel))
set_option maxRecDepth 20000 in
theorem gL_isDue_X3_isDue : GoodIn wsL_isDue (wsV RL 70 RX3 yX3_isDue wsX3_isDue) := goodIn_app (goodIn_of _ (by decide +kernel)) ggL_isDue_X3_isDue
theorem dL_isDue_0 : decode cL_isDue 0 = .ok (.aload_n 2, 1) := by decide +kernel
theorem dL_isDue_1 : decode cL_isDue 1 = .ok (.iconst 0, 1) := by decide +kernel
theorem dL_isDue_2 : decode cL_isDue 2 = .ok (.aload_n 0, 1) := by decide +kernel
theorem dL_isDue_3 : decode cL_isDue 3 = .ok (.iload_n 1, 1) := by decide +kernel
theorem dL_isDue_4 : decode cL_isDue 4 = .ok (.invokevirtual 70, 3) := by decide +kernel
theorem dL_isDue_7 : decode cL_isDue 7 = .ok (.ifCond .eq 7, 3) := by decide +kernel
theorem dL_isDue_10 : decode cL_isDue 10 = .ok (.lconst 1, 1) := by decide +kernel
theorem dL_isDue_11 : decode cL_isDue 11 = .ok (.goto 4, 3) := by decide +kernel
theorem dL_isDue_14 : decode cL_isDue 14 = .ok (.lconst 0, 1) := by decide +kernel
theorem dL_isDue_15 : decode cL_isDue 15 = .ok (.lastore, 1) := by decide +kernel
theorem dL_isDue_16 : decode cL_isDue 16 = .ok (.goto 6, 3) := by decide +kernel
theorem dL_isDue_19 : decode cL_isDue 19 = .ok (.astore_n 3, 1) := by decide +kernel
theorem dL_isDue_20 : decode cL_isDue 20 = .ok (.iconst 1, 1) := by decide +kernel
theorem dL_isDue_21 : decode cL_isDue 21 = .ok (.ireturn, 1) := by decide +kernel
theorem dL_isDue_22 : decode cL_isDue 22 = .ok (.iconst 0, 1) := by decide +kernel
theorem dL_isDue_23 : decode cL_isDue 23 = .ok (.ireturn, 1) := by decide +kernel
set_option maxRecDepth 20000 in
theorem ggL_copy_X3_copy : GoodIn wsL_copy wsX3_copy := goodIn_ca (goodIn_ca (goodIn_ca (goodIn_r _ [8, 9, 10, 11, 12, 13, 14, 15, 7, 16, 17, 18, 19, 20, 21, 22, 23, 24, 25, 26, 27, 28, 29, 30, 31, 32, 33, 34, 35, 36, 37, 38, 39, 40, 41, 42, 43, 44, 45, 46, 47, 48, 49, 50, 51, 52, 53, 54, 55, 56, 57, 58, 59, 60, 61, 62, 63] (by decide +kernel) (by decide +kernel)) (goodIn_sub (fun _ h => List.mem_cons_of_mem _ (List.mem_append_left _ (List.mem_append_left _ (List.mem_append_right _ h)))) (by decide +kernel))) (goodIn_sub (fun _ h => List.mem_cons_of_mem _ (List.mem_append_left _ (List.mem_append_right _ h))) (by decide +kernel))) (goodIn_sub (fun _ h => List.mem_cons_of_mem _ (List.mem_append_right _ h)) (by decide +kernel))
set_option maxRecDepth 20000 in
theorem gL_copy_X3_copy : GoodIn wsL_copy (wsV RL 73 RX3 yX3_copy wsX3_copy) := goodIn_app (goodIn_of _ (by decide +kernel)) ggL_copy_X3_copy
theorem dL_copy_0 : decode cL_copy 0 = .ok (.aload_n 3, 1) := by decide +kernel
theorem dL_copy_1 : decode cL_copy 1 = .ok (.iconst 0, 1) := by decide +kernel
theorem dL_copy_2 : decode cL_copy 2 = .ok (.aload_n 0, 1) := by decide +kernel
theorem dL_copy_3 : decode cL_copy 3 = .ok (.iload_n 1, 1) := by decide +kernel
theorem dL_copy_4 : decode cL_copy 4 = .ok (.iload_n 2, 1) := by decide +kernel
theorem dL_copy_5 : decode cL_copy 5 = .ok (.invokevirtual 73, 3) := by decide +kernel
theorem dL_copy_8 : decode cL_copy 8 = .ok (.i2l, 1) := by decide +kernel
theorem dL_copy_9 : decode cL_copy 9 = .ok (.lastore, 1) := by decide +kernel
theorem dL_copy_10 : decode cL_copy 10 = .ok (.goto 15, 3) := by decide +kernel
theorem dL_copy_13 : decode cL_copy 13 = .ok (.astore 4, 2) := by decide +kernel
theorem dL_copy_15 : decode cL_copy 15 = .ok (.iconst 1, 1) := by decide +kernel
theorem dL_copy_16 : decode cL_copy 16 = .ok (.ireturn, 1) := by decide +kernel
theorem dL_copy_17 : decode cL_copy 17 = .ok (.astore 4, 2) := by decide +kernel
theorem dL_copy_19 : decode cL_copy 19 = .ok (.iconst 2, 1) := by decide +kernel
theorem dL_copy_20 : decode cL_copy 20 = .ok (.ireturn, 1) := by decide +kernel
theorem dL_copy_21 : decode cL_copy 21 = .ok (.astore 4, 2) := by decide +kernel
theorem dL_copy_23 : decode cL_copy 23 = .ok (.iconst 3, 1) := by decide +kernel
theorem dL_copy_24 : decode cL_copy 24 = .ok (.ireturn, 1) := by decide +kernel
theorem dL_copy_25 : decode cL_copy 25 = .ok (.iconst 0, 1) := by decide +kernel
theorem dL_copy_26 : decode cL_copy 26 = .ok (.ireturn, 1) := by decide +kernel
set_option maxRecDepth 20000 in
theorem ggL_takeDown_X3_takeDown : GoodIn wsL_takeDown wsX3_takeDown := goodIn_ca (goodIn_r _ [6, 7, 8, 9, 10, 11, 12, 13, 14, 15, 16, 17, 18, 19, 20, 21, 22, 23] (by decide +kernel) (by decide +kernel)) (goodIn_sub (fun _ h => List.mem_cons_of_mem _ (List.mem_append_right _ h)) (by decide +kernel))
set_option maxRecDepth 20000 in
theorem gL_takeDown_X3_takeDown : GoodIn wsL_takeDown (wsV RL 76 RX3 yX3_takeDown wsX3_takeDown) := goodIn_app (goodIn_of _ (by decide +kernel)) ggL_takeDown_X3_takeDown
theorem dL_takeDown_0 : decode cL_takeDown 0 = .ok (.aload_n 2, 1) := by decide +kernel
theorem dL_takeDown_1 : decode cL_takeDown 1 = .ok (.iconst 0, 1) := by decide +kernel
theorem dL_takeDown_2 : decode cL_takeDown 2 = .ok (.aload_n 0, 1) := by decide +kernel
theorem dL_takeDown_3 : decode cL_takeDown 3 = .ok (.iload_n 1, 1) := by decide +kernel
theorem dL_takeDown_4 : decode cL_takeDown 4 = .ok (.invokevirtual 76, 3) := by decide +kernel
theorem dL_takeDown_7 : decode cL_takeDown 7 = .ok (.i2l, 1) := by decide +kernel
theorem dL_takeDown_8 : decode cL_takeDown 8 = .ok (.lastore, 1) := by decide +kernel
theorem dL_takeDown_9 : decode cL_takeDown 9 = .ok (.goto 6, 3) := by decide +kernel
theorem dL_takeDown_12 : decode cL_takeDown 12 = .ok (.astore_n 3, 1) := by decide +kernel
theorem dL_takeDown_13 : decode cL_takeDown 13 = .ok (.iconst 1, 1) := by decide +kernel
theorem dL_takeDown_14 : decode cL_takeDown 14 = .ok (.ireturn, 1) := by decide +kernel
theorem dL_takeDown_15 : decode cL_takeDown 15 = .ok (.iconst 0, 1) := by decide +kernel
theorem dL_takeDown_16 : decode cL_takeDown 16 = .ok (.ireturn, 1) := by decide +kernel
set_option maxRecDepth 20000 in
theorem ggL_outOfDate_X3_outOfDate : GoodIn wsL_outOfDate wsX3_outOfDate := goodIn_ca (goodIn_r _ [6, 7, 8, 9, 10, 5, 11, 12, 13, 14, 15, 16, 17, 18, 19, 20, 21, 22, 23, 24, 25, 26, 27, 28, 29, 30, 31, 32, 33, 34, 35, 36, 37, 38, 39, 40, 41, 42, 43, 44, 45, 46, 47, 48, 49, 50] (by decide +kernel) (by decide +kernel)) (goodIn_sub (fun _ h => List.mem_cons_of_mem _ (List.mem_append_right _ h)) (by decide +kernel))
set_option maxRecDepth 20000 in
theorem gL_outOfDate_X3_outOfDate : GoodIn wsL_outOfDate (wsV RL 79 RX3 yX3_outOfDate wsX3_outOfDate) := goodIn_app (goodIn_of _ (by decide +kernel)) ggL_outOfDate_X3_outOfDate
theorem dL_outOfDate_0 : decode cL_outOfDate 0 = .ok (.aload_n 2, 1) := by decide +kernel
theorem dL_outOfDate_1 : decode cL_outOfDate 1 = .ok (.iconst 0, 1) := by decide +kernel
theorem dL_outOfDate_2 : decode cL_outOfDate 2 = .ok (.aload_n 0, 1) := by decide +kernel
theorem dL_outOfDate_3 : decode cL_outOfDate 3 = .ok (.iload_n 1, 1) := by decide +kernel
theorem dL_outOfDate_4 : decode cL_outOfDate 4 = .ok (.invokevirtual 79, 3) := by decide +kernel
theorem dL_outOfDate_7 : decode cL_outOfDate 7 = .ok (.i2l, 1) := by decide +kernel
theorem dL_outOfDate_8 : decode cL_outOfDate 8 = .ok (.lastore, 1) := by decide +kernel
theorem dL_outOfDate_9 : decode cL_outOfDate 9 = .ok (.goto 6, 3) := by decide +kernel
theorem dL_outOfDate_12 : decode cL_outOfDate 12 = .ok (.astore_n 3, 1) := by decide +kernel
theorem dL_outOfDate_13 : decode cL_outOfDate 13 = .ok (.iconst 1, 1) := by decide +kernel
theorem dL_outOfDate_14 : decode cL_outOfDate 14 = .ok (.ireturn, 1) := by decide +kernel
theorem dL_outOfDate_15 : decode cL_outOfDate 15 = .ok (.iconst 0, 1) := by decide +kernel
theorem dL_outOfDate_16 : decode cL_outOfDate 16 = .ok (.ireturn, 1) := by decide +kernel
set_option maxRecDepth 20000 in
theorem ggL_step_X3_step : GoodIn wsL_step wsX3_step := goodIn_ca (goodIn_r _ [6, 7, 8, 9, 10, 11, 5, 12, 13, 14, 15, 16, 17, 18, 19, 20, 21, 22, 23, 24, 25, 26, 27, 28, 29, 30, 31, 32, 33, 34, 35, 36, 37, 38, 39, 40, 41, 42, 43, 44, 45, 46, 47, 48, 49, 50, 51, 52, 53, 54, 55, 56, 57, 58, 59, 60, 61, 62, 63, 64, 65, 66, 67, 68, 69] (by decide +kernel) (by decide +kernel)) (goodIn_sub (fun _ h => List.mem_cons_of_mem _ (List.mem_append_right _ h)) (by decide +kernel))
set_option maxRecDepth 20000 in
theorem gL_step_X3_step : GoodIn wsL_step (wsV RL 82 RX3 yX3_step wsX3_step) := goodIn_app (goodIn_of _ (by decide +kernel)) ggL_step_X3_step
theorem dL_step_0 : decode cL_step 0 = .ok (.aload_n 2, 1) := by decide +kernel
theorem dL_step_1 : decode cL_step 1 = .ok (.iconst 0, 1) := by decide +kernel
theorem dL_step_2 : decode cL_step 2 = .ok (.aload_n 0, 1) := by decide +kernel
theorem dL_step_3 : decode cL_step 3 = .ok (.iload_n 1, 1) := by decide +kernel
theorem dL_step_4 : decode cL_step 4 = .ok (.invokevirtual 82, 3) := by decide +kernel
theorem dL_step_7 : decode cL_step 7 = .ok (.i2l, 1) := by decide +kernel
theorem dL_step_8 : decode cL_step 8 = .ok (.lastore, 1) := by decide +kernel
theorem dL_step_9 : decode cL_step 9 = .ok (.goto 6, 3) := by decide +kernel
theorem dL_step_12 : decode cL_step 12 = .ok (.astore_n 3, 1) := by decide +kernel
theorem dL_step_13 : decode cL_step 13 = .ok (.iconst 1, 1) := by decide +kernel
theorem dL_step_14 : decode cL_step 14 = .ok (.ireturn, 1) := by decide +kernel
theorem dL_step_15 : decode cL_step 15 = .ok (.iconst 0, 1) := by decide +kernel
theorem dL_step_16 : decode cL_step 16 = .ok (.ireturn, 1) := by decide +kernel
set_option maxRecDepth 20000 in
theorem ggL_inForce_X3_inForce : GoodIn wsL_inForce wsX3_inForce := goodIn_ca (goodIn_r _ [6, 7, 8, 9, 5, 10, 11, 12, 13, 14, 15, 16, 17, 18, 19, 20, 21, 22, 23, 24, 25, 26, 27, 28, 29, 30, 31, 32, 33, 34, 35, 36] (by decide +kernel) (by decide +kernel)) (goodIn_sub (fun _ h => List.mem_cons_of_mem _ (List.mem_append_right _ h)) (by decide +kernel))
set_option maxRecDepth 20000 in
theorem gL_inForce_X3_inForce : GoodIn wsL_inForce (wsV RL 85 RX3 yX3_inForce wsX3_inForce) := goodIn_app (goodIn_of _ (by decide +kernel)) ggL_inForce_X3_inForce
theorem dL_inForce_0 : decode cL_inForce 0 = .ok (.aload_n 2, 1) := by decide +kernel
theorem dL_inForce_1 : decode cL_inForce 1 = .ok (.iconst 0, 1) := by decide +kernel
theorem dL_inForce_2 : decode cL_inForce 2 = .ok (.aload_n 0, 1) := by decide +kernel
theorem dL_inForce_3 : decode cL_inForce 3 = .ok (.iload_n 1, 1) := by decide +kernel
theorem dL_inForce_4 : decode cL_inForce 4 = .ok (.invokevirtual 85, 3) := by decide +kernel
theorem dL_inForce_7 : decode cL_inForce 7 = .ok (.i2l, 1) := by decide +kernel
theorem dL_inForce_8 : decode cL_inForce 8 = .ok (.lastore, 1) := by decide +kernel
theorem dL_inForce_9 : decode cL_inForce 9 = .ok (.goto 6, 3) := by decide +kernel
theorem dL_inForce_12 : decode cL_inForce 12 = .ok (.astore_n 3, 1) := by decide +kernel
theorem dL_inForce_13 : decode cL_inForce 13 = .ok (.iconst 1, 1) := by decide +kernel
theorem dL_inForce_14 : decode cL_inForce 14 = .ok (.ireturn, 1) := by decide +kernel
theorem dL_inForce_15 : decode cL_inForce 15 = .ok (.iconst 0, 1) := by decide +kernel
theorem dL_inForce_16 : decode cL_inForce 16 = .ok (.ireturn, 1) := by decide +kernel
set_option maxRecDepth 20000 in
theorem ggL_text_X3_text : GoodIn wsL_text wsX3_text := goodIn_ca (goodIn_r _ [6, 7, 8, 9, 10, 5, 11, 12, 13, 14, 15, 16, 17, 18, 19, 20, 21, 22, 23, 24, 25, 26, 27, 28, 29, 30, 31, 32, 33, 34, 35, 36, 37] (by decide +kernel) (by decide +kernel)) (goodIn_sub (fun _ h => List.mem_cons_of_mem _ (List.mem_append_right _ h)) (by decide +kernel))
set_option maxRecDepth 20000 in
theorem gL_text_X3_text : GoodIn wsL_text (wsV RL 88 RX3 yX3_text wsX3_text) := goodIn_app (goodIn_of _ (by decide +kernel)) ggL_text_X3_text
theorem dL_text_0 : decode cL_text 0 = .ok (.aload_n 2, 1) := by decide +kernel
theorem dL_text_1 : decode cL_text 1 = .ok (.iconst 0, 1) := by decide +kernel
theorem dL_text_2 : decode cL_text 2 = .ok (.aload_n 0, 1) := by decide +kernel
theorem dL_text_3 : decode cL_text 3 = .ok (.iload_n 1, 1) := by decide +kernel
theorem dL_text_4 : decode cL_text 4 = .ok (.invokevirtual 88, 3) := by decide +kernel
theorem dL_text_7 : decode cL_text 7 = .ok (.i2l, 1) := by decide +kernel
theorem dL_text_8 : decode cL_text 8 = .ok (.lastore, 1) := by decide +kernel
theorem dL_text_9 : decode cL_text 9 = .ok (.goto 6, 3) := by decide +kernel
theorem dL_text_12 : decode cL_text 12 = .ok (.astore_n 3, 1) := by decide +kernel
theorem dL_text_13 : decode cL_text 13 = .ok (.iconst 1, 1) := by decide +kernel
theorem dL_text_14 : decode cL_text 14 = .ok (.ireturn, 1) := by decide +kernel
theorem dL_text_15 : decode cL_text 15 = .ok (.iconst 0, 1) := by decide +kernel
theorem dL_text_16 : decode cL_text 16 = .ok (.ireturn, 1) := by decide +kernel
set_option maxRecDepth 20000 in
theorem ggL_inForceOn_X3_inForceOn : GoodIn wsL_inForceOn wsX3_inForceOn := goodIn_ca (goodIn_ca (goodIn_r _ [7, 8, 9, 10, 11, 6, 12, 13, 14, 15, 16, 17, 18, 19, 20, 21, 22, 23, 24, 25, 26, 27, 28, 29, 30, 31, 32, 33, 34, 35, 36, 37, 38, 39, 40, 41, 42, 43, 44] (by decide +kernel) (by decide +kernel)) (goodIn_sub (fun _ h => List.mem_cons_of_mem _ (List.mem_append_left _ (List.mem_append_right _ h))) (by decide +kernel))) (goodIn_sub (fun _ h => List.mem_cons_of_mem _ (List.mem_append_right _ h)) (by decide +kernel))
set_option maxRecDepth 20000 in
theorem gL_inForceOn_X3_inForceOn : GoodIn wsL_inForceOn (wsV RL 91 RX3 yX3_inForceOn wsX3_inForceOn) := goodIn_app (goodIn_of _ (by decide +kernel)) ggL_inForceOn_X3_inForceOn
theorem dL_inForceOn_0 : decode cL_inForceOn 0 = .ok (.aload_n 3, 1) := by decide +kernel
theorem dL_inForceOn_1 : decode cL_inForceOn 1 = .ok (.iconst 0, 1) := by decide +kernel
theorem dL_inForceOn_2 : decode cL_inForceOn 2 = .ok (.aload_n 0, 1) := by decide +kernel
theorem dL_inForceOn_3 : decode cL_inForceOn 3 = .ok (.iload_n 1, 1) := by decide +kernel
theorem dL_inForceOn_4 : decode cL_inForceOn 4 = .ok (.iload_n 2, 1) := by decide +kernel
theorem dL_inForceOn_5 : decode cL_inForceOn 5 = .ok (.invokevirtual 91, 3) := by decide +kernel
theorem dL_inForceOn_8 : decode cL_inForceOn 8 = .ok (.i2l, 1) := by decide +kernel
theorem dL_inForceOn_9 : decode cL_inForceOn 9 = .ok (.lastore, 1) := by decide +kernel
theorem dL_inForceOn_10 : decode cL_inForceOn 10 = .ok (.goto 11, 3) := by decide +kernel
theorem dL_inForceOn_13 : decode cL_inForceOn 13 = .ok (.astore 4, 2) := by decide +kernel
theorem dL_inForceOn_15 : decode cL_inForceOn 15 = .ok (.iconst 1, 1) := by decide +kernel
theorem dL_inForceOn_16 : decode cL_inForceOn 16 = .ok (.ireturn, 1) := by decide +kernel
theorem dL_inForceOn_17 : decode cL_inForceOn 17 = .ok (.astore 4, 2) := by decide +kernel
theorem dL_inForceOn_19 : decode cL_inForceOn 19 = .ok (.iconst 2, 1) := by decide +kernel
theorem dL_inForceOn_20 : decode cL_inForceOn 20 = .ok (.ireturn, 1) := by decide +kernel
theorem dL_inForceOn_21 : decode cL_inForceOn 21 = .ok (.iconst 0, 1) := by decide +kernel
theorem dL_inForceOn_22 : decode cL_inForceOn 22 = .ok (.ireturn, 1) := by decide +kernel
set_option maxRecDepth 20000 in
theorem ggL_since_X3_since : GoodIn wsL_since wsX3_since := goodIn_ca (goodIn_r _ [6, 7, 8, 9, 10, 11, 12, 13, 5, 14, 15, 16, 17, 18, 19, 20, 21, 22, 23, 24, 25, 26, 27, 28, 29, 30, 31, 32] (by decide +kernel) (by decide +kernel)) (goodIn_sub (fun _ h => List.mem_cons_of_mem _ (List.mem_append_right _ h)) (by decide +kernel))
set_option maxRecDepth 20000 in
theorem gL_since_X3_since : GoodIn wsL_since (wsV RL 94 RX3 yX3_since wsX3_since) := goodIn_app (goodIn_of _ (by decide +kernel)) ggL_since_X3_since
theorem dL_since_0 : decode cL_since 0 = .ok (.aload_n 3, 1) := by decide +kernel
theorem dL_since_1 : decode cL_since 1 = .ok (.iconst 0, 1) := by decide +kernel
theorem dL_since_2 : decode cL_since 2 = .ok (.aload_n 0, 1) := by decide +kernel
theorem dL_since_3 : decode cL_since 3 = .ok (.iload_n 1, 1) := by decide +kernel
theorem dL_since_4 : decode cL_since 4 = .ok (.iload_n 2, 1) := by decide +kernel
theorem dL_since_5 : decode cL_since 5 = .ok (.invokevirtual 94, 3) := by decide +kernel
theorem dL_since_8 : decode cL_since 8 = .ok (.i2l, 1) := by decide +kernel
theorem dL_since_9 : decode cL_since 9 = .ok (.lastore, 1) := by decide +kernel
theorem dL_since_10 : decode cL_since 10 = .ok (.goto 7, 3) := by decide +kernel
theorem dL_since_13 : decode cL_since 13 = .ok (.astore 4, 2) := by decide +kernel
theorem dL_since_15 : decode cL_since 15 = .ok (.iconst 1, 1) := by decide +kernel
theorem dL_since_16 : decode cL_since 16 = .ok (.ireturn, 1) := by decide +kernel
theorem dL_since_17 : decode cL_since 17 = .ok (.iconst 0, 1) := by decide +kernel
theorem dL_since_18 : decode cL_since 18 = .ok (.ireturn, 1) := by decide +kernel
set_option maxRecDepth 20000 in
theorem ggL_waitsFor_X3_waitsFor : GoodIn wsL_waitsFor wsX3_waitsFor := goodIn_ca (goodIn_r _ [6, 7, 8, 9, 10, 11, 5, 12, 13, 14, 15, 16, 17, 18, 19, 20, 21, 22, 23, 24, 25, 26, 27, 28, 29, 30, 31, 32, 33, 34, 35, 36, 37, 38, 39, 40, 41, 42, 43, 44, 45, 46, 47, 48, 49, 50, 51, 52, 53, 54, 55, 56, 57, 58, 59, 60, 61, 62, 63, 64, 65, 66, 67, 68, 69, 70, 71, 72, 73, 74] (by decide +kernel) (by decide +kernel)) (goodIn_sub (fun _ h => List.mem_cons_of_mem _ (List.mem_append_right _ h)) (by decide +kernel))
set_option maxRecDepth 20000 in
theorem gL_waitsFor_X3_waitsFor : GoodIn wsL_waitsFor (wsV RL 97 RX3 yX3_waitsFor wsX3_waitsFor) := goodIn_app (goodIn_of _ (by decide +kernel)) ggL_waitsFor_X3_waitsFor
theorem dL_waitsFor_0 : decode cL_waitsFor 0 = .ok (.aload_n 2, 1) := by decide +kernel
theorem dL_waitsFor_1 : decode cL_waitsFor 1 = .ok (.iconst 0, 1) := by decide +kernel
theorem dL_waitsFor_2 : decode cL_waitsFor 2 = .ok (.aload_n 0, 1) := by decide +kernel
theorem dL_waitsFor_3 : decode cL_waitsFor 3 = .ok (.iload_n 1, 1) := by decide +kernel
theorem dL_waitsFor_4 : decode cL_waitsFor 4 = .ok (.invokevirtual 97, 3) := by decide +kernel
theorem dL_waitsFor_7 : decode cL_waitsFor 7 = .ok (.i2l, 1) := by decide +kernel
theorem dL_waitsFor_8 : decode cL_waitsFor 8 = .ok (.lastore, 1) := by decide +kernel
theorem dL_waitsFor_9 : decode cL_waitsFor 9 = .ok (.goto 6, 3) := by decide +kernel
theorem dL_waitsFor_12 : decode cL_waitsFor 12 = .ok (.astore_n 3, 1) := by decide +kernel
theorem dL_waitsFor_13 : decode cL_waitsFor 13 = .ok (.iconst 1, 1) := by decide +kernel
theorem dL_waitsFor_14 : decode cL_waitsFor 14 = .ok (.ireturn, 1) := by decide +kernel
theorem dL_waitsFor_15 : decode cL_waitsFor 15 = .ok (.iconst 0, 1) := by decide +kernel
theorem dL_waitsFor_16 : decode cL_waitsFor 16 = .ok (.ireturn, 1) := by decide +kernel
set_option maxRecDepth 20000 in
theorem ggL_law_X3_init : GoodIn wsL_law wsX3_init := goodIn_r _ [9, 10, 11, 12, 13, 14, 15, 16, 17, 18, 19, 20, 21, 22, 23, 24, 25, 26, 27, 28, 29, 30, 31, 32, 33, 601, 602, 603, 604, 605, 606, 607, 608, 640, 641, 642, 643] (by decide +kernel) (by decide +kernel)
set_option maxRecDepth 20000 in
theorem gL_law_X3_init : GoodIn wsL_law (wsX3_init) := ggL_law_X3_init
set_option maxRecDepth 20000 in
theorem ggL_law_X4_init : GoodIn wsL_law wsX4_init := goodIn_r _ [36, 37, 11, 12, 38, 13, 39, 40, 16, 41, 42, 43, 44, 45, 46, 47, 48, 49, 50, 51, 52, 53, 54, 55, 56, 57, 58, 59, 60, 61, 62, 63, 64, 609, 610, 611, 612, 613, 614, 615, 616, 617, 618, 619, 620, 621, 622, 623, 624, 625, 626, 627, 628, 629, 630, 631, 632, 633, 634, 635, 636, 637, 638, 639] (by decide +kernel) (by decide +kernel)
set_option maxRecDepth 20000 in
theorem gL_law_X4_init : GoodIn wsL_law (wsX4_init) := ggL_law_X4_init
set_option maxRecDepth 20000 in
theorem ggL_law_L_setRoles : GoodIn wsL_law wsL_setRoles := goodIn_ca (goodIn_r _ [68, 69, 70, 71, 72, 2, 73, 14, 15, 74, 75, 76, 77, 78, 79, 80, 81, 601, 602, 603, 604, 605, 606, 607, 608] (by decide +kernel) (by decide +kernel)) (goodIn_sub (fun _ h => List.mem_append_left _ (List.mem_append_left _ (List.mem_append_right _ h))) (by decide +kernel))
set_option maxRecDepth 20000 in
theorem gL_law_L_setRoles : GoodIn wsL_law (va_wsS RL 104 yL_setRoles wsL_setRoles) := goodIn_app (goodIn_of _ (by decide +kernel)) ggL_law_L_setRoles
set_option maxRecDepth 20000 in
theorem ggL_law_X4_setRoles : GoodIn wsL_law wsX4_setRoles := goodIn_r _ [85, 39, 40, 86, 87, 5, 88, 89, 90, 91, 92, 93, 94, 95, 96, 609, 610, 611, 612, 613, 614, 615, 616, 617, 618, 619, 620, 621, 622, 623, 624, 625, 626, 627, 628, 629, 630, 631, 632, 633, 634, 635, 636, 637, 638, 639] (by decide +kernel) (by decide +kernel)
set_option maxRecDepth 20000 in
theorem gL_law_X4_setRoles : GoodIn wsL_law (wsV RL 109 RX4 yX4_setRoles wsX4_setRoles) := goodIn_app (goodIn_of _ (by decide +kernel)) ggL_law_X4_setRoles
set_option maxRecDepth 20000 in
theorem ggL_law_X4_thrown : GoodIn wsL_law wsX4_thrown := goodIn_r _ [100, 96, 609, 610, 611, 612, 613, 614, 615, 616, 617, 618, 619, 620, 621, 622, 623, 624, 625, 626, 627, 628, 629, 630, 631, 632, 633, 634, 635, 636, 637, 638, 639] (by decide +kernel) (by decide +kernel)
set_option maxRecDepth 20000 in
theorem gL_law_X4_thrown : GoodIn wsL_law (wsV RL 110 RX4 yX4_thrown wsX4_thrown) := goodIn_app (goodIn_of _ (by decide +kernel)) ggL_law_X4_thrown
set_option maxRecDepth 20000 in
theorem ggL_law_L_setDeputy : GoodIn wsL_law wsL_setDeputy := goodIn_ca (goodIn_r _ [103, 69, 104, 105, 106, 2, 107, 80, 81, 17, 74, 75, 76, 77, 78, 79, 601, 602, 603, 604, 605, 606, 607, 608] (by decide +kernel) (by decide +kernel)) (goodIn_sub (fun _ h => List.mem_append_left _ (List.mem_append_left _ (List.mem_append_right _ h))) (by decide +kernel))
set_option maxRecDepth 20000 in
theorem gL_law_L_setDeputy : GoodIn wsL_law (va_wsS RL 114 yL_setDeputy wsL_setDeputy) := goodIn_app (goodIn_of _ (by decide +kernel)) ggL_law_L_setDeputy
set_option maxRecDepth 20000 in
theorem ggL_law_X4_setDeputy : GoodIn wsL_law wsX4_setDeputy := goodIn_r _ [111, 41, 86, 87, 5, 88, 89, 90, 91, 92, 93, 94, 95, 96, 609, 610, 611, 612, 613, 614, 615, 616, 617, 618, 619, 620, 621, 622, 623, 624, 625, 626, 627, 628, 629, 630, 631, 632, 633, 634, 635, 636, 637, 638, 639] (by decide +kernel) (by decide +kernel)
set_option maxRecDepth 20000 in
theorem gL_law_X4_setDeputy : GoodIn wsL_law (wsV RL 117 RX4 yX4_setDeputy wsX4_setDeputy) := goodIn_app (goodIn_of _ (by decide +kernel)) ggL_law_X4_setDeputy
set_option maxRecDepth 20000 in
theorem ggL_law_L_open : GoodIn wsL_law wsL_open := goodIn_ca (goodIn_r _ [114, 115, 116, 117, 118, 2, 119, 120, 121, 24, 19, 18, 122, 123, 124, 125, 126, 127, 11, 12, 128, 13, 129, 130, 131, 132, 133, 16, 134, 135, 136, 137, 138, 139, 140, 141, 142, 143, 144, 601, 602, 603, 604, 605, 606, 607, 608, 644, 645, 646, 647, 648, 649, 650, 651, 652, 653, 654, 655, 656, 657, 658, 659, 660, 661, 662, 663, 664] (by decide +kernel) (by decide +kernel)) (goodIn_sub (fun _ h => List.mem_append_left _ (List.mem_append_right _ h)) (by decide +kernel))
set_option maxRecDepth 20000 in
theorem gL_law_L_open : GoodIn wsL_law (va_wsS RL 118 yL_open wsL_open) := goodIn_app (goodIn_of _ (by decide +kernel)) ggL_law_L_open
set_option maxRecDepth 20000 in
theorem ggL_law_X4_open : GoodIn wsL_law wsX4_open := goodIn_r _ [148, 149, 42, 92, 93, 94, 5, 95, 96, 609, 610, 611, 612, 613, 614, 615, 616, 617, 618, 619, 620, 621, 622, 623, 624, 625, 626, 627, 628, 629, 630, 631, 632, 633, 634, 635, 636, 637, 638, 639] (by decide +kernel) (by decide +kernel)
set_option maxRecDepth 20000 in
theorem gL_law_X4_open : GoodIn wsL_law (wsV RL 121 RX4 yX4_open wsX4_open) := goodIn_app (goodIn_of _ (by decide +kernel)) ggL_law_X4_open
set_option maxRecDepth 20000 in
theorem ggL_law_L_hang : GoodIn wsL_law wsL_hang := goodIn_ca (goodIn_ca (goodIn_r _ [152, 153, 69, 154, 155, 156, 2, 157, 80, 81, 158, 159, 160, 161, 162, 163, 164, 19, 165, 166, 167, 644, 645, 646, 647, 648, 649, 650, 651, 652, 601, 602, 603, 604, 605, 606, 607, 608] (by decide +kernel) (by decide +kernel)) (goodIn_sub (fun _ h => List.mem_append_left _ (List.mem_append_left _ (List.mem_append_right _ h))) (by decide +kernel))) (goodIn_sub (fun _ h => List.mem_append_right _ h) (by decide +kernel))
set_option maxRecDepth 20000 in
theorem gL_law_L_hang : GoodIn wsL_law (va_wsS RL 122 yL_hang wsL_hang) := goodIn_app (goodIn_of _ (by decide +kernel)) ggL_law_L_hang
set_option maxRecDepth 20000 in
theorem ggL_law_X4_hang : GoodIn wsL_law wsX4_hang := goodIn_r _ [171, 43, 149, 172, 173, 174, 5, 175, 89, 90, 91, 92, 93, 94, 95, 96, 609, 610, 611, 612, 613, 614, 615, 616, 617, 618, 619, 620, 621, 622, 623, 624, 625, 626, 627, 628, 629, 630, 631, 632, 633, 634, 635, 636, 637, 638, 639] (by decide +kernel) (by decide +kernel)
set_option maxRecDepth 20000 in
theorem gL_law_X4_hang : GoodIn wsL_law (wsV RL 124 RX4 yX4_hang wsX4_hang) := goodIn_app (goodIn_of _ (by decide +kernel)) ggL_law_X4_hang
set_option maxRecDepth 20000 in
theorem ggL_law_L_setInterval : GoodIn wsL_law wsL_setInterval := goodIn_ca (goodIn_r _ [178, 69, 179, 180, 181, 2, 182, 25, 77, 78, 79, 80, 81, 601, 602, 603, 604, 605, 606, 607, 608] (by decide +kernel) (by decide +kernel)) (goodIn_sub (fun _ h => List.mem_append_left _ (List.mem_append_left _ (List.mem_append_right _ h))) (by decide +kernel))
set_option maxRecDepth 20000 in
theorem gL_law_L_setInterval : GoodIn wsL_law (va_wsS RL 125 yL_setInterval wsL_setInterval) := goodIn_app (goodIn_of _ (by decide +kernel)) ggL_law_L_setInterval
set_option maxRecDepth 20000 in
theorem ggL_law_X4_setInterval : GoodIn wsL_law wsX4_setInterval := goodIn_r _ [186, 38, 89, 90, 5, 91, 92, 93, 94, 95, 96, 609, 610, 611, 612, 613, 614, 615, 616, 617, 618, 619, 620, 621, 622, 623, 624, 625, 626, 627, 628, 629, 630, 631, 632, 633, 634, 635, 636, 637, 638, 639] (by decide +kernel) (by decide +kernel)
set_option maxRecDepth 20000 in
theorem gL_law_X4_setInterval : GoodIn wsL_law (wsV RL 128 RX4 yX4_setInterval wsX4_setInterval) := goodIn_app (goodIn_of _ (by decide +kernel)) ggL_law_X4_setInterval
set_option maxRecDepth 20000 in
theorem ggL_law_L_draft : GoodIn wsL_law wsL_draft := goodIn_ca (goodIn_ca (goodIn_ca (goodIn_r _ [189, 153, 69, 115, 190, 191, 192, 2, 193, 120, 121, 194, 195, 159, 160, 161, 162, 163, 164, 19, 74, 75, 76, 77, 78, 79, 80, 81, 196, 197, 198, 132, 199, 200, 201, 202, 203, 143, 204, 205, 206, 207, 208, 209, 141, 144, 644, 645, 646, 647, 648, 649, 650, 651, 652, 601, 602, 603, 604, 605, 606, 607, 608, 653, 654, 655, 656, 657, 658, 659, 660, 661, 662, 663, 664] (by decide +kernel) (by decide +kernel)) (goodIn_sub (fun _ h => List.mem_append_left _ (List.mem_append_right _ h)) (by decide +kernel))) (goodIn_sub (fun _ h => List.mem_append_right _ h) (by decide +kernel))) (goodIn_sub (fun _ h => List.mem_append_left _ (List.mem_append_left _ (List.mem_append_right _ h))) (by decide +kernel))
set_option maxRecDepth 20000 in
theorem gL_law_L_draft : GoodIn wsL_law (va_wsS RL 129 yL_draft wsL_draft) := goodIn_app (goodIn_of _ (by decide +kernel)) ggL_law_L_draft
set_option maxRecDepth 20000 in
theorem ggL_law_X4_draft : GoodIn wsL_law wsX4_draft := goodIn_r _ [213, 44, 45, 46, 47, 48, 55, 86, 87, 5, 88, 89, 90, 91, 172, 173, 174, 175, 149, 92, 93, 94, 95, 96, 214, 215, 216, 217, 50, 52, 56, 51, 53, 609, 610, 611, 612, 613, 614, 615, 616, 617, 618, 619, 620, 621, 622, 623, 624, 625, 626, 627, 628, 629, 630, 631, 632, 633, 634, 635, 636, 637, 638, 639] (by decide +kernel) (by decide +kernel)
set_option maxRecDepth 20000 in
theorem gL_law_X4_draft : GoodIn wsL_law (wsV RL 132 RX4 yX4_draft wsX4_draft) := goodIn_app (goodIn_of _ (by decide +kernel)) ggL_law_X4_draft
set_option maxRecDepth 20000 in
theorem ggL_law_L_change : GoodIn wsL_law wsL_change := goodIn_ca (goodIn_ca (goodIn_ca (goodIn_r _ [220, 153, 69, 115, 221, 222, 223, 2, 224, 120, 121, 225, 226, 159, 160, 161, 162, 163, 164, 19, 77, 78, 79, 80, 81, 227, 228, 229, 194, 195, 230, 205, 206, 132, 207, 202, 208, 209, 141, 144, 653, 654, 655, 656, 657, 658, 659, 660, 661, 662, 663, 664, 601, 602, 603, 604, 605, 606, 607, 608, 644, 645, 646, 647, 648, 649, 650, 651, 652] (by decide +kernel) (by decide +kernel)) (goodIn_sub (fun _ h => List.mem_append_left _ (List.mem_append_right _ h)) (by decide +kernel))) (goodIn_sub (fun _ h => List.mem_append_right _ h) (by decide +kernel))) (goodIn_sub (fun _ h => List.mem_append_left _ (List.mem_append_left _ (List.mem_append_right _ h))) (by decide +kernel))
set_option maxRecDepth 20000 in
theorem gL_law_L_change : GoodIn wsL_law (va_wsS RL 133 yL_change wsL_change) := goodIn_app (goodIn_of _ (by decide +kernel)) ggL_law_L_change
set_option maxRecDepth 20000 in
theorem ggL_law_X4_change : GoodIn wsL_law wsX4_change := goodIn_r _ [234, 44, 46, 47, 172, 173, 174, 5, 175, 149, 89, 90, 91, 92, 93, 94, 95, 96, 214, 215, 216, 217, 50, 52, 56, 51, 53, 609, 610, 611, 612, 613, 614, 615, 616, 617, 618, 619, 620, 621, 622, 623, 624, 625, 626, 627, 628, 629, 630, 631, 632, 633, 634, 635, 636, 637, 638, 639] (by decide +kernel) (by decide +kernel)
set_option maxRecDepth 20000 in
theorem gL_law_X4_change : GoodIn wsL_law (wsV RL 135 RX4 yX4_change wsX4_change) := goodIn_app (goodIn_of _ (by decide +kernel)) ggL_law_X4_change
set_option maxRecDepth 20000 in
theorem ggL_law_L_drop : GoodIn wsL_law wsL_drop := goodIn_ca (goodIn_ca (goodIn_r _ [237, 153, 115, 238, 239, 240, 2, 241, 194, 225, 159, 160, 161, 162, 163, 164, 19, 227, 228, 229, 120, 121, 195, 644, 645, 646, 647, 648, 649, 650, 651, 652, 653, 654, 655, 656, 657, 658, 659, 660, 661, 662, 663, 664, 601, 602, 603, 604, 605, 606, 607, 608] (by decide +kernel) (by decide +kernel)) (goodIn_sub (fun _ h => List.mem_append_right _ h) (by decide +kernel))) (goodIn_sub (fun _ h => List.mem_append_left _ (List.mem_append_right _ h)) (by decide +kernel))
set_option maxRecDepth 20000 in
theorem gL_law_L_drop : GoodIn wsL_law (va_wsS RL 136 yL_drop wsL_drop) := goodIn_app (goodIn_of _ (by decide +kernel)) ggL_law_L_drop
set_option maxRecDepth 20000 in
theorem ggL_law_X4_drop : GoodIn wsL_law wsX4_drop := goodIn_r _ [245, 44, 46, 172, 173, 174, 5, 175, 149, 89, 90, 91, 92, 93, 94, 95, 96, 609, 610, 611, 612, 613, 614, 615, 616, 617, 618, 619, 620, 621, 622, 623, 624, 625, 626, 627, 628, 629, 630, 631, 632, 633, 634, 635, 636, 637, 638, 639] (by decide +kernel) (by decide +kernel)
set_option maxRecDepth 20000 in
theorem gL_law_X4_drop : GoodIn wsL_law (wsV RL 138 RX4 yX4_drop wsX4_drop) := goodIn_app (goodIn_of _ (by decide +kernel)) ggL_law_X4_drop
set_option maxRecDepth 20000 in
theorem ggL_law_L_reviewer : GoodIn wsL_law wsL_reviewer := goodIn_ca (goodIn_ca (goodIn_ca (goodIn_r _ [248, 153, 69, 115, 249, 250, 251, 2, 252, 120, 121, 253, 254, 14, 255, 256, 159, 160, 161, 162, 163, 164, 19, 74, 75, 76, 77, 78, 79, 80, 81, 227, 228, 229, 194, 195, 257, 258, 259, 132, 260, 203, 140, 653, 654, 655, 656, 657, 658, 659, 660, 661, 662, 663, 664, 601, 602, 603, 604, 605, 606, 607, 608, 644, 645, 646, 647, 648, 649, 650, 651, 652] (by decide +kernel) (by decide +kernel)) (goodIn_sub (fun _ h => List.mem_append_left _ (List.mem_append_right _ h)) (by decide +kernel))) (goodIn_sub (fun _ h => List.mem_append_right _ h) (by decide +kernel))) (goodIn_sub (fun _ h => List.mem_append_left _ (List.mem_append_left _ (List.mem_append_right _ h))) (by decide +kernel))
set_option maxRecDepth 20000 in
theorem gL_law_L_reviewer : GoodIn wsL_law (va_wsS RL 139 yL_reviewer wsL_reviewer) := goodIn_app (goodIn_of _ (by decide +kernel)) ggL_law_L_reviewer
set_option maxRecDepth 20000 in
theorem ggL_law_X4_reviewer : GoodIn wsL_law wsX4_reviewer := goodIn_r _ [264, 44, 53, 45, 39, 48, 49, 50, 172, 173, 174, 5, 175, 149, 89, 90, 91, 86, 87, 88, 265, 266, 267, 268, 92, 93, 94, 95, 96, 609, 610, 611, 612, 613, 614, 615, 616, 617, 618, 619, 620, 621, 622, 623, 624, 625, 626, 627, 628, 629, 630, 631, 632, 633, 634, 635, 636, 637, 638, 639] (by decide +kernel) (by decide +kernel)
set_option maxRecDepth 20000 in
theorem gL_law_X4_reviewer : GoodIn wsL_law (wsV RL 141 RX4 yX4_reviewer wsX4_reviewer) := goodIn_app (goodIn_of _ (by decide +kernel)) ggL_law_X4_reviewer
set_option maxRecDepth 20000 in
theorem ggL_law_L_reader : GoodIn wsL_law wsL_reader := goodIn_ca (goodIn_ca (goodIn_ca (goodIn_r _ [271, 153, 69, 115, 272, 273, 274, 2, 275, 120, 121, 276, 159, 160, 161, 162, 163, 164, 19, 74, 75, 76, 77, 78, 79, 80, 81, 227, 228, 229, 194, 195, 165, 166, 167, 653, 654, 655, 656, 657, 658, 659, 660, 661, 662, 663, 664, 601, 602, 603, 604, 605, 606, 607, 608, 644, 645, 646, 647, 648, 649, 650, 651, 652] (by decide +kernel) (by decide +kernel)) (goodIn_sub (fun _ h => List.mem_append_left _ (List.mem_append_right _ h)) (by decide +kernel))) (goodIn_sub (fun _ h => List.mem_append_right _ h) (by decide +kernel))) (goodIn_sub (fun _ h => List.mem_append_left _ (List.mem_append_left _ (List.mem_append_right _ h))) (by decide +kernel))
set_option maxRecDepth 20000 in
theorem gL_law_L_reader : GoodIn wsL_law (va_wsS RL 142 yL_reader wsL_reader) := goodIn_app (goodIn_of _ (by decide +kernel)) ggL_law_L_reader
set_option maxRecDepth 20000 in
theorem ggL_law_X4_reader : GoodIn wsL_law wsX4_reader := goodIn_r _ [280, 44, 55, 172, 173, 174, 5, 175, 149, 89, 90, 91, 86, 87, 88, 92, 93, 94, 95, 96, 281, 282, 283, 284, 609, 610, 611, 612, 613, 614, 615, 616, 617, 618, 619, 620, 621, 622, 623, 624, 625, 626, 627, 628, 629, 630, 631, 632, 633, 634, 635, 636, 637, 638, 639] (by decide +kernel) (by decide +kernel)
set_option maxRecDepth 20000 in
theorem gL_law_X4_reader : GoodIn wsL_law (wsV RL 144 RX4 yX4_reader wsX4_reader) := goodIn_app (goodIn_of _ (by decide +kernel)) ggL_law_X4_reader
set_option maxRecDepth 20000 in
theorem ggL_law_L_review : GoodIn wsL_law wsL_review := goodIn_ca (goodIn_ca (goodIn_ca (goodIn_r _ [287, 153, 69, 115, 288, 289, 290, 2, 291, 120, 121, 292, 293, 159, 160, 161, 162, 163, 164, 19, 74, 75, 76, 77, 78, 79, 80, 81, 227, 228, 229, 194, 195, 257, 258, 259, 132, 260, 203, 140, 294, 295, 296, 297, 141, 298, 299, 300, 301, 208, 142, 653, 654, 655, 656, 657, 658, 659, 660, 661, 662, 663, 664, 644, 645, 646, 647, 648, 649, 650, 651, 652, 601, 602, 603, 604, 605, 606, 607, 608] (by decide +kernel) (by decide +kernel)) (goodIn_sub (fun _ h => List.mem_append_left _ (List.mem_append_right _ h)) (by decide +kernel))) (goodIn_sub (fun _ h => List.mem_append_right _ h) (by decide +kernel))) (goodIn_sub (fun _ h => List.mem_append_left _ (List.mem_append_left _ (List.mem_append_right _ h))) (by decide +kernel))
set_option maxRecDepth 20000 in
theorem gL_law_L_review : GoodIn wsL_law (va_wsS RL 145 yL_review wsL_review) := goodIn_app (goodIn_of _ (by decide +kernel)) ggL_law_L_review
set_option maxRecDepth 20000 in
theorem ggL_law_X4_review : GoodIn wsL_law wsX4_review := goodIn_r _ [305, 44, 50, 42, 51, 172, 173, 174, 5, 175, 149, 89, 90, 91, 86, 87, 88, 265, 266, 267, 268, 48, 49, 306, 307, 308, 309, 92, 93, 94, 95, 96, 609, 610, 611, 612, 613, 614, 615, 616, 617, 618, 619, 620, 621, 622, 623, 624, 625, 626, 627, 628, 629, 630, 631, 632, 633, 634, 635, 636, 637, 638, 639] (by decide +kernel) (by decide +kernel)
set_option maxRecDepth 20000 in
theorem gL_law_X4_review : GoodIn wsL_law (wsV RL 148 RX4 yX4_review wsX4_review) := goodIn_app (goodIn_of _ (by decide +kernel)) ggL_law_X4_review
set_option maxRecDepth 20000 in
theorem ggL_law_L_answer : GoodIn wsL_law wsL_answer := goodIn_ca (goodIn_ca (goodIn_r _ [312, 153, 115, 313, 314, 315, 2, 316, 163, 164, 120, 121, 317, 318, 159, 160, 161, 162, 19, 227, 228, 229, 194, 195, 319, 320, 321, 132, 322, 208, 142, 653, 654, 655, 656, 657, 658, 659, 660, 661, 662, 663, 664, 601, 602, 603, 604, 605, 606, 607, 608, 644, 645, 646, 647, 648, 649, 650, 651, 652] (by decide +kernel) (by decide +kernel)) (goodIn_sub (fun _ h => List.mem_append_right _ h) (by decide +kernel))) (goodIn_sub (fun _ h => List.mem_append_left _ (List.mem_append_right _ h)) (by decide +kernel))
set_option maxRecDepth 20000 in
theorem gL_law_L_answer : GoodIn wsL_law (va_wsS RL 149 yL_answer wsL_answer) := goodIn_app (goodIn_of _ (by decide +kernel)) ggL_law_L_answer
set_option maxRecDepth 20000 in
theorem ggL_law_X4_answer : GoodIn wsL_law wsX4_answer := goodIn_r _ [326, 44, 51, 52, 172, 173, 174, 5, 175, 149, 89, 90, 91, 92, 93, 94, 95, 96, 327, 328, 329, 330, 281, 282, 283, 284, 609, 610, 611, 612, 613, 614, 615, 616, 617, 618, 619, 620, 621, 622, 623, 624, 625, 626, 627, 628, 629, 630, 631, 632, 633, 634, 635, 636, 637, 638, 639] (by decide +kernel) (by decide +kernel)
set_option maxRecDepth 20000 in
theorem gL_law_X4_answer : GoodIn wsL_law (wsV RL 151 RX4 yX4_answer wsX4_answer) := goodIn_app (goodIn_of _ (by decide +kernel)) ggL_law_X4_answer
set_option maxRecDepth 20000 in
theorem ggL_law_L_approve : GoodIn wsL_law wsL_approve := goodIn_ca (goodIn_ca (goodIn_ca (goodIn_r _ [333, 153, 69, 115, 334, 335, 336, 2, 337, 120, 121, 26, 254, 253, 338, 159, 160, 161, 162, 163, 164, 19, 74, 75, 76, 77, 78, 79, 80, 81, 227, 228, 229, 194, 195, 339, 340, 341, 132, 342, 203, 209, 343, 295, 296, 297, 141, 140, 344, 320, 321, 322, 208, 142, 345, 346, 347, 348, 143, 144, 349, 350, 351, 352, 15, 17, 601, 602, 603, 604, 605, 606, 607, 608, 653, 654, 655, 656, 657, 658, 659, 660, 661, 662, 663, 664, 644, 645, 646, 647, 648, 649, 650, 651, 652] (by decide +kernel) (by decide +kernel)) (goodIn_sub (fun _ h => List.mem_append_left _ (List.mem_append_right _ h)) (by decide +kernel))) (goodIn_sub (fun _ h => List.mem_append_right _ h) (by decide +kernel))) (goodIn_sub (fun _ h => List.mem_append_left _ (List.mem_append_left _ (List.mem_append_right _ h))) (by decide +kernel))
set_option maxRecDepth 20000 in
theorem gL_law_L_approve : GoodIn wsL_law (va_wsS RL 152 yL_approve wsL_approve) := goodIn_app (goodIn_of _ (by decide +kernel)) ggL_law_L_approve
set_option maxRecDepth 20000 in
theorem ggL_law_X4_approve : GoodIn wsL_law wsX4_approve := goodIn_r _ [356, 357, 44, 53, 54, 172, 173, 174, 5, 175, 149, 89, 90, 91, 86, 87, 88, 358, 359, 360, 361, 48, 306, 307, 308, 309, 50, 49, 327, 328, 329, 330, 51, 52, 281, 282, 283, 284, 362, 363, 364, 365, 40, 41, 45, 92, 93, 94, 95, 96, 609, 610, 611, 612, 613, 614, 615, 616, 617, 618, 619, 620, 621, 622, 623, 624, 625, 626, 627, 628, 629, 630, 631, 632, 633, 634, 635, 636, 637, 638, 639] (by decide +kernel) (by decide +kernel)
set_option maxRecDepth 20000 in
theorem gL_law_X4_approve : GoodIn wsL_law (wsV RL 154 RX4 yX4_approve wsX4_approve) := goodIn_app (goodIn_of _ (by decide +kernel)) ggL_law_X4_approve
set_option maxRecDepth 20000 in
theorem ggL_law_L_confirm : GoodIn wsL_law wsL_confirm := goodIn_ca (goodIn_ca (goodIn_ca (goodIn_r _ [368, 153, 69, 115, 369, 370, 371, 2, 372, 120, 121, 253, 276, 373, 159, 160, 161, 162, 163, 164, 19, 74, 75, 76, 77, 78, 79, 80, 81, 227, 228, 229, 194, 195, 165, 166, 167, 653, 654, 655, 656, 657, 658, 659, 660, 661, 662, 663, 664, 601, 602, 603, 604, 605, 606, 607, 608, 644, 645, 646, 647, 648, 649, 650, 651, 652] (by decide +kernel) (by decide +kernel)) (goodIn_sub (fun _ h => List.mem_append_left _ (List.mem_append_right _ h)) (by decide +kernel))) (goodIn_sub (fun _ h => List.mem_append_right _ h) (by decide +kernel))) (goodIn_sub (fun _ h => List.mem_append_left _ (List.mem_append_left _ (List.mem_append_right _ h))) (by decide +kernel))
set_option maxRecDepth 20000 in
theorem gL_law_L_confirm : GoodIn wsL_law (va_wsS RL 155 yL_confirm wsL_confirm) := goodIn_app (goodIn_of _ (by decide +kernel)) ggL_law_L_confirm
set_option maxRecDepth 20000 in
theorem ggL_law_X4_confirm : GoodIn wsL_law wsX4_confirm := goodIn_r _ [377, 44, 53, 55, 56, 172, 173, 174, 5, 175, 149, 89, 90, 91, 86, 87, 88, 92, 93, 94, 95, 96, 281, 282, 283, 284, 609, 610, 611, 612, 613, 614, 615, 616, 617, 618, 619, 620, 621, 622, 623, 624, 625, 626, 627, 628, 629, 630, 631, 632, 633, 634, 635, 636, 637, 638, 639] (by decide +kernel) (by decide +kernel)
set_option maxRecDepth 20000 in
theorem gL_law_X4_confirm : GoodIn wsL_law (wsV RL 157 RX4 yX4_confirm wsX4_confirm) := goodIn_app (goodIn_of _ (by decide +kernel)) ggL_law_X4_confirm
set_option maxRecDepth 20000 in
theorem ggL_law_L_pass : GoodIn wsL_law wsL_pass := goodIn_ca (goodIn_ca (goodIn_r _ [380, 69, 115, 381, 382, 383, 2, 384, 120, 121, 26, 77, 78, 79, 80, 81, 385, 386, 387, 388, 19, 389, 390, 391, 123, 392, 393, 133, 394, 134, 395, 135, 396, 397, 398, 132, 399, 400, 401, 340, 341, 342, 203, 209, 343, 295, 296, 297, 141, 140, 344, 320, 321, 322, 208, 142, 345, 346, 347, 348, 143, 144, 402, 403, 404, 405, 406, 407, 408, 409, 410, 411, 158, 412, 413, 414, 415, 416, 601, 602, 603, 604, 605, 606, 607, 608, 644, 645, 646, 647, 648, 649, 650, 651, 652, 653, 654, 655, 656, 657, 658, 659, 660, 661, 662, 663, 664] (by decide +kernel) (by decide +kernel)) (goodIn_sub (fun _ h => List.mem_append_left _ (List.mem_append_right _ h)) (by decide +kernel))) (goodIn_sub (fun _ h => List.mem_append_left _ (List.mem_append_left _ (List.mem_append_right _ h))) (by decide +kernel))
set_option maxRecDepth 20000 in
theorem gL_law_L_pass : GoodIn wsL_law (va_wsS RL 158 yL_pass wsL_pass) := goodIn_app (goodIn_of _ (by decide +kernel)) ggL_law_L_pass
set_option maxRecDepth 20000 in
theorem ggL_law_X4_pass : GoodIn wsL_law wsX4_pass := goodIn_r _ [420, 357, 149, 44, 53, 54, 89, 90, 5, 91, 92, 93, 94, 95, 96, 421, 422, 423, 424, 55, 56, 425, 426, 427, 428, 58, 57, 59, 46, 60, 61, 43, 609, 610, 611, 612, 613, 614, 615, 616, 617, 618, 619, 620, 621, 622, 623, 624, 625, 626, 627, 628, 629, 630, 631, 632, 633, 634, 635, 636, 637, 638, 639] (by decide +kernel) (by decide +kernel)
set_option maxRecDepth 20000 in
theorem gL_law_X4_pass : GoodIn wsL_law (wsV RL 160 RX4 yX4_pass wsX4_pass) := goodIn_app (goodIn_of _ (by decide +kernel)) ggL_law_X4_pass
set_option maxRecDepth 20000 in
theorem ggL_law_L_look : GoodIn wsL_law wsL_look := goodIn_ca (goodIn_ca (goodIn_r _ [431, 153, 115, 432, 433, 434, 2, 435, 26, 25, 159, 160, 161, 162, 163, 164, 19, 436, 437, 438, 120, 121, 413, 414, 415, 123, 416, 394, 439, 440, 441, 442, 406, 407, 443, 403, 404, 405, 601, 602, 603, 604, 605, 606, 607, 608, 644, 645, 646, 647, 648, 649, 650, 651, 652] (by decide +kernel) (by decide +kernel)) (goodIn_sub (fun _ h => List.mem_append_right _ h) (by decide +kernel))) (goodIn_sub (fun _ h => List.mem_append_left _ (List.mem_append_right _ h)) (by decide +kernel))
set_option maxRecDepth 20000 in
theorem gL_law_L_look : GoodIn wsL_law (va_wsS RL 161 yL_look wsL_look) := goodIn_app (goodIn_of _ (by decide +kernel)) ggL_law_L_look
set_option maxRecDepth 20000 in
theorem ggL_law_X4_look : GoodIn wsL_law wsX4_look := goodIn_r _ [447, 57, 60, 61, 357, 172, 173, 174, 5, 175, 149, 89, 90, 91, 92, 93, 94, 95, 96, 448, 449, 450, 451, 38, 609, 610, 611, 612, 613, 614, 615, 616, 617, 618, 619, 620, 621, 622, 623, 624, 625, 626, 627, 628, 629, 630, 631, 632, 633, 634, 635, 636, 637, 638, 639] (by decide +kernel) (by decide +kernel)
set_option maxRecDepth 20000 in
theorem gL_law_X4_look : GoodIn wsL_law (wsV RL 163 RX4 yX4_look wsX4_look) := goodIn_app (goodIn_of _ (by decide +kernel)) ggL_law_X4_look
set_option maxRecDepth 20000 in
theorem ggL_law_L_isDue : GoodIn wsL_law wsL_isDue := goodIn_ca (goodIn_r _ [454, 153, 455, 456, 457, 2, 458, 26, 25, 159, 160, 161, 162, 163, 164, 19, 439, 440, 441, 123, 442, 394, 406, 407, 601, 602, 603, 604, 605, 606, 607, 608, 644, 645, 646, 647, 648, 649, 650, 651, 652] (by decide +kernel) (by decide +kernel)) (goodIn_sub (fun _ h => List.mem_append_right _ h) (by decide +kernel))
set_option maxRecDepth 20000 in
theorem gL_law_L_isDue : GoodIn wsL_law (va_wsS RL 164 yL_isDue wsL_isDue) := goodIn_app (goodIn_of _ (by decide +kernel)) ggL_law_L_isDue
set_option maxRecDepth 20000 in
theorem ggL_law_X4_isDue : GoodIn wsL_law wsX4_isDue := goodIn_r _ [462, 463, 464, 465, 5, 466, 172, 173, 174, 175, 149, 89, 90, 91, 92, 93, 94, 95, 96, 448, 449, 450, 451, 57, 60, 357, 61, 38, 609, 610, 611, 612, 613, 614, 615, 616, 617, 618, 619, 620, 621, 622, 623, 624, 625, 626, 627, 628, 629, 630, 631, 632, 633, 634, 635, 636, 637, 638, 639] (by decide +kernel) (by decide +kernel)
set_option maxRecDepth 20000 in
theorem gL_law_X4_isDue : GoodIn wsL_law (wsV RL 166 RX4 yX4_isDue wsX4_isDue) := goodIn_app (goodIn_of _ (by decide +kernel)) ggL_law_X4_isDue
set_option maxRecDepth 20000 in
theorem ggL_law_L_copy : GoodIn wsL_law wsL_copy := goodIn_ca (goodIn_ca (goodIn_ca (goodIn_r _ [469, 153, 69, 115, 470, 471, 472, 2, 473, 120, 121, 23, 474, 159, 160, 161, 162, 163, 164, 19, 77, 78, 79, 80, 81, 436, 437, 438, 413, 414, 415, 123, 416, 394, 475, 476, 477, 22, 478, 479, 31, 32, 33, 601, 602, 603, 604, 605, 606, 607, 608, 640, 641, 642, 643, 644, 645, 646, 647, 648, 649, 650, 651, 652] (by decide +kernel) (by decide +kernel)) (goodIn_sub (fun _ h => List.mem_append_left _ (List.mem_append_right _ h)) (by decide +kernel))) (goodIn_sub (fun _ h => List.mem_append_right _ h) (by decide +kernel))) (goodIn_sub (fun _ h => List.mem_append_left _ (List.mem_append_left _ (List.mem_append_right _ h))) (by decide +kernel))
set_option maxRecDepth 20000 in
theorem gL_law_L_copy : GoodIn wsL_law (va_wsS RL 167 yL_copy wsL_copy) := goodIn_app (goodIn_of _ (by decide +kernel)) ggL_law_L_copy
set_option maxRecDepth 20000 in
theorem ggL_law_X4_copy : GoodIn wsL_law wsX4_copy := goodIn_r _ [483, 57, 484, 62, 63, 64, 172, 173, 174, 5, 175, 149, 89, 90, 91, 92, 93, 94, 95, 96, 609, 610, 611, 612, 613, 614, 615, 616, 617, 618, 619, 620, 621, 622, 623, 624, 625, 626, 627, 628, 629, 630, 631, 632, 633, 634, 635, 636, 637, 638, 639] (by decide +kernel) (by decide +kernel)
set_option maxRecDepth 20000 in
theorem gL_law_X4_copy : GoodIn wsL_law (wsV RL 169 RX4 yX4_copy wsX4_copy) := goodIn_app (goodIn_of _ (by decide +kernel)) ggL_law_X4_copy
set_option maxRecDepth 20000 in
theorem ggL_law_L_takeDown : GoodIn wsL_law wsL_takeDown := goodIn_ca (goodIn_r _ [487, 153, 488, 489, 490, 2, 491, 163, 164, 23, 474, 492, 601, 602, 603, 604, 605, 606, 607, 608, 640, 641, 642, 643] (by decide +kernel) (by decide +kernel)) (goodIn_sub (fun _ h => List.mem_append_right _ h) (by decide +kernel))
set_option maxRecDepth 20000 in
theorem gL_law_L_takeDown : GoodIn wsL_law (va_wsS RL 170 yL_takeDown wsL_takeDown) := goodIn_app (goodIn_of _ (by decide +kernel)) ggL_law_L_takeDown
set_option maxRecDepth 20000 in
theorem ggL_law_X4_takeDown : GoodIn wsL_law wsX4_takeDown := goodIn_r _ [496, 484, 64, 89, 90, 5, 91, 92, 93, 94, 95, 96, 609, 610, 611, 612, 613, 614, 615, 616, 617, 618, 619, 620, 621, 622, 623, 624, 625, 626, 627, 628, 629, 630, 631, 632, 633, 634, 635, 636, 637, 638, 639] (by decide +kernel) (by decide +kernel)
set_option maxRecDepth 20000 in
theorem gL_law_X4_takeDown : GoodIn wsL_law (wsV RL 172 RX4 yX4_takeDown wsX4_takeDown) := goodIn_app (goodIn_of _ (by decide +kernel)) ggL_law_X4_takeDown
set_option maxRecDepth 20000 in
theorem ggL_law_L_outOfDate : GoodIn wsL_law wsL_outOfDate := goodIn_ca (goodIn_r _ [499, 153, 500, 501, 502, 2, 503, 23, 159, 160, 161, 162, 163, 164, 19, 413, 414, 415, 123, 416, 394, 504, 505, 506, 22, 507, 479, 33, 31, 32, 601, 602, 603, 604, 605, 606, 607, 608, 644, 645, 646, 647, 648, 649, 650, 651, 652, 640, 641, 642, 643] (by decide +kernel) (by decide +kernel)) (goodIn_sub (fun _ h => List.mem_append_right _ h) (by decide +kernel))
set_option maxRecDepth 20000 in
theorem gL_law_L_outOfDate : GoodIn wsL_law (va_wsS RL 173 yL_outOfDate wsL_outOfDate) := goodIn_app (goodIn_of _ (by decide +kernel)) ggL_law_L_outOfDate
set_option maxRecDepth 20000 in
theorem ggL_law_X4_outOfDate : GoodIn wsL_law wsX4_outOfDate := goodIn_r _ [511, 484, 64, 62, 63, 57, 463, 464, 465, 5, 466, 172, 173, 174, 175, 149, 89, 90, 91, 92, 93, 94, 95, 96, 609, 610, 611, 612, 613, 614, 615, 616, 617, 618, 619, 620, 621, 622, 623, 624, 625, 626, 627, 628, 629, 630, 631, 632, 633, 634, 635, 636, 637, 638, 639] (by decide +kernel) (by decide +kernel)
set_option maxRecDepth 20000 in
theorem gL_law_X4_outOfDate : GoodIn wsL_law (wsV RL 175 RX4 yX4_outOfDate wsX4_outOfDate) := goodIn_app (goodIn_of _ (by decide +kernel)) ggL_law_X4_outOfDate
set_option maxRecDepth 20000 in
theorem ggL_law_X3_day : GoodIn wsL_law wsX3_day := goodIn_r _ [515, 26, 601, 602, 603, 604, 605, 606, 607, 608] (by decide +kernel) (by decide +kernel)
set_option maxRecDepth 20000 in
theorem gL_law_X3_day : GoodIn wsL_law (wsV RL 176 RX3 yX3_day wsX3_day) := goodIn_app (goodIn_of _ (by decide +kernel)) ggL_law_X3_day
set_option maxRecDepth 20000 in
theorem ggL_law_X4_day : GoodIn wsL_law wsX4_day := goodIn_r _ [519, 96, 357, 609, 610, 611, 612, 613, 614, 615, 616, 617, 618, 619, 620, 621, 622, 623, 624, 625, 626, 627, 628, 629, 630, 631, 632, 633, 634, 635, 636, 637, 638, 639] (by decide +kernel) (by decide +kernel)
set_option maxRecDepth 20000 in
theorem gL_law_X4_day : GoodIn wsL_law (wsV RL 179 RX4 yX4_day wsX4_day) := goodIn_app (goodIn_of _ (by decide +kernel)) ggL_law_X4_day
set_option maxRecDepth 20000 in
theorem ggL_law_L_step : GoodIn wsL_law wsL_step := goodIn_ca (goodIn_r _ [522, 153, 523, 524, 525, 2, 526, 194, 195, 159, 160, 161, 162, 163, 164, 19, 339, 340, 341, 132, 342, 203, 209, 343, 295, 296, 297, 141, 140, 344, 320, 321, 322, 208, 142, 345, 346, 347, 348, 143, 144, 644, 645, 646, 647, 648, 649, 650, 651, 652, 601, 602, 603, 604, 605, 606, 607, 608, 653, 654, 655, 656, 657, 658, 659, 660, 661, 662, 663, 664] (by decide +kernel) (by decide +kernel)) (goodIn_sub (fun _ h => List.mem_append_right _ h) (by decide +kernel))
set_option maxRecDepth 20000 in
theorem gL_law_L_step : GoodIn wsL_law (va_wsS RL 180 yL_step wsL_step) := goodIn_app (goodIn_of _ (by decide +kernel)) ggL_law_L_step
set_option maxRecDepth 20000 in
theorem ggL_law_X4_step : GoodIn wsL_law wsX4_step := goodIn_r _ [530, 463, 464, 465, 5, 466, 172, 173, 174, 175, 149, 89, 90, 91, 92, 93, 94, 95, 96, 531, 532, 533, 534, 44, 48, 53, 306, 307, 308, 309, 50, 49, 327, 328, 329, 330, 51, 52, 281, 282, 283, 284, 421, 422, 423, 424, 55, 56, 609, 610, 611, 612, 613, 614, 615, 616, 617, 618, 619, 620, 621, 622, 623, 624, 625, 626, 627, 628, 629, 630, 631, 632, 633, 634, 635, 636, 637, 638, 639] (by decide +kernel) (by decide +kernel)
set_option maxRecDepth 20000 in
theorem gL_law_X4_step : GoodIn wsL_law (wsV RL 182 RX4 yX4_step wsX4_step) := goodIn_app (goodIn_of _ (by decide +kernel)) ggL_law_X4_step
set_option maxRecDepth 20000 in
theorem ggL_law_L_inForce : GoodIn wsL_law wsL_inForce := goodIn_ca (goodIn_r _ [537, 153, 538, 539, 540, 2, 541, 159, 160, 161, 162, 163, 164, 19, 413, 414, 415, 123, 416, 394, 601, 602, 603, 604, 605, 606, 607, 608, 644, 645, 646, 647, 648, 649, 650, 651, 652] (by decide +kernel) (by decide +kernel)) (goodIn_sub (fun _ h => List.mem_append_right _ h) (by decide +kernel))
set_option maxRecDepth 20000 in
theorem gL_law_L_inForce : GoodIn wsL_law (va_wsS RL 183 yL_inForce wsL_inForce) := goodIn_app (goodIn_of _ (by decide +kernel)) ggL_law_L_inForce
set_option maxRecDepth 20000 in
theorem ggL_law_X4_inForce : GoodIn wsL_law wsX4_inForce := goodIn_r _ [545, 57, 463, 464, 465, 5, 466, 172, 173, 174, 175, 149, 89, 90, 91, 92, 93, 94, 95, 96, 609, 610, 611, 612, 613, 614, 615, 616, 617, 618, 619, 620, 621, 622, 623, 624, 625, 626, 627, 628, 629, 630, 631, 632, 633, 634, 635, 636, 637, 638, 639] (by decide +kernel) (by decide +kernel)
set_option maxRecDepth 20000 in
theorem gL_law_X4_inForce : GoodIn wsL_law (wsV RL 185 RX4 yX4_inForce wsX4_inForce) := goodIn_app (goodIn_of _ (by decide +kernel)) ggL_law_X4_inForce
set_option maxRecDepth 20000 in
theorem ggL_law_L_text : GoodIn wsL_law wsL_text := goodIn_ca (goodIn_r _ [548, 153, 549, 550, 551, 2, 552, 553, 159, 160, 161, 162, 163, 164, 19, 413, 414, 415, 123, 416, 394, 644, 645, 646, 647, 648, 649, 650, 651, 652, 601, 602, 603, 604, 605, 606, 607, 608] (by decide +kernel) (by decide +kernel)) (goodIn_sub (fun _ h => List.mem_append_right _ h) (by decide +kernel))
set_option maxRecDepth 20000 in
theorem gL_law_L_text : GoodIn wsL_law (va_wsS RL 186 yL_text wsL_text) := goodIn_app (goodIn_of _ (by decide +kernel)) ggL_law_L_text
set_option maxRecDepth 20000 in
theorem ggL_law_X4_text : GoodIn wsL_law wsX4_text := goodIn_r _ [557, 57, 59, 463, 464, 465, 5, 466, 172, 173, 174, 175, 149, 89, 90, 91, 92, 93, 94, 95, 96, 609, 610, 611, 612, 613, 614, 615, 616, 617, 618, 619, 620, 621, 622, 623, 624, 625, 626, 627, 628, 629, 630, 631, 632, 633, 634, 635, 636, 637, 638, 639] (by decide +kernel) (by decide +kernel)
set_option maxRecDepth 20000 in
theorem gL_law_X4_text : GoodIn wsL_law (wsV RL 188 RX4 yX4_text wsX4_text) := goodIn_app (goodIn_of _ (by decide +kernel)) ggL_law_X4_text
set_option maxRecDepth 20000 in
theorem ggL_law_L_inForceOn : GoodIn wsL_law wsL_inForceOn := goodIn_ca (goodIn_ca (goodIn_r _ [560, 153, 69, 561, 562, 563, 2, 564, 26, 159, 160, 161, 162, 163, 164, 19, 77, 78, 79, 80, 81, 565, 566, 567, 123, 568, 394, 135, 601, 602, 603, 604, 605, 606, 607, 608, 644, 645, 646, 647, 648, 649, 650, 651, 652] (by decide +kernel) (by decide +kernel)) (goodIn_sub (fun _ h => List.mem_append_right _ h) (by decide +kernel))) (goodIn_sub (fun _ h => List.mem_append_left _ (List.mem_append_left _ (List.mem_append_right _ h))) (by decide +kernel))
set_option maxRecDepth 20000 in
theorem gL_law_L_inForceOn : GoodIn wsL_law (va_wsS RL 189 yL_inForceOn wsL_inForceOn) := goodIn_app (goodIn_of _ (by decide +kernel)) ggL_law_L_inForceOn
set_option maxRecDepth 20000 in
theorem ggL_law_X4_inForceOn : GoodIn wsL_law wsX4_inForceOn := goodIn_r _ [572, 357, 57, 58, 172, 173, 174, 5, 175, 149, 89, 90, 91, 92, 93, 94, 95, 96, 609, 610, 611, 612, 613, 614, 615, 616, 617, 618, 619, 620, 621, 622, 623, 624, 625, 626, 627, 628, 629, 630, 631, 632, 633, 634, 635, 636, 637, 638, 639] (by decide +kernel) (by decide +kernel)
set_option maxRecDepth 20000 in
theorem gL_law_X4_inForceOn : GoodIn wsL_law (wsV RL 191 RX4 yX4_inForceOn wsX4_inForceOn) := goodIn_app (goodIn_of _ (by decide +kernel)) ggL_law_X4_inForceOn
set_option maxRecDepth 20000 in
theorem ggL_law_L_since : GoodIn wsL_law wsL_since := goodIn_ca (goodIn_r _ [575, 153, 576, 577, 578, 2, 579, 163, 164, 580, 581, 159, 160, 161, 162, 19, 644, 645, 646, 647, 648, 649, 650, 651, 652, 601, 602, 603, 604, 605, 606, 607, 608] (by decide +kernel) (by decide +kernel)) (goodIn_sub (fun _ h => List.mem_append_right _ h) (by decide +kernel))
set_option maxRecDepth 20000 in
theorem gL_law_L_since : GoodIn wsL_law (va_wsS RL 192 yL_since wsL_since) := goodIn_app (goodIn_of _ (by decide +kernel)) ggL_law_L_since
set_option maxRecDepth 20000 in
theorem ggL_law_X4_since : GoodIn wsL_law wsX4_since := goodIn_r _ [585, 57, 58, 172, 173, 174, 5, 175, 149, 89, 90, 91, 92, 93, 94, 95, 96, 609, 610, 611, 612, 613, 614, 615, 616, 617, 618, 619, 620, 621, 622, 623, 624, 625, 626, 627, 628, 629, 630, 631, 632, 633, 634, 635, 636, 637, 638, 639] (by decide +kernel) (by decide +kernel)
set_option maxRecDepth 20000 in
theorem gL_law_X4_since : GoodIn wsL_law (wsV RL 194 RX4 yX4_since wsX4_since) := goodIn_app (goodIn_of _ (by decide +kernel)) ggL_law_X4_since
set_option maxRecDepth 20000 in
theorem ggL_law_L_waitsFor : GoodIn wsL_law wsL_waitsFor := goodIn_ca (goodIn_r _ [588, 153, 589, 590, 591, 2, 592, 194, 195, 159, 160, 161, 162, 163, 164, 19, 593, 594, 595, 132, 596, 200, 401, 340, 341, 342, 203, 209, 343, 295, 296, 297, 141, 140, 344, 320, 321, 322, 208, 142, 345, 346, 347, 348, 143, 144, 644, 645, 646, 647, 648, 649, 650, 651, 652, 601, 602, 603, 604, 605, 606, 607, 608, 653, 654, 655, 656, 657, 658, 659, 660, 661, 662, 663, 664] (by decide +kernel) (by decide +kernel)) (goodIn_sub (fun _ h => List.mem_append_right _ h) (by decide +kernel))
set_option maxRecDepth 20000 in
theorem gL_law_L_waitsFor : GoodIn wsL_law (va_wsS RL 195 yL_waitsFor wsL_waitsFor) := goodIn_app (goodIn_of _ (by decide +kernel)) ggL_law_L_waitsFor
set_option maxRecDepth 20000 in
theorem ggL_law_X4_waitsFor : GoodIn wsL_law wsX4_waitsFor := goodIn_r _ [600, 45, 463, 464, 465, 5, 466, 172, 173, 174, 175, 149, 89, 90, 91, 92, 93, 94, 95, 96, 531, 532, 533, 534, 44, 48, 53, 306, 307, 308, 309, 50, 49, 327, 328, 329, 330, 51, 52, 281, 282, 283, 284, 421, 422, 423, 424, 55, 56, 609, 610, 611, 612, 613, 614, 615, 616, 617, 618, 619, 620, 621, 622, 623, 624, 625, 626, 627, 628, 629, 630, 631, 632, 633, 634, 635, 636, 637, 638, 639] (by decide +kernel) (by decide +kernel)
set_option maxRecDepth 20000 in
theorem gL_law_X4_waitsFor : GoodIn wsL_law (wsV RL 197 RX4 yX4_waitsFor wsX4_waitsFor) := goodIn_app (goodIn_of _ (by decide +kernel)) ggL_law_X4_waitsFor
theorem dL_law_0 : decode cL_law 0 = .ok (.new 8, 3) := by decide +kernel
theorem dL_law_3 : decode cL_law 3 = .ok (.dup, 1) := by decide +kernel
theorem dL_law_4 : decode cL_law 4 = .ok (.invokespecial 100, 3) := by decide +kernel
theorem dL_law_7 : decode cL_law 7 = .ok (.astore_n 1, 1) := by decide +kernel
theorem dL_law_8 : decode cL_law 8 = .ok (.new 101, 3) := by decide +kernel
theorem dL_law_11 : decode cL_law 11 = .ok (.dup, 1) := by decide +kernel
theorem dL_law_12 : decode cL_law 12 = .ok (.invokespecial 103, 3) := by decide +kernel
theorem dL_law_15 : decode cL_law 15 = .ok (.astore_n 2, 1) := by decide +kernel
theorem dL_law_16 : decode cL_law 16 = .ok (.iconst 1, 1) := by decide +kernel
theorem dL_law_17 : decode cL_law 17 = .ok (.newarray .long, 2) := by decide +kernel
theorem dL_law_19 : decode cL_law 19 = .ok (.astore_n 3, 1) := by decide +kernel
theorem dL_law_20 : decode cL_law 20 = .ok (.iconst 0, 1) := by decide +kernel
theorem dL_law_21 : decode cL_law 21 = .ok (.istore 4, 2) := by decide +kernel
theorem dL_law_23 : decode cL_law 23 = .ok (.iload 4, 2) := by decide +kernel
theorem dL_law_25 : decode cL_law 25 = .ok (.aload_n 0, 1) := by decide +kernel
theorem dL_law_26 : decode cL_law 26 = .ok (.arraylength, 1) := by decide +kernel
theorem dL_law_27 : decode cL_law 27 = .ok (.iconst 4, 1) := by decide +kernel
theorem dL_law_28 : decode cL_law 28 = .ok (.isub, 1) := by decide +kernel
theorem dL_law_29 : decode cL_law 29 = .ok (.if_icmp .gt 1840, 3) := by decide +kernel
theorem dL_law_32 : decode cL_law 32 = .ok (.aload_n 0, 1) := by decide +kernel
theorem dL_law_33 : decode cL_law 33 = .ok (.iload 4, 2) := by decide +kernel
theorem dL_law_35 : decode cL_law 35 = .ok (.iaload, 1) := by decide +kernel
theorem dL_law_36 : decode cL_law 36 = .ok (.bipush 31, 2) := by decide +kernel
theorem dL_law_38 : decode cL_law 38 = .ok (.iand, 1) := by decide +kernel
theorem dL_law_39 : decode cL_law 39 = .ok (.tableswitch 1824 0 26 #[121, 213, 281, 353, 421, 477, 537, 605, 661, 729, 797, 893, 961, 1021, 1089, 1145, 1208, 1271, 1339, 1395, 1451, 1464, 1520, 1576, 1632, 1700, 1768], 121) := by decide +kernel
theorem dL_law_160 : decode cL_law 160 = .ok (.aload_n 1, 1) := by decide +kernel
theorem dL_law_161 : decode cL_law 161 = .ok (.aload_n 0, 1) := by decide +kernel
theorem dL_law_162 : decode cL_law 162 = .ok (.iload 4, 2) := by decide +kernel
theorem dL_law_164 : decode cL_law 164 = .ok (.iconst 1, 1) := by decide +kernel
theorem dL_law_165 : decode cL_law 165 = .ok (.iadd, 1) := by decide +kernel
theorem dL_law_166 : decode cL_law 166 = .ok (.iaload, 1) := by decide +kernel
theorem dL_law_167 : decode cL_law 167 = .ok (.aload_n 0, 1) := by decide +kernel
theorem dL_law_168 : decode cL_law 168 = .ok (.iload 4, 2) := by decide +kernel
theorem dL_law_170 : decode cL_law 170 = .ok (.iconst 2, 1) := by decide +kernel
theorem dL_law_171 : decode cL_law 171 = .ok (.iadd, 1) := by decide +kernel
theorem dL_law_172 : decode cL_law 172 = .ok (.iaload, 1) := by decide +kernel
theorem dL_law_173 : decode cL_law 173 = .ok (.ifCond .eq 7, 3) := by decide +kernel
theorem dL_law_176 : decode cL_law 176 = .ok (.iconst 1, 1) := by decide +kernel
theorem dL_law_177 : decode cL_law 177 = .ok (.goto 4, 3) := by decide +kernel
theorem dL_law_180 : decode cL_law 180 = .ok (.iconst 0, 1) := by decide +kernel
theorem dL_law_181 : decode cL_law 181 = .ok (.aload_n 0, 1) := by decide +kernel
theorem dL_law_182 : decode cL_law 182 = .ok (.iload 4, 2) := by decide +kernel
theorem dL_law_184 : decode cL_law 184 = .ok (.iconst 3, 1) := by decide +kernel
theorem dL_law_185 : decode cL_law 185 = .ok (.iadd, 1) := by decide +kernel
theorem dL_law_186 : decode cL_law 186 = .ok (.iaload, 1) := by decide +kernel
theorem dL_law_187 : decode cL_law 187 = .ok (.ifCond .eq 7, 3) := by decide +kernel
theorem dL_law_190 : decode cL_law 190 = .ok (.iconst 1, 1) := by decide +kernel
theorem dL_law_191 : decode cL_law 191 = .ok (.goto 4, 3) := by decide +kernel
theorem dL_law_194 : decode cL_law 194 = .ok (.iconst 0, 1) := by decide +kernel
theorem dL_law_195 : decode cL_law 195 = .ok (.invokestatic 104, 3) := by decide +kernel
theorem dL_law_198 : decode cL_law 198 = .ok (.istore 5, 2) := by decide +kernel
theorem dL_law_200 : decode cL_law 200 = .ok (.aload_n 2, 1) := by decide +kernel
theorem dL_law_201 : decode cL_law 201 = .ok (.aload_n 0, 1) := by decide +kernel
theorem dL_law_202 : decode cL_law 202 = .ok (.iload 4, 2) := by decide +kernel
theorem dL_law_204 : decode cL_law 204 = .ok (.iconst 1, 1) := by decide +kernel
theorem dL_law_205 : decode cL_law 205 = .ok (.iadd, 1) := by decide +kernel
theorem dL_law_206 : decode cL_law 206 = .ok (.iaload, 1) := by decide +kernel
theorem dL_law_207 : decode cL_law 207 = .ok (.aload_n 0, 1) := by decide +kernel
theorem dL_law_208 : decode cL_law 208 = .ok (.iload 4, 2) := by decide +kernel
theorem dL_law_210 : decode cL_law 210 = .ok (.iconst 2, 1) := by decide +kernel
theorem dL_law_211 : decode cL_law 211 = .ok (.iadd, 1) := by decide +kernel
theorem dL_law_212 : decode cL_law 212 = .ok (.iaload, 1) := by decide +kernel
theorem dL_law_213 : decode cL_law 213 = .ok (.ifCond .eq 7, 3) := by decide +kernel
theorem dL_law_216 : decode cL_law 216 = .ok (.iconst 1, 1) := by decide +kernel
theorem dL_law_217 : decode cL_law 217 = .ok (.goto 4, 3) := by decide +kernel
theorem dL_law_220 : decode cL_law 220 = .ok (.iconst 0, 1) := by decide +kernel
theorem dL_law_221 : decode cL_law 221 = .ok (.aload_n 0, 1) := by decide +kernel
theorem dL_law_222 : decode cL_law 222 = .ok (.iload 4, 2) := by decide +kernel
theorem dL_law_224 : decode cL_law 224 = .ok (.iconst 3, 1) := by decide +kernel
theorem dL_law_225 : decode cL_law 225 = .ok (.iadd, 1) := by decide +kernel
theorem dL_law_226 : decode cL_law 226 = .ok (.iaload, 1) := by decide +kernel
theorem dL_law_227 : decode cL_law 227 = .ok (.ifCond .eq 7, 3) := by decide +kernel
theorem dL_law_230 : decode cL_law 230 = .ok (.iconst 1, 1) := by decide +kernel
theorem dL_law_231 : decode cL_law 231 = .ok (.goto 4, 3) := by decide +kernel
theorem dL_law_234 : decode cL_law 234 = .ok (.iconst 0, 1) := by decide +kernel
theorem dL_law_235 : decode cL_law 235 = .ok (.invokevirtual 109, 3) := by decide +kernel
theorem dL_law_238 : decode cL_law 238 = .ok (.aload_n 2, 1) := by decide +kernel
theorem dL_law_239 : decode cL_law 239 = .ok (.invokevirtual 110, 3) := by decide +kernel
theorem dL_law_242 : decode cL_law 242 = .ok (.iload 5, 2) := by decide +kernel
theorem dL_law_244 : decode cL_law 244 = .ok (.if_icmp .eq 5, 3) := by decide +kernel
theorem dL_law_247 : decode cL_law 247 = .ok (.iconst 0, 1) := by decide +kernel
theorem dL_law_248 : decode cL_law 248 = .ok (.ireturn, 1) := by decide +kernel
theorem dL_law_249 : decode cL_law 249 = .ok (.goto 1614, 3) := by decide +kernel
theorem dL_law_252 : decode cL_law 252 = .ok (.aload_n 1, 1) := by decide +kernel
theorem dL_law_253 : decode cL_law 253 = .ok (.aload_n 0, 1) := by decide +kernel
theorem dL_law_254 : decode cL_law 254 = .ok (.iload 4, 2) := by decide +kernel
theorem dL_law_256 : decode cL_law 256 = .ok (.iconst 1, 1) := by decide +kernel
theorem dL_law_257 : decode cL_law 257 = .ok (.iadd, 1) := by decide +kernel
theorem dL_law_258 : decode cL_law 258 = .ok (.iaload, 1) := by decide +kernel
theorem dL_law_259 : decode cL_law 259 = .ok (.aload_n 0, 1) := by decide +kernel
theorem dL_law_260 : decode cL_law 260 = .ok (.iload 4, 2) := by decide +kernel
theorem dL_law_262 : decode cL_law 262 = .ok (.iconst 2, 1) := by decide +kernel
theorem dL_law_263 : decode cL_law 263 = .ok (.iadd, 1) := by decide +kernel
theorem dL_law_264 : decode cL_law 264 = .ok (.iaload, 1) := by decide +kernel
theorem dL_law_265 : decode cL_law 265 = .ok (.aload_n 3, 1) := by decide +kernel
theorem dL_law_266 : decode cL_law 266 = .ok (.invokestatic 114, 3) := by decide +kernel
theorem dL_law_269 : decode cL_law 269 = .ok (.istore 5, 2) := by decide +kernel
theorem dL_law_271 : decode cL_law 271 = .ok (.aload_n 2, 1) := by decide +kernel
theorem dL_law_272 : decode cL_law 272 = .ok (.aload_n 0, 1) := by decide +kernel
theorem dL_law_273 : decode cL_law 273 = .ok (.iload 4, 2) := by decide +kernel
theorem dL_law_275 : decode cL_law 275 = .ok (.iconst 1, 1) := by decide +kernel
theorem dL_law_276 : decode cL_law 276 = .ok (.iadd, 1) := by decide +kernel
theorem dL_law_277 : decode cL_law 277 = .ok (.iaload, 1) := by decide +kernel
theorem dL_law_278 : decode cL_law 278 = .ok (.aload_n 0, 1) := by decide +kernel
theorem dL_law_279 : decode cL_law 279 = .ok (.iload 4, 2) := by decide +kernel
theorem dL_law_281 : decode cL_law 281 = .ok (.iconst 2, 1) := by decide +kernel
theorem dL_law_282 : decode cL_law 282 = .ok (.iadd, 1) := by decide +kernel
theorem dL_law_283 : decode cL_law 283 = .ok (.iaload, 1) := by decide +kernel
theorem dL_law_284 : decode cL_law 284 = .ok (.invokevirtual 117, 3) := by decide +kernel
theorem dL_law_287 : decode cL_law 287 = .ok (.istore 6, 2) := by decide +kernel
theorem dL_law_289 : decode cL_law 289 = .ok (.aload_n 2, 1) := by decide +kernel
theorem dL_law_290 : decode cL_law 290 = .ok (.invokevirtual 110, 3) := by decide +kernel
theorem dL_law_293 : decode cL_law 293 = .ok (.iload 5, 2) := by decide +kernel
theorem dL_law_295 : decode cL_law 295 = .ok (.if_icmp .eq 5, 3) := by decide +kernel
theorem dL_law_298 : decode cL_law 298 = .ok (.iconst 0, 1) := by decide +kernel
theorem dL_law_299 : decode cL_law 299 = .ok (.ireturn, 1) := by decide +kernel
theorem dL_law_300 : decode cL_law 300 = .ok (.iload 5, 2) := by decide +kernel
theorem dL_law_302 : decode cL_law 302 = .ok (.ifCond .ne 15, 3) := by decide +kernel
theorem dL_law_305 : decode cL_law 305 = .ok (.aload_n 3, 1) := by decide +kernel
theorem dL_law_306 : decode cL_law 306 = .ok (.iconst 0, 1) := by decide +kernel
theorem dL_law_307 : decode cL_law 307 = .ok (.laload, 1) := by decide +kernel
theorem dL_law_308 : decode cL_law 308 = .ok (.iload 6, 2) := by decide +kernel
theorem dL_law_310 : decode cL_law 310 = .ok (.i2l, 1) := by decide +kernel
theorem dL_law_311 : decode cL_law 311 = .ok (.lcmp, 1) := by decide +kernel
theorem dL_law_312 : decode cL_law 312 = .ok (.ifCond .eq 5, 3) := by decide +kernel
theorem dL_law_315 : decode cL_law 315 = .ok (.iconst 0, 1) := by decide +kernel
theorem dL_law_316 : decode cL_law 316 = .ok (.ireturn, 1) := by decide +kernel
theorem dL_law_317 : decode cL_law 317 = .ok (.goto 1546, 3) := by decide +kernel
theorem dL_law_320 : decode cL_law 320 = .ok (.aload_n 1, 1) := by decide +kernel
theorem dL_law_321 : decode cL_law 321 = .ok (.aload_n 0, 1) := by decide +kernel
theorem dL_law_322 : decode cL_law 322 = .ok (.iload 4, 2) := by decide +kernel
theorem dL_law_324 : decode cL_law 324 = .ok (.iconst 1, 1) := by decide +kernel
theorem dL_law_325 : decode cL_law 325 = .ok (.iadd, 1) := by decide +kernel
theorem dL_law_326 : decode cL_law 326 = .ok (.iaload, 1) := by decide +kernel
theorem dL_law_327 : decode cL_law 327 = .ok (.ifCond .eq 7, 3) := by decide +kernel
theorem dL_law_330 : decode cL_law 330 = .ok (.iconst 1, 1) := by decide +kernel
theorem dL_law_331 : decode cL_law 331 = .ok (.goto 4, 3) := by decide +kernel
theorem dL_law_334 : decode cL_law 334 = .ok (.iconst 0, 1) := by decide +kernel
theorem dL_law_335 : decode cL_law 335 = .ok (.aload_n 3, 1) := by decide +kernel
theorem dL_law_336 : decode cL_law 336 = .ok (.invokestatic 118, 3) := by decide +kernel
theorem dL_law_339 : decode cL_law 339 = .ok (.istore 5, 2) := by decide +kernel
theorem dL_law_341 : decode cL_law 341 = .ok (.aload_n 2, 1) := by decide +kernel
theorem dL_law_342 : decode cL_law 342 = .ok (.aload_n 0, 1) := by decide +kernel
theorem dL_law_343 : decode cL_law 343 = .ok (.iload 4, 2) := by decide +kernel
theorem dL_law_345 : decode cL_law 345 = .ok (.iconst 1, 1) := by decide +kernel
theorem dL_law_346 : decode cL_law 346 = .ok (.iadd, 1) := by decide +kernel
theorem dL_law_347 : decode cL_law 347 = .ok (.iaload, 1) := by decide +kernel
theorem dL_law_348 : decode cL_law 348 = .ok (.ifCond .eq 7, 3) := by decide +kernel
theorem dL_law_351 : decode cL_law 351 = .ok (.iconst 1, 1) := by decide +kernel
theorem dL_law_352 : decode cL_law 352 = .ok (.goto 4, 3) := by decide +kernel
theorem dL_law_355 : decode cL_law 355 = .ok (.iconst 0, 1) := by decide +kernel
theorem dL_law_356 : decode cL_law 356 = .ok (.invokevirtual 121, 3) := by decide +kernel
theorem dL_law_359 : decode cL_law 359 = .ok (.istore 6, 2) := by decide +kernel
theorem dL_law_361 : decode cL_law 361 = .ok (.aload_n 2, 1) := by decide +kernel
theorem dL_law_362 : decode cL_law 362 = .ok (.invokevirtual 110, 3) := by decide +kernel
theorem dL_law_365 : decode cL_law 365 = .ok (.iload 5, 2) := by decide +kernel
theorem dL_law_367 : decode cL_law 367 = .ok (.if_icmp .eq 5, 3) := by decide +kernel
theorem dL_law_370 : decode cL_law 370 = .ok (.iconst 0, 1) := by decide +kernel
theorem dL_law_371 : decode cL_law 371 = .ok (.ireturn, 1) := by decide +kernel
theorem dL_law_372 : decode cL_law 372 = .ok (.iload 5, 2) := by decide +kernel
theorem dL_law_374 : decode cL_law 374 = .ok (.ifCond .ne 15, 3) := by decide +kernel
theorem dL_law_377 : decode cL_law 377 = .ok (.aload_n 3, 1) := by decide +kernel
theorem dL_law_378 : decode cL_law 378 = .ok (.iconst 0, 1) := by decide +kernel
theorem dL_law_379 : decode cL_law 379 = .ok (.laload, 1) := by decide +kernel
theorem dL_law_380 : decode cL_law 380 = .ok (.iload 6, 2) := by decide +kernel
theorem dL_law_382 : decode cL_law 382 = .ok (.i2l, 1) := by decide +kernel
theorem dL_law_383 : decode cL_law 383 = .ok (.lcmp, 1) := by decide +kernel
theorem dL_law_384 : decode cL_law 384 = .ok (.ifCond .eq 5, 3) := by decide +kernel
theorem dL_law_387 : decode cL_law 387 = .ok (.iconst 0, 1) := by decide +kernel
theorem dL_law_388 : decode cL_law 388 = .ok (.ireturn, 1) := by decide +kernel
theorem dL_law_389 : decode cL_law 389 = .ok (.goto 1474, 3) := by decide +kernel
theorem dL_law_392 : decode cL_law 392 = .ok (.aload_n 1, 1) := by decide +kernel
theorem dL_law_393 : decode cL_law 393 = .ok (.aload_n 0, 1) := by decide +kernel
theorem dL_law_394 : decode cL_law 394 = .ok (.iload 4, 2) := by decide +kernel
theorem dL_law_396 : decode cL_law 396 = .ok (.iconst 1, 1) := by decide +kernel
theorem dL_law_397 : decode cL_law 397 = .ok (.iadd, 1) := by decide +kernel
theorem dL_law_398 : decode cL_law 398 = .ok (.iaload, 1) := by decide +kernel
theorem dL_law_399 : decode cL_law 399 = .ok (.aload_n 0, 1) := by decide +kernel
theorem dL_law_400 : decode cL_law 400 = .ok (.iload 4, 2) := by decide +kernel
theorem dL_law_402 : decode cL_law 402 = .ok (.iconst 2, 1) := by decide +kernel
theorem dL_law_403 : decode cL_law 403 = .ok (.iadd, 1) := by decide +kernel
theorem dL_law_404 : decode cL_law 404 = .ok (.iaload, 1) := by decide +kernel
theorem dL_law_405 : decode cL_law 405 = .ok (.aload_n 3, 1) := by decide +kernel
theorem dL_law_406 : decode cL_law 406 = .ok (.invokestatic 122, 3) := by decide +kernel
theorem dL_law_409 : decode cL_law 409 = .ok (.istore 5, 2) := by decide +kernel
theorem dL_law_411 : decode cL_law 411 = .ok (.aload_n 2, 1) := by decide +kernel
theorem dL_law_412 : decode cL_law 412 = .ok (.aload_n 0, 1) := by decide +kernel
theorem dL_law_413 : decode cL_law 413 = .ok (.iload 4, 2) := by decide +kernel
theorem dL_law_415 : decode cL_law 415 = .ok (.iconst 1, 1) := by decide +kernel
theorem dL_law_416 : decode cL_law 416 = .ok (.iadd, 1) := by decide +kernel
theorem dL_law_417 : decode cL_law 417 = .ok (.iaload, 1) := by decide +kernel
theorem dL_law_418 : decode cL_law 418 = .ok (.aload_n 0, 1) := by decide +kernel
theorem dL_law_419 : decode cL_law 419 = .ok (.iload 4, 2) := by decide +kernel
theorem dL_law_421 : decode cL_law 421 = .ok (.iconst 2, 1) := by decide +kernel
theorem dL_law_422 : decode cL_law 422 = .ok (.iadd, 1) := by decide +kernel
theorem dL_law_423 : decode cL_law 423 = .ok (.iaload, 1) := by decide +kernel
theorem dL_law_424 : decode cL_law 424 = .ok (.invokevirtual 124, 3) := by decide +kernel
theorem dL_law_427 : decode cL_law 427 = .ok (.istore 6, 2) := by decide +kernel
theorem dL_law_429 : decode cL_law 429 = .ok (.aload_n 2, 1) := by decide +kernel
theorem dL_law_430 : decode cL_law 430 = .ok (.invokevirtual 110, 3) := by decide +kernel
theorem dL_law_433 : decode cL_law 433 = .ok (.iload 5, 2) := by decide +kernel
theorem dL_law_435 : decode cL_law 435 = .ok (.if_icmp .eq 5, 3) := by decide +kernel
theorem dL_law_438 : decode cL_law 438 = .ok (.iconst 0, 1) := by decide +kernel
theorem dL_law_439 : decode cL_law 439 = .ok (.ireturn, 1) := by decide +kernel
theorem dL_law_440 : decode cL_law 440 = .ok (.iload 5, 2) := by decide +kernel
theorem dL_law_442 : decode cL_law 442 = .ok (.ifCond .ne 15, 3) := by decide +kernel
theorem dL_law_445 : decode cL_law 445 = .ok (.aload_n 3, 1) := by decide +kernel
theorem dL_law_446 : decode cL_law 446 = .ok (.iconst 0, 1) := by decide +kernel
theorem dL_law_447 : decode cL_law 447 = .ok (.laload, 1) := by decide +kernel
theorem dL_law_448 : decode cL_law 448 = .ok (.iload 6, 2) := by decide +kernel
theorem dL_law_450 : decode cL_law 450 = .ok (.i2l, 1) := by decide +kernel
theorem dL_law_451 : decode cL_law 451 = .ok (.lcmp, 1) := by decide +kernel
theorem dL_law_452 : decode cL_law 452 = .ok (.ifCond .eq 5, 3) := by decide +kernel
theorem dL_law_455 : decode cL_law 455 = .ok (.iconst 0, 1) := by decide +kernel
theorem dL_law_456 : decode cL_law 456 = .ok (.ireturn, 1) := by decide +kernel
theorem dL_law_457 : decode cL_law 457 = .ok (.goto 1406, 3) := by decide +kernel
theorem dL_law_460 : decode cL_law 460 = .ok (.aload_n 1, 1) := by decide +kernel
theorem dL_law_461 : decode cL_law 461 = .ok (.aload_n 0, 1) := by decide +kernel
theorem dL_law_462 : decode cL_law 462 = .ok (.iload 4, 2) := by decide +kernel
theorem dL_law_464 : decode cL_law 464 = .ok (.iconst 1, 1) := by decide +kernel
theorem dL_law_465 : decode cL_law 465 = .ok (.iadd, 1) := by decide +kernel
theorem dL_law_466 : decode cL_law 466 = .ok (.iaload, 1) := by decide +kernel
theorem dL_law_467 : decode cL_law 467 = .ok (.aload_n 3, 1) := by decide +kernel
theorem dL_law_468 : decode cL_law 468 = .ok (.invokestatic 125, 3) := by decide +kernel
theorem dL_law_471 : decode cL_law 471 = .ok (.istore 5, 2) := by decide +kernel
theorem dL_law_473 : decode cL_law 473 = .ok (.aload_n 2, 1) := by decide +kernel
theorem dL_law_474 : decode cL_law 474 = .ok (.aload_n 0, 1) := by decide +kernel
theorem dL_law_475 : decode cL_law 475 = .ok (.iload 4, 2) := by decide +kernel
theorem dL_law_477 : decode cL_law 477 = .ok (.iconst 1, 1) := by decide +kernel
theorem dL_law_478 : decode cL_law 478 = .ok (.iadd, 1) := by decide +kernel
theorem dL_law_479 : decode cL_law 479 = .ok (.iaload, 1) := by decide +kernel
theorem dL_law_480 : decode cL_law 480 = .ok (.invokevirtual 128, 3) := by decide +kernel
theorem dL_law_483 : decode cL_law 483 = .ok (.istore 6, 2) := by decide +kernel
theorem dL_law_485 : decode cL_law 485 = .ok (.aload_n 2, 1) := by decide +kernel
theorem dL_law_486 : decode cL_law 486 = .ok (.invokevirtual 110, 3) := by decide +kernel
theorem dL_law_489 : decode cL_law 489 = .ok (.iload 5, 2) := by decide +kernel
theorem dL_law_491 : decode cL_law 491 = .ok (.if_icmp .eq 5, 3) := by decide +kernel
theorem dL_law_494 : decode cL_law 494 = .ok (.iconst 0, 1) := by decide +kernel
theorem dL_law_495 : decode cL_law 495 = .ok (.ireturn, 1) := by decide +kernel
theorem dL_law_496 : decode cL_law 496 = .ok (.iload 5, 2) := by decide +kernel
theorem dL_law_498 : decode cL_law 498 = .ok (.ifCond .ne 15, 3) := by decide +kernel
theorem dL_law_501 : decode cL_law 501 = .ok (.aload_n 3, 1) := by decide +kernel
theorem dL_law_502 : decode cL_law 502 = .ok (.iconst 0, 1) := by decide +kernel
theorem dL_law_503 : decode cL_law 503 = .ok (.laload, 1) := by decide +kernel
theorem dL_law_504 : decode cL_law 504 = .ok (.iload 6, 2) := by decide +kernel
theorem dL_law_506 : decode cL_law 506 = .ok (.i2l, 1) := by decide +kernel
theorem dL_law_507 : decode cL_law 507 = .ok (.lcmp, 1) := by decide +kernel
theorem dL_law_508 : decode cL_law 508 = .ok (.ifCond .eq 5, 3) := by decide +kernel
theorem dL_law_511 : decode cL_law 511 = .ok (.iconst 0, 1) := by decide +kernel
theorem dL_law_512 : decode cL_law 512 = .ok (.ireturn, 1) := by decide +kernel
theorem dL_law_513 : decode cL_law 513 = .ok (.goto 1350, 3) := by decide +kernel
theorem dL_law_516 : decode cL_law 516 = .ok (.aload_n 1, 1) := by decide +kernel

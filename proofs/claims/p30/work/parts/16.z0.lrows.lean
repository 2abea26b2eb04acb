theorem dL_draw_0 : decode cL_draw 0 = .ok (.iload_n 1, 1) := by decide +kernel
theorem dL_draw_1 : decode cL_draw 1 = .ok (.aload_n 0, 1) := by decide +kernel
theorem dL_draw_2 : decode cL_draw 2 = .ok (.arraylength, 1) := by decide +kernel
theorem dL_draw_3 : decode cL_draw 3 = .ok (.if_icmp .ge 9, 3) := by decide +kernel
theorem dL_draw_6 : decode cL_draw 6 = .ok (.aload_n 0, 1) := by decide +kernel
theorem dL_draw_7 : decode cL_draw 7 = .ok (.iload_n 1, 1) := by decide +kernel
theorem dL_draw_8 : decode cL_draw 8 = .ok (.iaload, 1) := by decide +kernel
theorem dL_draw_9 : decode cL_draw 9 = .ok (.goto 14, 3) := by decide +kernel
theorem dL_draw_12 : decode cL_draw 12 = .ok (.ldc 7, 2) := by decide +kernel
theorem dL_draw_14 : decode cL_draw 14 = .ok (.iload_n 1, 1) := by decide +kernel
theorem dL_draw_15 : decode cL_draw 15 = .ok (.sipush 251, 3) := by decide +kernel
theorem dL_draw_18 : decode cL_draw 18 = .ok (.iadd, 1) := by decide +kernel
theorem dL_draw_19 : decode cL_draw 19 = .ok (.imul, 1) := by decide +kernel
theorem dL_draw_20 : decode cL_draw 20 = .ok (.ldc 8, 2) := by decide +kernel
theorem dL_draw_22 : decode cL_draw 22 = .ok (.iadd, 1) := by decide +kernel
theorem dL_draw_23 : decode cL_draw 23 = .ok (.istore_n 3, 1) := by decide +kernel
theorem dL_draw_24 : decode cL_draw 24 = .ok (.iload_n 3, 1) := by decide +kernel
theorem dL_draw_25 : decode cL_draw 25 = .ok (.ldc 9, 2) := by decide +kernel
theorem dL_draw_27 : decode cL_draw 27 = .ok (.iand, 1) := by decide +kernel
theorem dL_draw_28 : decode cL_draw 28 = .ok (.iload_n 2, 1) := by decide +kernel
theorem dL_draw_29 : decode cL_draw 29 = .ok (.irem, 1) := by decide +kernel
theorem dL_draw_30 : decode cL_draw 30 = .ok (.ireturn, 1) := by decide +kernel
theorem dL_has_0 : decode cL_has 0 = .ok (.iload_n 0, 1) := by decide +kernel
theorem dL_has_1 : decode cL_has 1 = .ok (.iload_n 1, 1) := by decide +kernel
theorem dL_has_2 : decode cL_has 2 = .ok (.ishr, 1) := by decide +kernel
theorem dL_has_3 : decode cL_has 3 = .ok (.iconst 1, 1) := by decide +kernel
theorem dL_has_4 : decode cL_has 4 = .ok (.iand, 1) := by decide +kernel
theorem dL_has_5 : decode cL_has 5 = .ok (.iconst 1, 1) := by decide +kernel
theorem dL_has_6 : decode cL_has 6 = .ok (.if_icmp .ne 7, 3) := by decide +kernel
theorem dL_has_9 : decode cL_has 9 = .ok (.iconst 1, 1) := by decide +kernel
theorem dL_has_10 : decode cL_has 10 = .ok (.goto 4, 3) := by decide +kernel
theorem dL_has_13 : decode cL_has 13 = .ok (.iconst 0, 1) := by decide +kernel
theorem dL_has_14 : decode cL_has 14 = .ok (.ireturn, 1) := by decide +kernel
theorem dL_size_0 : decode cL_size 0 = .ok (.iconst 0, 1) := by decide +kernel
theorem dL_size_1 : decode cL_size 1 = .ok (.istore_n 1, 1) := by decide +kernel
theorem dL_size_2 : decode cL_size 2 = .ok (.iconst 0, 1) := by decide +kernel
theorem dL_size_3 : decode cL_size 3 = .ok (.istore_n 2, 1) := by decide +kernel
theorem dL_size_4 : decode cL_size 4 = .ok (.iload_n 2, 1) := by decide +kernel
theorem dL_size_5 : decode cL_size 5 = .ok (.bipush 8, 2) := by decide +kernel
theorem dL_size_7 : decode cL_size 7 = .ok (.if_icmp .ge 17, 3) := by decide +kernel
theorem dL_size_10 : decode cL_size 10 = .ok (.iload_n 1, 1) := by decide +kernel
theorem dL_size_11 : decode cL_size 11 = .ok (.iload_n 0, 1) := by decide +kernel
theorem dL_size_12 : decode cL_size 12 = .ok (.iload_n 2, 1) := by decide +kernel
theorem dL_size_13 : decode cL_size 13 = .ok (.ishr, 1) := by decide +kernel
theorem dL_size_14 : decode cL_size 14 = .ok (.iconst 1, 1) := by decide +kernel
theorem dL_size_15 : decode cL_size 15 = .ok (.iand, 1) := by decide +kernel
theorem dL_size_16 : decode cL_size 16 = .ok (.iadd, 1) := by decide +kernel
theorem dL_size_17 : decode cL_size 17 = .ok (.istore_n 1, 1) := by decide +kernel
theorem dL_size_18 : decode cL_size 18 = .ok (.iinc 2 1, 3) := by decide +kernel
theorem dL_size_21 : decode cL_size 21 = .ok (.goto (-17), 3) := by decide +kernel
theorem dL_size_24 : decode cL_size 24 = .ok (.iload_n 1, 1) := by decide +kernel
theorem dL_size_25 : decode cL_size 25 = .ok (.ireturn, 1) := by decide +kernel
set_option maxRecDepth 20000 in
theorem ggL_begins_X3_draft : GoodIn wsL_begins wsX3_draft := goodIn_ca (goodIn_ca (goodIn_ca (goodIn_r _ [5, 6, 7, 8, 9, 10, 11, 12, 4, 13, 14, 15, 16, 17, 18, 19, 20, 21, 22, 23, 24, 25, 26, 27, 28, 29, 30, 31, 32, 33, 34, 35, 36, 37, 38, 39, 40, 41, 42, 43, 44, 45, 46, 47, 48, 49, 50, 51, 52, 53, 54, 55, 56, 57, 58, 59, 60, 61, 62, 63, 64, 65, 66, 67, 68, 69, 70, 71] (by decide +kernel) (by decide +kernel)) (goodIn_sub (fun _ h => List.mem_cons_of_mem _ (List.mem_append_left _ (List.mem_append_left _ (List.mem_append_right _ h)))) (by decide +kernel))) (goodIn_sub (fun _ h => List.mem_cons_of_mem _ (List.mem_append_left _ (List.mem_append_right _ h))) (by decide +kernel))) (goodIn_sub (fun _ h => List.mem_cons_of_mem _ (List.mem_append_right _ h)) (by decide +kernel))
set_option maxRecDepth 20000 in
theorem gL_begins_X3_draft : GoodIn wsL_begins (wsV RL 10 RX3 yX3_draft wsX3_draft) := goodIn_app (goodIn_of _ (by decide +kernel)) ggL_begins_X3_draft
theorem dL_begins_0 : decode cL_begins 0 = .ok (.aload_n 0, 1) := by decide +kernel
theorem dL_begins_1 : decode cL_begins 1 = .ok (.iload_n 1, 1) := by decide +kernel
theorem dL_begins_2 : decode cL_begins 2 = .ok (.iload_n 2, 1) := by decide +kernel
theorem dL_begins_3 : decode cL_begins 3 = .ok (.iload_n 3, 1) := by decide +kernel
theorem dL_begins_4 : decode cL_begins 4 = .ok (.invokevirtual 10, 3) := by decide +kernel
theorem dL_begins_7 : decode cL_begins 7 = .ok (.iconst 0, 1) := by decide +kernel
theorem dL_begins_8 : decode cL_begins 8 = .ok (.ireturn, 1) := by decide +kernel
set_option maxRecDepth 20000 in
theorem ggL_approves_X3_approve : GoodIn wsL_approves wsX3_approve := goodIn_ca (goodIn_ca (goodIn_ca (goodIn_r _ [5, 6, 7, 8, 9, 10, 11, 12, 13, 14, 4, 15, 16, 17, 18, 19, 20, 21, 22, 23, 24, 25, 26, 27, 28, 29, 30, 31, 32, 33, 34, 35, 36, 37, 38, 39, 40, 41, 42, 43, 44, 45, 46, 47, 48, 49, 50, 51, 52, 53, 54, 55, 56, 57, 58, 59, 60, 61, 62, 63, 64, 65, 66, 67, 68, 69, 70, 71, 72, 73, 74, 75, 76, 77, 78, 79, 80, 81, 82, 83, 84, 85, 86, 87, 88, 89, 90, 91] (by decide +kernel) (by decide +kernel)) (goodIn_sub (fun _ h => List.mem_cons_of_mem _ (List.mem_append_left _ (List.mem_append_left _ (List.mem_append_right _ h)))) (by decide +kernel))) (goodIn_sub (fun _ h => List.mem_cons_of_mem _ (List.mem_append_left _ (List.mem_append_right _ h))) (by decide +kernel))) (goodIn_sub (fun _ h => List.mem_cons_of_mem _ (List.mem_append_right _ h)) (by decide +kernel))
set_option maxRecDepth 20000 in
theorem gL_approves_X3_approve : GoodIn wsL_approves (wsV RL 16 RX3 yX3_approve wsX3_approve) := goodIn_app (goodIn_of _ (by decide +kernel)) ggL_approves_X3_approve
theorem dL_approves_0 : decode cL_approves 0 = .ok (.aload_n 0, 1) := by decide +kernel
theorem dL_approves_1 : decode cL_approves 1 = .ok (.iload_n 1, 1) := by decide +kernel
theorem dL_approves_2 : decode cL_approves 2 = .ok (.iload_n 2, 1) := by decide +kernel
theorem dL_approves_3 : decode cL_approves 3 = .ok (.iload_n 3, 1) := by decide +kernel
theorem dL_approves_4 : decode cL_approves 4 = .ok (.invokevirtual 16, 3) := by decide +kernel
theorem dL_approves_7 : decode cL_approves 7 = .ok (.iconst 0, 1) := by decide +kernel
theorem dL_approves_8 : decode cL_approves 8 = .ok (.ireturn, 1) := by decide +kernel
set_option maxRecDepth 20000 in
theorem ggL_asks_L_begins : GoodIn wsL_asks wsL_begins := goodIn_ca (goodIn_ca (goodIn_ca (goodIn_r _ [7, 8, 9, 10, 11, 12, 13, 14, 15, 16, 17, 18, 19, 20, 21, 22, 23, 24, 25, 26, 27, 28, 29, 30, 31, 32, 33, 34, 35, 36, 37, 38, 39, 40, 41, 42, 43, 44, 45, 46, 47, 48, 49, 185, 186, 187, 188, 189, 190, 191, 192, 193, 194, 195, 196, 197, 198, 199, 200, 201, 202, 203, 204, 205, 206, 207, 208, 209, 210, 211, 212, 213] (by decide +kernel) (by decide +kernel)) (goodIn_sub (fun _ h => List.mem_cons_of_mem _ (List.mem_append_left _ (List.mem_append_left _ (List.mem_append_right _ h)))) (by decide +kernel))) (goodIn_sub (fun _ h => List.mem_cons_of_mem _ (List.mem_append_left _ (List.mem_append_right _ h))) (by decide +kernel))) (goodIn_sub (fun _ h => List.mem_cons_of_mem _ (List.mem_append_right _ h)) (by decide +kernel))
set_option maxRecDepth 20000 in
theorem gL_asks_L_begins : GoodIn wsL_asks (va_wsS RL 19 yL_begins wsL_begins) := goodIn_app (goodIn_of _ (by decide +kernel)) ggL_asks_L_begins
set_option maxRecDepth 20000 in
theorem ggL_asks_X3_change : GoodIn wsL_asks wsX3_change := goodIn_ca (goodIn_ca (goodIn_ca (goodIn_r _ [53, 13, 14, 54, 55, 17, 18, 19, 11, 20, 21, 22, 23, 27, 28, 29, 30, 31, 56, 57, 58, 15, 16, 59, 43, 44, 35, 45, 39, 46, 47, 48, 49, 202, 203, 204, 205, 206, 207, 208, 209, 210, 211, 212, 213, 194, 195, 196, 197, 198, 199, 200, 201, 185, 186, 187, 188, 189, 190, 191, 192, 193] (by decide +kernel) (by decide +kernel)) (goodIn_sub (fun _ h => List.mem_cons_of_mem _ (List.mem_append_left _ (List.mem_append_left _ (List.mem_append_right _ h)))) (by decide +kernel))) (goodIn_sub (fun _ h => List.mem_cons_of_mem _ (List.mem_append_left _ (List.mem_append_right _ h))) (by decide +kernel))) (goodIn_sub (fun _ h => List.mem_cons_of_mem _ (List.mem_append_right _ h)) (by decide +kernel))
set_option maxRecDepth 20000 in
theorem gL_asks_X3_change : GoodIn wsL_asks (wsV RL 25 RX3 yX3_change wsX3_change) := goodIn_app (goodIn_of _ (by decide +kernel)) ggL_asks_X3_change
set_option maxRecDepth 20000 in
theorem ggL_asks_X3_drop : GoodIn wsL_asks wsX3_drop := goodIn_ca (goodIn_ca (goodIn_r _ [63, 15, 54, 17, 18, 19, 11, 20, 21, 22, 23, 56, 57, 58, 13, 14, 16, 185, 186, 187, 188, 189, 190, 191, 192, 193, 202, 203, 204, 205, 206, 207, 208, 209, 210, 211, 212, 213, 194, 195, 196, 197, 198, 199, 200, 201] (by decide +kernel) (by decide +kernel)) (goodIn_sub (fun _ h => List.mem_cons_of_mem _ (List.mem_append_left _ (List.mem_append_right _ h))) (by decide +kernel))) (goodIn_sub (fun _ h => List.mem_cons_of_mem _ (List.mem_append_left _ (List.mem_append_left _ (List.mem_append_right _ h)))) (by decide +kernel))
set_option maxRecDepth 20000 in
theorem gL_asks_X3_drop : GoodIn wsL_asks (wsV RL 29 RX3 yX3_drop wsX3_drop) := goodIn_app (goodIn_of _ (by decide +kernel)) ggL_asks_X3_drop
set_option maxRecDepth 20000 in
theorem ggL_asks_X3_reviewer : GoodIn wsL_asks wsX3_reviewer := goodIn_ca (goodIn_ca (goodIn_ca (goodIn_r _ [67, 13, 14, 68, 69, 70, 71, 72, 17, 18, 19, 11, 20, 21, 22, 23, 24, 25, 26, 27, 28, 29, 30, 31, 56, 57, 58, 15, 16, 73, 74, 75, 35, 76, 40, 77, 202, 203, 204, 205, 206, 207, 208, 209, 210, 211, 212, 213, 194, 195, 196, 197, 198, 199, 200, 201, 185, 186, 187, 188, 189, 190, 191, 192, 193] (by decide +kernel) (by decide +kernel)) (goodIn_sub (fun _ h => List.mem_cons_of_mem _ (List.mem_append_left _ (List.mem_append_left _ (List.mem_append_right _ h)))) (by decide +kernel))) (goodIn_sub (fun _ h => List.mem_cons_of_mem _ (List.mem_append_left _ (List.mem_append_right _ h))) (by decide +kernel))) (goodIn_sub (fun _ h => List.mem_cons_of_mem _ (List.mem_append_right _ h)) (by decide +kernel))
set_option maxRecDepth 20000 in
theorem gL_asks_X3_reviewer : GoodIn wsL_asks (wsV RL 33 RX3 yX3_reviewer wsX3_reviewer) := goodIn_app (goodIn_of _ (by decide +kernel)) ggL_asks_X3_reviewer
set_option maxRecDepth 20000 in
theorem ggL_asks_X3_reader : GoodIn wsL_asks wsX3_reader := goodIn_ca (goodIn_ca (goodIn_ca (goodIn_r _ [81, 13, 14, 82, 17, 18, 19, 11, 20, 21, 22, 23, 24, 25, 26, 27, 28, 29, 30, 31, 56, 57, 58, 15, 16, 83, 84, 85, 202, 203, 204, 205, 206, 207, 208, 209, 210, 211, 212, 213, 194, 195, 196, 197, 198, 199, 200, 201, 185, 186, 187, 188, 189, 190, 191, 192, 193] (by decide +kernel) (by decide +kernel)) (goodIn_sub (fun _ h => List.mem_cons_of_mem _ (List.mem_append_left _ (List.mem_append_left _ (List.mem_append_right _ h)))) (by decide +kernel))) (goodIn_sub (fun _ h => List.mem_cons_of_mem _ (List.mem_append_left _ (List.mem_append_right _ h))) (by decide +kernel))) (goodIn_sub (fun _ h => List.mem_cons_of_mem _ (List.mem_append_right _ h)) (by decide +kernel))
set_option maxRecDepth 20000 in
theorem gL_asks_X3_reader : GoodIn wsL_asks (wsV RL 36 RX3 yX3_reader wsX3_reader) := goodIn_app (goodIn_of _ (by decide +kernel)) ggL_asks_X3_reader
set_option maxRecDepth 20000 in
theorem ggL_asks_X3_review : GoodIn wsL_asks wsX3_review := goodIn_ca (goodIn_ca (goodIn_ca (goodIn_r _ [89, 13, 14, 90, 91, 17, 18, 19, 11, 20, 21, 22, 23, 24, 25, 26, 27, 28, 29, 30, 31, 56, 57, 58, 15, 16, 73, 74, 75, 35, 76, 40, 77, 92, 93, 94, 95, 48, 96, 97, 98, 99, 46, 100, 202, 203, 204, 205, 206, 207, 208, 209, 210, 211, 212, 213, 185, 186, 187, 188, 189, 190, 191, 192, 193, 194, 195, 196, 197, 198, 199, 200, 201] (by decide +kernel) (by decide +kernel)) (goodIn_sub (fun _ h => List.mem_cons_of_mem _ (List.mem_append_left _ (List.mem_append_left _ (List.mem_append_right _ h)))) (by decide +kernel))) (goodIn_sub (fun _ h => List.mem_cons_of_mem _ (List.mem_append_left _ (List.mem_append_right _ h))) (by decide +kernel))) (goodIn_sub (fun _ h => List.mem_cons_of_mem _ (List.mem_append_right _ h)) (by decide +kernel))
set_option maxRecDepth 20000 in
theorem gL_asks_X3_review : GoodIn wsL_asks (wsV RL 39 RX3 yX3_review wsX3_review) := goodIn_app (goodIn_of _ (by decide +kernel)) ggL_asks_X3_review
set_option maxRecDepth 20000 in
theorem ggL_asks_X3_answer : GoodIn wsL_asks wsX3_answer := goodIn_ca (goodIn_ca (goodIn_r _ [104, 21, 22, 13, 14, 105, 106, 17, 18, 19, 11, 20, 23, 56, 57, 58, 15, 16, 107, 108, 109, 35, 110, 46, 100, 202, 203, 204, 205, 206, 207, 208, 209, 210, 211, 212, 213, 194, 195, 196, 197, 198, 199, 200, 201, 185, 186, 187, 188, 189, 190, 191, 192, 193] (by decide +kernel) (by decide +kernel)) (goodIn_sub (fun _ h => List.mem_cons_of_mem _ (List.mem_append_left _ (List.mem_append_right _ h))) (by decide +kernel))) (goodIn_sub (fun _ h => List.mem_cons_of_mem _ (List.mem_append_left _ (List.mem_append_left _ (List.mem_append_right _ h)))) (by decide +kernel))
set_option maxRecDepth 20000 in
theorem gL_asks_X3_answer : GoodIn wsL_asks (wsV RL 43 RX3 yX3_answer wsX3_answer) := goodIn_app (goodIn_of _ (by decide +kernel)) ggL_asks_X3_answer
set_option maxRecDepth 20000 in
theorem ggL_asks_L_approves : GoodIn wsL_asks wsL_approves := goodIn_ca (goodIn_ca (goodIn_ca (goodIn_r _ [113, 114, 115, 116, 11, 117, 13, 14, 118, 69, 68, 119, 17, 18, 19, 20, 21, 22, 23, 24, 25, 26, 27, 28, 29, 30, 31, 56, 57, 58, 15, 16, 120, 121, 122, 35, 123, 40, 47, 124, 93, 94, 95, 48, 77, 125, 108, 109, 110, 46, 100, 126, 127, 128, 129, 41, 49, 130, 131, 132, 133, 134, 135, 194, 195, 196, 197, 198, 199, 200, 201, 202, 203, 204, 205, 206, 207, 208, 209, 210, 211, 212, 213, 185, 186, 187, 188, 189, 190, 191, 192, 193] (by decide +kernel) (by decide +kernel)) (goodIn_sub (fun _ h => List.mem_cons_of_mem _ (List.mem_append_left _ (List.mem_append_left _ (List.mem_append_right _ h)))) (by decide +kernel))) (goodIn_sub (fun _ h => List.mem_cons_of_mem _ (List.mem_append_left _ (List.mem_append_right _ h))) (by decide +kernel))) (goodIn_sub (fun _ h => List.mem_cons_of_mem _ (List.mem_append_right _ h)) (by decide +kernel))
set_option maxRecDepth 20000 in
theorem gL_asks_L_approves : GoodIn wsL_asks (va_wsS RL 46 yL_approves wsL_approves) := goodIn_app (goodIn_of _ (by decide +kernel)) ggL_asks_L_approves
set_option maxRecDepth 20000 in
theorem ggL_asks_X3_confirm : GoodIn wsL_asks wsX3_confirm := goodIn_ca (goodIn_ca (goodIn_ca (goodIn_r _ [139, 13, 14, 68, 82, 140, 17, 18, 19, 11, 20, 21, 22, 23, 24, 25, 26, 27, 28, 29, 30, 31, 56, 57, 58, 15, 16, 83, 84, 85, 202, 203, 204, 205, 206, 207, 208, 209, 210, 211, 212, 213, 194, 195, 196, 197, 198, 199, 200, 201, 185, 186, 187, 188, 189, 190, 191, 192, 193] (by decide +kernel) (by decide +kernel)) (goodIn_sub (fun _ h => List.mem_cons_of_mem _ (List.mem_append_left _ (List.mem_append_left _ (List.mem_append_right _ h)))) (by decide +kernel))) (goodIn_sub (fun _ h => List.mem_cons_of_mem _ (List.mem_append_left _ (List.mem_append_right _ h))) (by decide +kernel))) (goodIn_sub (fun _ h => List.mem_cons_of_mem _ (List.mem_append_right _ h)) (by decide +kernel))
set_option maxRecDepth 20000 in
theorem gL_asks_X3_confirm : GoodIn wsL_asks (wsV RL 49 RX3 yX3_confirm wsX3_confirm) := goodIn_app (goodIn_of _ (by decide +kernel)) ggL_asks_X3_confirm
set_option maxRecDepth 20000 in
theorem ggL_asks_X3_look : GoodIn wsL_asks wsX3_look := goodIn_ca (goodIn_ca (goodIn_r _ [144, 118, 145, 17, 18, 19, 11, 20, 21, 22, 23, 146, 147, 148, 13, 14, 149, 150, 151, 152, 153, 154, 155, 156, 157, 158, 159, 160, 161, 162, 163, 164, 194, 195, 196, 197, 198, 199, 200, 201, 185, 186, 187, 188, 189, 190, 191, 192, 193] (by decide +kernel) (by decide +kernel)) (goodIn_sub (fun _ h => List.mem_cons_of_mem _ (List.mem_append_left _ (List.mem_append_right _ h))) (by decide +kernel))) (goodIn_sub (fun _ h => List.mem_cons_of_mem _ (List.mem_append_left _ (List.mem_append_left _ (List.mem_append_right _ h)))) (by decide +kernel))
set_option maxRecDepth 20000 in
theorem gL_asks_X3_look : GoodIn wsL_asks (wsV RL 52 RX3 yX3_look wsX3_look) := goodIn_app (goodIn_of _ (by decide +kernel)) ggL_asks_X3_look
set_option maxRecDepth 20000 in
theorem ggL_asks_X3_copy : GoodIn wsL_asks wsX3_copy := goodIn_ca (goodIn_ca (goodIn_ca (goodIn_r _ [168, 13, 14, 169, 170, 17, 18, 19, 11, 20, 21, 22, 23, 27, 28, 29, 30, 31, 146, 147, 148, 149, 150, 151, 152, 153, 154, 171, 172, 173, 174, 175, 176, 177, 178, 179, 194, 195, 196, 197, 198, 199, 200, 201, 214, 215, 216, 217, 185, 186, 187, 188, 189, 190, 191, 192, 193] (by decide +kernel) (by decide +kernel)) (goodIn_sub (fun _ h => List.mem_cons_of_mem _ (List.mem_append_left _ (List.mem_append_left _ (List.mem_append_right _ h)))) (by decide +kernel))) (goodIn_sub (fun _ h => List.mem_cons_of_mem _ (List.mem_append_left _ (List.mem_append_right _ h))) (by decide +kernel))) (goodIn_sub (fun _ h => List.mem_cons_of_mem _ (List.mem_append_right _ h)) (by decide +kernel))
set_option maxRecDepth 20000 in
theorem gL_asks_X3_copy : GoodIn wsL_asks (wsV RL 56 RX3 yX3_copy wsX3_copy) := goodIn_app (goodIn_of _ (by decide +kernel)) ggL_asks_X3_copy
set_option maxRecDepth 20000 in
theorem ggL_asks_X3_takeDown : GoodIn wsL_asks wsX3_takeDown := goodIn_ca (goodIn_r _ [183, 21, 22, 169, 170, 184, 194, 195, 196, 197, 198, 199, 200, 201, 214, 215, 216, 217] (by decide +kernel) (by decide +kernel)) (goodIn_sub (fun _ h => List.mem_cons_of_mem _ (List.mem_append_left _ (List.mem_append_right _ h))) (by decide +kernel))
set_option maxRecDepth 20000 in
theorem gL_asks_X3_takeDown : GoodIn wsL_asks (wsV RL 59 RX3 yX3_takeDown wsX3_takeDown) := goodIn_app (goodIn_of _ (by decide +kernel)) ggL_asks_X3_takeDown
theorem dL_asks_0 : decode cL_asks 0 = .ok (.iload_n 1, 1) := by decide +kernel
theorem dL_asks_1 : decode cL_asks 1 = .ok (.ifCond .ne 14, 3) := by decide +kernel
theorem dL_asks_4 : decode cL_asks 4 = .ok (.aload_n 0, 1) := by decide +kernel
theorem dL_asks_5 : decode cL_asks 5 = .ok (.iload_n 2, 1) := by decide +kernel
theorem dL_asks_6 : decode cL_asks 6 = .ok (.iload_n 3, 1) := by decide +kernel
theorem dL_asks_7 : decode cL_asks 7 = .ok (.iload 4, 2) := by decide +kernel
theorem dL_asks_9 : decode cL_asks 9 = .ok (.invokestatic 19, 3) := by decide +kernel
theorem dL_asks_12 : decode cL_asks 12 = .ok (.goto 171, 3) := by decide +kernel
theorem dL_asks_15 : decode cL_asks 15 = .ok (.iload_n 1, 1) := by decide +kernel
theorem dL_asks_16 : decode cL_asks 16 = .ok (.iconst 1, 1) := by decide +kernel
theorem dL_asks_17 : decode cL_asks 17 = .ok (.if_icmp .ne 12, 3) := by decide +kernel
theorem dL_asks_20 : decode cL_asks 20 = .ok (.aload_n 0, 1) := by decide +kernel
theorem dL_asks_21 : decode cL_asks 21 = .ok (.iload_n 2, 1) := by decide +kernel
theorem dL_asks_22 : decode cL_asks 22 = .ok (.iload_n 3, 1) := by decide +kernel
theorem dL_asks_23 : decode cL_asks 23 = .ok (.invokevirtual 25, 3) := by decide +kernel
theorem dL_asks_26 : decode cL_asks 26 = .ok (.goto 157, 3) := by decide +kernel
theorem dL_asks_29 : decode cL_asks 29 = .ok (.iload_n 1, 1) := by decide +kernel
theorem dL_asks_30 : decode cL_asks 30 = .ok (.iconst 2, 1) := by decide +kernel
theorem dL_asks_31 : decode cL_asks 31 = .ok (.if_icmp .ne 11, 3) := by decide +kernel
theorem dL_asks_34 : decode cL_asks 34 = .ok (.aload_n 0, 1) := by decide +kernel
theorem dL_asks_35 : decode cL_asks 35 = .ok (.iload_n 2, 1) := by decide +kernel
theorem dL_asks_36 : decode cL_asks 36 = .ok (.invokevirtual 29, 3) := by decide +kernel
theorem dL_asks_39 : decode cL_asks 39 = .ok (.goto 144, 3) := by decide +kernel
theorem dL_asks_42 : decode cL_asks 42 = .ok (.iload_n 1, 1) := by decide +kernel
theorem dL_asks_43 : decode cL_asks 43 = .ok (.iconst 3, 1) := by decide +kernel
theorem dL_asks_44 : decode cL_asks 44 = .ok (.if_icmp .ne 12, 3) := by decide +kernel
theorem dL_asks_47 : decode cL_asks 47 = .ok (.aload_n 0, 1) := by decide +kernel
theorem dL_asks_48 : decode cL_asks 48 = .ok (.iload_n 2, 1) := by decide +kernel
theorem dL_asks_49 : decode cL_asks 49 = .ok (.iload_n 3, 1) := by decide +kernel
theorem dL_asks_50 : decode cL_asks 50 = .ok (.invokevirtual 33, 3) := by decide +kernel
theorem dL_asks_53 : decode cL_asks 53 = .ok (.goto 130, 3) := by decide +kernel
theorem dL_asks_56 : decode cL_asks 56 = .ok (.iload_n 1, 1) := by decide +kernel
theorem dL_asks_57 : decode cL_asks 57 = .ok (.iconst 4, 1) := by decide +kernel
theorem dL_asks_58 : decode cL_asks 58 = .ok (.if_icmp .ne 12, 3) := by decide +kernel
theorem dL_asks_61 : decode cL_asks 61 = .ok (.aload_n 0, 1) := by decide +kernel
theorem dL_asks_62 : decode cL_asks 62 = .ok (.iload_n 2, 1) := by decide +kernel
theorem dL_asks_63 : decode cL_asks 63 = .ok (.iload_n 3, 1) := by decide +kernel
theorem dL_asks_64 : decode cL_asks 64 = .ok (.invokevirtual 36, 3) := by decide +kernel
theorem dL_asks_67 : decode cL_asks 67 = .ok (.goto 116, 3) := by decide +kernel
theorem dL_asks_70 : decode cL_asks 70 = .ok (.iload_n 1, 1) := by decide +kernel
theorem dL_asks_71 : decode cL_asks 71 = .ok (.iconst 5, 1) := by decide +kernel
theorem dL_asks_72 : decode cL_asks 72 = .ok (.if_icmp .ne 22, 3) := by decide +kernel
theorem dL_asks_75 : decode cL_asks 75 = .ok (.aload_n 0, 1) := by decide +kernel
theorem dL_asks_76 : decode cL_asks 76 = .ok (.iload_n 2, 1) := by decide +kernel
theorem dL_asks_77 : decode cL_asks 77 = .ok (.iload_n 3, 1) := by decide +kernel
theorem dL_asks_78 : decode cL_asks 78 = .ok (.iload 4, 2) := by decide +kernel
theorem dL_asks_80 : decode cL_asks 80 = .ok (.ifCond .le 7, 3) := by decide +kernel
theorem dL_asks_83 : decode cL_asks 83 = .ok (.iconst 1, 1) := by decide +kernel
theorem dL_asks_84 : decode cL_asks 84 = .ok (.goto 4, 3) := by decide +kernel
theorem dL_asks_87 : decode cL_asks 87 = .ok (.iconst 0, 1) := by decide +kernel
theorem dL_asks_88 : decode cL_asks 88 = .ok (.invokevirtual 39, 3) := by decide +kernel
theorem dL_asks_91 : decode cL_asks 91 = .ok (.goto 92, 3) := by decide +kernel
theorem dL_asks_94 : decode cL_asks 94 = .ok (.iload_n 1, 1) := by decide +kernel
theorem dL_asks_95 : decode cL_asks 95 = .ok (.bipush 6, 2) := by decide +kernel
theorem dL_asks_97 : decode cL_asks 97 = .ok (.if_icmp .ne 12, 3) := by decide +kernel
theorem dL_asks_100 : decode cL_asks 100 = .ok (.aload_n 0, 1) := by decide +kernel
theorem dL_asks_101 : decode cL_asks 101 = .ok (.iload_n 2, 1) := by decide +kernel
theorem dL_asks_102 : decode cL_asks 102 = .ok (.iload_n 3, 1) := by decide +kernel
theorem dL_asks_103 : decode cL_asks 103 = .ok (.invokevirtual 43, 3) := by decide +kernel
theorem dL_asks_106 : decode cL_asks 106 = .ok (.goto 77, 3) := by decide +kernel
theorem dL_asks_109 : decode cL_asks 109 = .ok (.iload_n 1, 1) := by decide +kernel
theorem dL_asks_110 : decode cL_asks 110 = .ok (.bipush 7, 2) := by decide +kernel
theorem dL_asks_112 : decode cL_asks 112 = .ok (.if_icmp .ne 14, 3) := by decide +kernel
theorem dL_asks_115 : decode cL_asks 115 = .ok (.aload_n 0, 1) := by decide +kernel
theorem dL_asks_116 : decode cL_asks 116 = .ok (.iload_n 2, 1) := by decide +kernel
theorem dL_asks_117 : decode cL_asks 117 = .ok (.iload_n 3, 1) := by decide +kernel
theorem dL_asks_118 : decode cL_asks 118 = .ok (.iload 4, 2) := by decide +kernel
theorem dL_asks_120 : decode cL_asks 120 = .ok (.invokestatic 46, 3) := by decide +kernel
theorem dL_asks_123 : decode cL_asks 123 = .ok (.goto 60, 3) := by decide +kernel
theorem dL_asks_126 : decode cL_asks 126 = .ok (.iload_n 1, 1) := by decide +kernel
theorem dL_asks_127 : decode cL_asks 127 = .ok (.bipush 8, 2) := by decide +kernel
theorem dL_asks_129 : decode cL_asks 129 = .ok (.if_icmp .ne 12, 3) := by decide +kernel
theorem dL_asks_132 : decode cL_asks 132 = .ok (.aload_n 0, 1) := by decide +kernel
theorem dL_asks_133 : decode cL_asks 133 = .ok (.iload_n 2, 1) := by decide +kernel
theorem dL_asks_134 : decode cL_asks 134 = .ok (.iload_n 3, 1) := by decide +kernel
theorem dL_asks_135 : decode cL_asks 135 = .ok (.invokevirtual 49, 3) := by decide +kernel
theorem dL_asks_138 : decode cL_asks 138 = .ok (.goto 45, 3) := by decide +kernel
theorem dL_asks_141 : decode cL_asks 141 = .ok (.iload_n 1, 1) := by decide +kernel
theorem dL_asks_142 : decode cL_asks 142 = .ok (.bipush 9, 2) := by decide +kernel
theorem dL_asks_144 : decode cL_asks 144 = .ok (.if_icmp .ne 19, 3) := by decide +kernel
theorem dL_asks_147 : decode cL_asks 147 = .ok (.aload_n 0, 1) := by decide +kernel
theorem dL_asks_148 : decode cL_asks 148 = .ok (.iload_n 2, 1) := by decide +kernel
theorem dL_asks_149 : decode cL_asks 149 = .ok (.invokevirtual 52, 3) := by decide +kernel
theorem dL_asks_152 : decode cL_asks 152 = .ok (.ifCond .eq 7, 3) := by decide +kernel
theorem dL_asks_155 : decode cL_asks 155 = .ok (.iconst 1, 1) := by decide +kernel
theorem dL_asks_156 : decode cL_asks 156 = .ok (.goto 27, 3) := by decide +kernel
theorem dL_asks_159 : decode cL_asks 159 = .ok (.iconst 0, 1) := by decide +kernel
theorem dL_asks_160 : decode cL_asks 160 = .ok (.goto 23, 3) := by decide +kernel
theorem dL_asks_163 : decode cL_asks 163 = .ok (.iload_n 1, 1) := by decide +kernel
theorem dL_asks_164 : decode cL_asks 164 = .ok (.bipush 10, 2) := by decide +kernel
theorem dL_asks_166 : decode cL_asks 166 = .ok (.if_icmp .ne 12, 3) := by decide +kernel
theorem dL_asks_169 : decode cL_asks 169 = .ok (.aload_n 0, 1) := by decide +kernel
theorem dL_asks_170 : decode cL_asks 170 = .ok (.iload_n 2, 1) := by decide +kernel
theorem dL_asks_171 : decode cL_asks 171 = .ok (.iload_n 3, 1) := by decide +kernel
theorem dL_asks_172 : decode cL_asks 172 = .ok (.invokevirtual 56, 3) := by decide +kernel
theorem dL_asks_175 : decode cL_asks 175 = .ok (.goto 8, 3) := by decide +kernel
theorem dL_asks_178 : decode cL_asks 178 = .ok (.aload_n 0, 1) := by decide +kernel
theorem dL_asks_179 : decode cL_asks 179 = .ok (.iload_n 2, 1) := by decide +kernel
theorem dL_asks_180 : decode cL_asks 180 = .ok (.invokevirtual 59, 3) := by decide +kernel
theorem dL_asks_183 : decode cL_asks 183 = .ok (.ireturn, 1) := by decide +kernel
theorem dL_asks_184 : decode cL_asks 184 = .ok (.astore 5, 2) := by decide +kernel
theorem dL_asks_186 : decode cL_asks 186 = .ok (.bipush (-7), 2) := by decide +kernel
theorem dL_asks_188 : decode cL_asks 188 = .ok (.ireturn, 1) := by decide +kernel
theorem dL_asks_189 : decode cL_asks 189 = .ok (.astore 5, 2) := by decide +kernel
theorem dL_asks_191 : decode cL_asks 191 = .ok (.bipush (-8), 2) := by decide +kernel
theorem dL_asks_193 : decode cL_asks 193 = .ok (.ireturn, 1) := by decide +kernel
theorem dL_asks_194 : decode cL_asks 194 = .ok (.astore 5, 2) := by decide +kernel
theorem dL_asks_196 : decode cL_asks 196 = .ok (.bipush (-9), 2) := by decide +kernel
theorem dL_asks_198 : decode cL_asks 198 = .ok (.ireturn, 1) := by decide +kernel
set_option maxRecDepth 20000 in
theorem ggL_isPaper_X3_step : GoodIn wsL_isPaper wsX3_step := goodIn_ca (goodIn_r _ [5, 6, 7, 8, 9, 10, 4, 11, 12, 13, 14, 15, 16, 17, 18, 19, 20, 21, 22, 23, 24, 25, 26, 27, 28, 29, 30, 31, 32, 33, 34, 35, 36, 37, 38, 39, 115, 116, 117, 118, 119, 120, 121, 122, 123, 124, 125, 126, 127, 128, 129, 130, 131, 132, 133, 134, 135, 136, 137, 138, 139, 140, 141, 142, 143] (by decide +kernel) (by decide +kernel)) (goodIn_sub (fun _ h => List.mem_cons_of_mem _ (List.mem_append_left _ (List.mem_append_right _ h))) (by decide +kernel))
set_option maxRecDepth 20000 in
theorem gL_isPaper_X3_step : GoodIn wsL_isPaper (wsV RL 68 RX3 yX3_step wsX3_step) := goodIn_app (goodIn_of _ (by decide +kernel)) ggL_isPaper_X3_step
set_option maxRecDepth 20000 in
theorem ggL_isPaper_X3_waitsFor : GoodIn wsL_isPaper wsX3_waitsFor := goodIn_ca (goodIn_r _ [43, 6, 7, 8, 9, 10, 4, 11, 12, 13, 14, 44, 45, 46, 18, 47, 48, 49, 16, 17, 19, 20, 21, 22, 23, 24, 25, 26, 27, 28, 29, 30, 31, 32, 33, 34, 35, 36, 37, 38, 39, 115, 116, 117, 118, 119, 120, 121, 122, 123, 124, 125, 126, 127, 128, 129, 130, 131, 132, 133, 134, 135, 136, 137, 138, 139, 140, 141, 142, 143] (by decide +kernel) (by decide +kernel)) (goodIn_sub (fun _ h => List.mem_cons_of_mem _ (List.mem_append_left _ (List.mem_append_right _ h))) (by decide +kernel))
set_option maxRecDepth 20000 in
theorem gL_isPaper_X3_waitsFor : GoodIn wsL_isPaper (wsV RL 71 RX3 yX3_waitsFor wsX3_waitsFor) := goodIn_app (goodIn_of _ (by decide +kernel)) ggL_isPaper_X3_waitsFor
set_option maxRecDepth 20000 in
theorem ggL_isPaper_X3_inForce : GoodIn wsL_isPaper wsX3_inForce := goodIn_ca (goodIn_r _ [53, 8, 9, 10, 4, 11, 12, 13, 14, 54, 55, 56, 57, 58, 59, 124, 125, 126, 127, 128, 129, 130, 131, 115, 116, 117, 118, 119, 120, 121, 122, 123] (by decide +kernel) (by decide +kernel)) (goodIn_sub (fun _ h => List.mem_cons_of_mem _ (List.mem_append_left _ (List.mem_append_right _ h))) (by decide +kernel))
set_option maxRecDepth 20000 in
theorem gL_isPaper_X3_inForce : GoodIn wsL_isPaper (wsV RL 74 RX3 yX3_inForce wsX3_inForce) := goodIn_app (goodIn_of _ (by decide +kernel)) ggL_isPaper_X3_inForce
set_option maxRecDepth 20000 in
theorem ggL_isPaper_X3_inForceOn : GoodIn wsL_isPaper wsX3_inForceOn := goodIn_ca (goodIn_ca (goodIn_r _ [63, 64, 8, 9, 10, 4, 11, 12, 13, 14, 65, 66, 67, 68, 69, 70, 71, 72, 57, 73, 59, 74, 124, 125, 126, 127, 128, 129, 130, 131, 115, 116, 117, 118, 119, 120, 121, 122, 123] (by decide +kernel) (by decide +kernel)) (goodIn_sub (fun _ h => List.mem_cons_of_mem _ (List.mem_append_left _ (List.mem_append_right _ h))) (by decide +kernel))) (goodIn_sub (fun _ h => List.mem_cons_of_mem _ (List.mem_append_right _ h)) (by decide +kernel))
set_option maxRecDepth 20000 in
theorem gL_isPaper_X3_inForceOn : GoodIn wsL_isPaper (wsV RL 77 RX3 yX3_inForceOn wsX3_inForceOn) := goodIn_app (goodIn_of _ (by decide +kernel)) ggL_isPaper_X3_inForceOn
set_option maxRecDepth 20000 in
theorem ggL_isPaper_X3_isDue : GoodIn wsL_isPaper wsX3_isDue := goodIn_ca (goodIn_r _ [78, 64, 79, 8, 9, 10, 4, 11, 12, 13, 14, 80, 81, 82, 57, 83, 59, 84, 85, 124, 125, 126, 127, 128, 129, 130, 131, 115, 116, 117, 118, 119, 120, 121, 122, 123] (by decide +kernel) (by decide +kernel)) (goodIn_sub (fun _ h => List.mem_cons_of_mem _ (List.mem_append_left _ (List.mem_append_right _ h))) (by decide +kernel))
set_option maxRecDepth 20000 in
theorem gL_isPaper_X3_isDue : GoodIn wsL_isPaper (wsV RL 80 RX3 yX3_isDue wsX3_isDue) := goodIn_app (goodIn_of _ (by decide +kernel)) ggL_isPaper_X3_isDue
set_option maxRecDepth 20000 in
theorem ggL_isPaper_X3_outOfDate : GoodIn wsL_isPaper wsX3_outOfDate := goodIn_ca (goodIn_r _ [89, 90, 8, 9, 10, 4, 11, 12, 13, 14, 54, 55, 56, 57, 58, 59, 91, 92, 93, 94, 95, 96, 97, 98, 99, 124, 125, 126, 127, 128, 129, 130, 131, 115, 116, 117, 118, 119, 120, 121, 122, 123, 144, 145, 146, 147] (by decide +kernel) (by decide +kernel)) (goodIn_sub (fun _ h => List.mem_cons_of_mem _ (List.mem_append_left _ (List.mem_append_right _ h))) (by decide +kernel))
set_option maxRecDepth 20000 in
theorem gL_isPaper_X3_outOfDate : GoodIn wsL_isPaper (wsV RL 83 RX3 yX3_outOfDate wsX3_outOfDate) := goodIn_app (goodIn_of _ (by decide +kernel)) ggL_isPaper_X3_outOfDate
set_option maxRecDepth 20000 in
theorem ggL_isPaper_X3_text : GoodIn wsL_isPaper wsX3_text := goodIn_ca (goodIn_r _ [103, 104, 8, 9, 10, 4, 11, 12, 13, 14, 54, 55, 56, 57, 58, 59, 115, 116, 117, 118, 119, 120, 121, 122, 123, 124, 125, 126, 127, 128, 129, 130, 131] (by decide +kernel) (by decide +kernel)) (goodIn_sub (fun _ h => List.mem_cons_of_mem _ (List.mem_append_left _ (List.mem_append_right _ h))) (by decide +kernel))
set_option maxRecDepth 20000 in
theorem gL_isPaper_X3_text : GoodIn wsL_isPaper (wsV RL 86 RX3 yX3_text wsX3_text) := goodIn_app (goodIn_of _ (by decide +kernel)) ggL_isPaper_X3_text
set_option maxRecDepth 20000 in
theorem ggL_isPaper_X3_since : GoodIn wsL_isPaper wsX3_since := goodIn_ca (goodIn_r _ [108, 12, 13, 109, 110, 8, 9, 10, 4, 11, 14, 115, 116, 117, 118, 119, 120, 121, 122, 123, 124, 125, 126, 127, 128, 129, 130, 131] (by decide +kernel) (by decide +kernel)) (goodIn_sub (fun _ h => List.mem_cons_of_mem _ (List.mem_append_left _ (List.mem_append_right _ h))) (by decide +kernel))
set_option maxRecDepth 20000 in
theorem gL_isPaper_X3_since : GoodIn wsL_isPaper (wsV RL 89 RX3 yX3_since wsX3_since) := goodIn_app (goodIn_of _ (by decide +kernel)) ggL_isPaper_X3_since
set_option maxRecDepth 20000 in
theorem ggL_isPaper_L_has : GoodIn wsL_isPaper wsL_has := goodIn_r _ [114] (by decide +kernel) (by decide +kernel)
set_option maxRecDepth 20000 in
theorem gL_isPaper_L_has : GoodIn wsL_isPaper (va_wsS RL 92 yL_has wsL_has) := goodIn_app (goodIn_of _ (by decide +kernel)) ggL_isPaper_L_has
theorem dL_isPaper_0 : decode cL_isPaper 0 = .ok (.bipush 8, 2) := by decide +kernel
theorem dL_isPaper_2 : decode cL_isPaper 2 = .ok (.iload 5, 2) := by decide +kernel
theorem dL_isPaper_4 : decode cL_isPaper 4 = .ok (.imul, 1) := by decide +kernel
theorem dL_isPaper_5 : decode cL_isPaper 5 = .ok (.istore 6, 2) := by decide +kernel
theorem dL_isPaper_7 : decode cL_isPaper 7 = .ok (.aload_n 1, 1) := by decide +kernel
theorem dL_isPaper_8 : decode cL_isPaper 8 = .ok (.iload 6, 2) := by decide +kernel
theorem dL_isPaper_10 : decode cL_isPaper 10 = .ok (.iconst 5, 1) := by decide +kernel
theorem dL_isPaper_11 : decode cL_isPaper 11 = .ok (.iadd, 1) := by decide +kernel
theorem dL_isPaper_12 : decode cL_isPaper 12 = .ok (.iaload, 1) := by decide +kernel
theorem dL_isPaper_13 : decode cL_isPaper 13 = .ok (.iconst 1, 1) := by decide +kernel
theorem dL_isPaper_14 : decode cL_isPaper 14 = .ok (.isub, 1) := by decide +kernel
theorem dL_isPaper_15 : decode cL_isPaper 15 = .ok (.istore 7, 2) := by decide +kernel
theorem dL_isPaper_17 : decode cL_isPaper 17 = .ok (.aload_n 0, 1) := by decide +kernel
theorem dL_isPaper_18 : decode cL_isPaper 18 = .ok (.iload 5, 2) := by decide +kernel
theorem dL_isPaper_20 : decode cL_isPaper 20 = .ok (.invokevirtual 68, 3) := by decide +kernel
theorem dL_isPaper_23 : decode cL_isPaper 23 = .ok (.istore 8, 2) := by decide +kernel
theorem dL_isPaper_25 : decode cL_isPaper 25 = .ok (.aload_n 0, 1) := by decide +kernel
theorem dL_isPaper_26 : decode cL_isPaper 26 = .ok (.iload 5, 2) := by decide +kernel
theorem dL_isPaper_28 : decode cL_isPaper 28 = .ok (.invokevirtual 71, 3) := by decide +kernel
theorem dL_isPaper_31 : decode cL_isPaper 31 = .ok (.istore 9, 2) := by decide +kernel
theorem dL_isPaper_33 : decode cL_isPaper 33 = .ok (.iconst 0, 1) := by decide +kernel
theorem dL_isPaper_34 : decode cL_isPaper 34 = .ok (.istore 10, 2) := by decide +kernel
theorem dL_isPaper_36 : decode cL_isPaper 36 = .ok (.iconst 0, 1) := by decide +kernel
theorem dL_isPaper_37 : decode cL_isPaper 37 = .ok (.istore 11, 2) := by decide +kernel
theorem dL_isPaper_39 : decode cL_isPaper 39 = .ok (.iload 11, 2) := by decide +kernel
theorem dL_isPaper_41 : decode cL_isPaper 41 = .ok (.aload_n 2, 1) := by decide +kernel
theorem dL_isPaper_42 : decode cL_isPaper 42 = .ok (.iconst 3, 1) := by decide +kernel
theorem dL_isPaper_43 : decode cL_isPaper 43 = .ok (.iaload, 1) := by decide +kernel
theorem dL_isPaper_44 : decode cL_isPaper 44 = .ok (.if_icmp .ge 57, 3) := by decide +kernel
theorem dL_isPaper_47 : decode cL_isPaper 47 = .ok (.iload 10, 2) := by decide +kernel
theorem dL_isPaper_49 : decode cL_isPaper 49 = .ok (.aload 4, 2) := by decide +kernel
theorem dL_isPaper_51 : decode cL_isPaper 51 = .ok (.iconst 3, 1) := by decide +kernel
theorem dL_isPaper_52 : decode cL_isPaper 52 = .ok (.iload 11, 2) := by decide +kernel
theorem dL_isPaper_54 : decode cL_isPaper 54 = .ok (.imul, 1) := by decide +kernel
theorem dL_isPaper_55 : decode cL_isPaper 55 = .ok (.iaload, 1) := by decide +kernel
theorem dL_isPaper_56 : decode cL_isPaper 56 = .ok (.iload 5, 2) := by decide +kernel
theorem dL_isPaper_58 : decode cL_isPaper 58 = .ok (.if_icmp .ne 33, 3) := by decide +kernel
theorem dL_isPaper_61 : decode cL_isPaper 61 = .ok (.aload 4, 2) := by decide +kernel
theorem dL_isPaper_63 : decode cL_isPaper 63 = .ok (.iconst 3, 1) := by decide +kernel
theorem dL_isPaper_64 : decode cL_isPaper 64 = .ok (.iload 11, 2) := by decide +kernel
theorem dL_isPaper_66 : decode cL_isPaper 66 = .ok (.imul, 1) := by decide +kernel
theorem dL_isPaper_67 : decode cL_isPaper 67 = .ok (.iconst 2, 1) := by decide +kernel
theorem dL_isPaper_68 : decode cL_isPaper 68 = .ok (.iadd, 1) := by decide +kernel
theorem dL_isPaper_69 : decode cL_isPaper 69 = .ok (.iaload, 1) := by decide +kernel
theorem dL_isPaper_70 : decode cL_isPaper 70 = .ok (.ifCond .le 21, 3) := by decide +kernel
theorem dL_isPaper_73 : decode cL_isPaper 73 = .ok (.aload 4, 2) := by decide +kernel
theorem dL_isPaper_75 : decode cL_isPaper 75 = .ok (.iconst 3, 1) := by decide +kernel
theorem dL_isPaper_76 : decode cL_isPaper 76 = .ok (.iload 11, 2) := by decide +kernel
theorem dL_isPaper_78 : decode cL_isPaper 78 = .ok (.imul, 1) := by decide +kernel
theorem dL_isPaper_79 : decode cL_isPaper 79 = .ok (.iconst 1, 1) := by decide +kernel
theorem dL_isPaper_80 : decode cL_isPaper 80 = .ok (.iadd, 1) := by decide +kernel
theorem dL_isPaper_81 : decode cL_isPaper 81 = .ok (.iaload, 1) := by decide +kernel
theorem dL_isPaper_82 : decode cL_isPaper 82 = .ok (.iload 7, 2) := by decide +kernel
theorem dL_isPaper_84 : decode cL_isPaper 84 = .ok (.if_icmp .eq 7, 3) := by decide +kernel
theorem dL_isPaper_87 : decode cL_isPaper 87 = .ok (.iconst 1, 1) := by decide +kernel
theorem dL_isPaper_88 : decode cL_isPaper 88 = .ok (.goto 4, 3) := by decide +kernel
theorem dL_isPaper_91 : decode cL_isPaper 91 = .ok (.iconst 0, 1) := by decide +kernel
theorem dL_isPaper_92 : decode cL_isPaper 92 = .ok (.iadd, 1) := by decide +kernel
theorem dL_isPaper_93 : decode cL_isPaper 93 = .ok (.istore 10, 2) := by decide +kernel
theorem dL_isPaper_95 : decode cL_isPaper 95 = .ok (.iinc 11 1, 3) := by decide +kernel
theorem dL_isPaper_98 : decode cL_isPaper 98 = .ok (.goto (-59), 3) := by decide +kernel
theorem dL_isPaper_101 : decode cL_isPaper 101 = .ok (.iload 7, 2) := by decide +kernel
theorem dL_isPaper_103 : decode cL_isPaper 103 = .ok (.ifCond .lt 35, 3) := by decide +kernel
theorem dL_isPaper_106 : decode cL_isPaper 106 = .ok (.aload_n 1, 1) := by decide +kernel
theorem dL_isPaper_107 : decode cL_isPaper 107 = .ok (.iload 6, 2) := by decide +kernel
theorem dL_isPaper_109 : decode cL_isPaper 109 = .ok (.bipush 7, 2) := by decide +kernel
theorem dL_isPaper_111 : decode cL_isPaper 111 = .ok (.iadd, 1) := by decide +kernel
theorem dL_isPaper_112 : decode cL_isPaper 112 = .ok (.iaload, 1) := by decide +kernel
theorem dL_isPaper_113 : decode cL_isPaper 113 = .ok (.iconst 1, 1) := by decide +kernel
theorem dL_isPaper_114 : decode cL_isPaper 114 = .ok (.if_icmp .eq 20, 3) := by decide +kernel
theorem dL_isPaper_117 : decode cL_isPaper 117 = .ok (.aload_n 2, 1) := by decide +kernel
theorem dL_isPaper_118 : decode cL_isPaper 118 = .ok (.iconst 0, 1) := by decide +kernel
theorem dL_isPaper_119 : decode cL_isPaper 119 = .ok (.iaload, 1) := by decide +kernel
theorem dL_isPaper_120 : decode cL_isPaper 120 = .ok (.aload_n 1, 1) := by decide +kernel
theorem dL_isPaper_121 : decode cL_isPaper 121 = .ok (.iload 6, 2) := by decide +kernel
theorem dL_isPaper_123 : decode cL_isPaper 123 = .ok (.bipush 6, 2) := by decide +kernel
theorem dL_isPaper_125 : decode cL_isPaper 125 = .ok (.iadd, 1) := by decide +kernel
theorem dL_isPaper_126 : decode cL_isPaper 126 = .ok (.iaload, 1) := by decide +kernel
theorem dL_isPaper_127 : decode cL_isPaper 127 = .ok (.isub, 1) := by decide +kernel
theorem dL_isPaper_128 : decode cL_isPaper 128 = .ok (.aload_n 2, 1) := by decide +kernel
theorem dL_isPaper_129 : decode cL_isPaper 129 = .ok (.iconst 2, 1) := by decide +kernel
theorem dL_isPaper_130 : decode cL_isPaper 130 = .ok (.iaload, 1) := by decide +kernel
theorem dL_isPaper_131 : decode cL_isPaper 131 = .ok (.if_icmp .lt 7, 3) := by decide +kernel
theorem dL_isPaper_134 : decode cL_isPaper 134 = .ok (.iconst 1, 1) := by decide +kernel
theorem dL_isPaper_135 : decode cL_isPaper 135 = .ok (.goto 4, 3) := by decide +kernel
theorem dL_isPaper_138 : decode cL_isPaper 138 = .ok (.iconst 0, 1) := by decide +kernel
theorem dL_isPaper_139 : decode cL_isPaper 139 = .ok (.istore 11, 2) := by decide +kernel
theorem dL_isPaper_141 : decode cL_isPaper 141 = .ok (.aload_n 0, 1) := by decide +kernel
theorem dL_isPaper_142 : decode cL_isPaper 142 = .ok (.iload 5, 2) := by decide +kernel
theorem dL_isPaper_144 : decode cL_isPaper 144 = .ok (.invokevirtual 74, 3) := by decide +kernel
theorem dL_isPaper_147 : decode cL_isPaper 147 = .ok (.iload 7, 2) := by decide +kernel
theorem dL_isPaper_149 : decode cL_isPaper 149 = .ok (.if_icmp .ne 79, 3) := by decide +kernel
theorem dL_isPaper_152 : decode cL_isPaper 152 = .ok (.aload_n 0, 1) := by decide +kernel
theorem dL_isPaper_153 : decode cL_isPaper 153 = .ok (.iload 5, 2) := by decide +kernel
theorem dL_isPaper_155 : decode cL_isPaper 155 = .ok (.aload_n 2, 1) := by decide +kernel
theorem dL_isPaper_156 : decode cL_isPaper 156 = .ok (.iconst 0, 1) := by decide +kernel
theorem dL_isPaper_157 : decode cL_isPaper 157 = .ok (.iaload, 1) := by decide +kernel
theorem dL_isPaper_158 : decode cL_isPaper 158 = .ok (.invokevirtual 77, 3) := by decide +kernel
theorem dL_isPaper_161 : decode cL_isPaper 161 = .ok (.iload 7, 2) := by decide +kernel
theorem dL_isPaper_163 : decode cL_isPaper 163 = .ok (.if_icmp .ne 65, 3) := by decide +kernel
theorem dL_isPaper_166 : decode cL_isPaper 166 = .ok (.aload_n 0, 1) := by decide +kernel
theorem dL_isPaper_167 : decode cL_isPaper 167 = .ok (.iload 5, 2) := by decide +kernel
theorem dL_isPaper_169 : decode cL_isPaper 169 = .ok (.invokevirtual 80, 3) := by decide +kernel
theorem dL_isPaper_172 : decode cL_isPaper 172 = .ok (.iload 11, 2) := by decide +kernel
theorem dL_isPaper_174 : decode cL_isPaper 174 = .ok (.if_icmp .ne 54, 3) := by decide +kernel
theorem dL_isPaper_177 : decode cL_isPaper 177 = .ok (.aload_n 0, 1) := by decide +kernel
theorem dL_isPaper_178 : decode cL_isPaper 178 = .ok (.iload 5, 2) := by decide +kernel
theorem dL_isPaper_180 : decode cL_isPaper 180 = .ok (.invokevirtual 83, 3) := by decide +kernel
theorem dL_isPaper_183 : decode cL_isPaper 183 = .ok (.iload 10, 2) := by decide +kernel
theorem dL_isPaper_185 : decode cL_isPaper 185 = .ok (.if_icmp .ne 43, 3) := by decide +kernel
theorem dL_isPaper_188 : decode cL_isPaper 188 = .ok (.iload 8, 2) := by decide +kernel
theorem dL_isPaper_190 : decode cL_isPaper 190 = .ok (.ifCond .ne 7, 3) := by decide +kernel
theorem dL_isPaper_193 : decode cL_isPaper 193 = .ok (.iconst 1, 1) := by decide +kernel
theorem dL_isPaper_194 : decode cL_isPaper 194 = .ok (.goto 4, 3) := by decide +kernel
theorem dL_isPaper_197 : decode cL_isPaper 197 = .ok (.iconst 0, 1) := by decide +kernel
theorem dL_isPaper_198 : decode cL_isPaper 198 = .ok (.aload_n 1, 1) := by decide +kernel
theorem dL_isPaper_199 : decode cL_isPaper 199 = .ok (.iload 6, 2) := by decide +kernel
theorem dL_isPaper_201 : decode cL_isPaper 201 = .ok (.iaload, 1) := by decide +kernel
theorem dL_isPaper_202 : decode cL_isPaper 202 = .ok (.ifCond .ne 7, 3) := by decide +kernel
theorem dL_isPaper_205 : decode cL_isPaper 205 = .ok (.iconst 1, 1) := by decide +kernel
theorem dL_isPaper_206 : decode cL_isPaper 206 = .ok (.goto 4, 3) := by decide +kernel
theorem dL_isPaper_209 : decode cL_isPaper 209 = .ok (.iconst 0, 1) := by decide +kernel
theorem dL_isPaper_210 : decode cL_isPaper 210 = .ok (.if_icmp .ne 18, 3) := by decide +kernel
theorem dL_isPaper_213 : decode cL_isPaper 213 = .ok (.iload 8, 2) := by decide +kernel
theorem dL_isPaper_215 : decode cL_isPaper 215 = .ok (.ifCond .lt 13, 3) := by decide +kernel
theorem dL_isPaper_218 : decode cL_isPaper 218 = .ok (.iload 8, 2) := by decide +kernel
theorem dL_isPaper_220 : decode cL_isPaper 220 = .ok (.iconst 5, 1) := by decide +kernel
theorem dL_isPaper_221 : decode cL_isPaper 221 = .ok (.if_icmp .gt 7, 3) := by decide +kernel
theorem dL_isPaper_224 : decode cL_isPaper 224 = .ok (.iconst 1, 1) := by decide +kernel
theorem dL_isPaper_225 : decode cL_isPaper 225 = .ok (.goto 4, 3) := by decide +kernel
theorem dL_isPaper_228 : decode cL_isPaper 228 = .ok (.iconst 0, 1) := by decide +kernel
theorem dL_isPaper_229 : decode cL_isPaper 229 = .ok (.istore 12, 2) := by decide +kernel
theorem dL_isPaper_231 : decode cL_isPaper 231 = .ok (.iload 12, 2) := by decide +kernel
theorem dL_isPaper_233 : decode cL_isPaper 233 = .ok (.ifCond .eq 92, 3) := by decide +kernel
theorem dL_isPaper_236 : decode cL_isPaper 236 = .ok (.iload 7, 2) := by decide +kernel
theorem dL_isPaper_238 : decode cL_isPaper 238 = .ok (.ifCond .ge 16, 3) := by decide +kernel
theorem dL_isPaper_241 : decode cL_isPaper 241 = .ok (.aload_n 0, 1) := by decide +kernel
theorem dL_isPaper_242 : decode cL_isPaper 242 = .ok (.iload 5, 2) := by decide +kernel
theorem dL_isPaper_244 : decode cL_isPaper 244 = .ok (.invokevirtual 86, 3) := by decide +kernel
theorem dL_isPaper_247 : decode cL_isPaper 247 = .ok (.iconst (-1), 1) := by decide +kernel
theorem dL_isPaper_248 : decode cL_isPaper 248 = .ok (.if_icmp .ne 77, 3) := by decide +kernel
theorem dL_isPaper_251 : decode cL_isPaper 251 = .ok (.goto 70, 3) := by decide +kernel
theorem dL_isPaper_254 : decode cL_isPaper 254 = .ok (.aload_n 0, 1) := by decide +kernel
theorem dL_isPaper_255 : decode cL_isPaper 255 = .ok (.iload 5, 2) := by decide +kernel
theorem dL_isPaper_257 : decode cL_isPaper 257 = .ok (.iload 7, 2) := by decide +kernel
theorem dL_isPaper_259 : decode cL_isPaper 259 = .ok (.invokevirtual 89, 3) := by decide +kernel
theorem dL_isPaper_262 : decode cL_isPaper 262 = .ok (.aload_n 2, 1) := by decide +kernel
theorem dL_isPaper_263 : decode cL_isPaper 263 = .ok (.iconst 0, 1) := by decide +kernel
theorem dL_isPaper_264 : decode cL_isPaper 264 = .ok (.iaload, 1) := by decide +kernel
theorem dL_isPaper_265 : decode cL_isPaper 265 = .ok (.if_icmp .gt 60, 3) := by decide +kernel
theorem dL_isPaper_268 : decode cL_isPaper 268 = .ok (.aload_n 0, 1) := by decide +kernel
theorem dL_isPaper_269 : decode cL_isPaper 269 = .ok (.iload 5, 2) := by decide +kernel
theorem dL_isPaper_271 : decode cL_isPaper 271 = .ok (.iload 7, 2) := by decide +kernel
theorem dL_isPaper_273 : decode cL_isPaper 273 = .ok (.invokevirtual 89, 3) := by decide +kernel
theorem dL_isPaper_276 : decode cL_isPaper 276 = .ok (.ifCond .eq 26, 3) := by decide +kernel
theorem dL_isPaper_279 : decode cL_isPaper 279 = .ok (.aload_n 0, 1) := by decide +kernel
theorem dL_isPaper_280 : decode cL_isPaper 280 = .ok (.iload 5, 2) := by decide +kernel
theorem dL_isPaper_282 : decode cL_isPaper 282 = .ok (.aload_n 0, 1) := by decide +kernel
theorem dL_isPaper_283 : decode cL_isPaper 283 = .ok (.iload 5, 2) := by decide +kernel
theorem dL_isPaper_285 : decode cL_isPaper 285 = .ok (.iload 7, 2) := by decide +kernel
theorem dL_isPaper_287 : decode cL_isPaper 287 = .ok (.invokevirtual 89, 3) := by decide +kernel
theorem dL_isPaper_290 : decode cL_isPaper 290 = .ok (.iconst 1, 1) := by decide +kernel
theorem dL_isPaper_291 : decode cL_isPaper 291 = .ok (.isub, 1) := by decide +kernel
theorem dL_isPaper_292 : decode cL_isPaper 292 = .ok (.invokevirtual 77, 3) := by decide +kernel
theorem dL_isPaper_295 : decode cL_isPaper 295 = .ok (.iload 7, 2) := by decide +kernel
theorem dL_isPaper_297 : decode cL_isPaper 297 = .ok (.iconst 1, 1) := by decide +kernel
theorem dL_isPaper_298 : decode cL_isPaper 298 = .ok (.isub, 1) := by decide +kernel
theorem dL_isPaper_299 : decode cL_isPaper 299 = .ok (.if_icmp .ne 26, 3) := by decide +kernel
theorem dL_isPaper_302 : decode cL_isPaper 302 = .ok (.aload_n 0, 1) := by decide +kernel
theorem dL_isPaper_303 : decode cL_isPaper 303 = .ok (.iload 5, 2) := by decide +kernel
theorem dL_isPaper_305 : decode cL_isPaper 305 = .ok (.aload_n 0, 1) := by decide +kernel
theorem dL_isPaper_306 : decode cL_isPaper 306 = .ok (.iload 5, 2) := by decide +kernel
theorem dL_isPaper_308 : decode cL_isPaper 308 = .ok (.iload 7, 2) := by decide +kernel
theorem dL_isPaper_310 : decode cL_isPaper 310 = .ok (.invokevirtual 89, 3) := by decide +kernel
theorem dL_isPaper_313 : decode cL_isPaper 313 = .ok (.invokevirtual 77, 3) := by decide +kernel
theorem dL_isPaper_316 : decode cL_isPaper 316 = .ok (.iload 7, 2) := by decide +kernel
theorem dL_isPaper_318 : decode cL_isPaper 318 = .ok (.if_icmp .ne 7, 3) := by decide +kernel
theorem dL_isPaper_321 : decode cL_isPaper 321 = .ok (.iconst 1, 1) := by decide +kernel
theorem dL_isPaper_322 : decode cL_isPaper 322 = .ok (.goto 4, 3) := by decide +kernel
theorem dL_isPaper_325 : decode cL_isPaper 325 = .ok (.iconst 0, 1) := by decide +kernel
theorem dL_isPaper_326 : decode cL_isPaper 326 = .ok (.istore 12, 2) := by decide +kernel
theorem dL_isPaper_328 : decode cL_isPaper 328 = .ok (.iload 8, 2) := by decide +kernel
theorem dL_isPaper_330 : decode cL_isPaper 330 = .ok (.iconst 1, 1) := by decide +kernel
theorem dL_isPaper_331 : decode cL_isPaper 331 = .ok (.if_icmp .ne 59, 3) := by decide +kernel
theorem dL_isPaper_334 : decode cL_isPaper 334 = .ok (.iload 9, 2) := by decide +kernel
theorem dL_isPaper_336 : decode cL_isPaper 336 = .ok (.iconst (-1), 1) := by decide +kernel
theorem dL_isPaper_337 : decode cL_isPaper 337 = .ok (.if_icmp .ne 7, 3) := by decide +kernel
theorem dL_isPaper_340 : decode cL_isPaper 340 = .ok (.iconst 1, 1) := by decide +kernel
theorem dL_isPaper_341 : decode cL_isPaper 341 = .ok (.goto 4, 3) := by decide +kernel
theorem dL_isPaper_344 : decode cL_isPaper 344 = .ok (.iconst 0, 1) := by decide +kernel
theorem dL_isPaper_345 : decode cL_isPaper 345 = .ok (.aload_n 3, 1) := by decide +kernel
theorem dL_isPaper_346 : decode cL_isPaper 346 = .ok (.iconst 2, 1) := by decide +kernel
theorem dL_isPaper_347 : decode cL_isPaper 347 = .ok (.iload 5, 2) := by decide +kernel
theorem dL_isPaper_349 : decode cL_isPaper 349 = .ok (.imul, 1) := by decide +kernel
theorem dL_isPaper_350 : decode cL_isPaper 350 = .ok (.iaload, 1) := by decide +kernel
theorem dL_isPaper_351 : decode cL_isPaper 351 = .ok (.ifCond .ne 7, 3) := by decide +kernel
theorem dL_isPaper_354 : decode cL_isPaper 354 = .ok (.iconst 1, 1) := by decide +kernel
theorem dL_isPaper_355 : decode cL_isPaper 355 = .ok (.goto 4, 3) := by decide +kernel
theorem dL_isPaper_358 : decode cL_isPaper 358 = .ok (.iconst 0, 1) := by decide +kernel
theorem dL_isPaper_359 : decode cL_isPaper 359 = .ok (.if_icmp .ne 27, 3) := by decide +kernel
theorem dL_isPaper_362 : decode cL_isPaper 362 = .ok (.iload 9, 2) := by decide +kernel
theorem dL_isPaper_364 : decode cL_isPaper 364 = .ok (.iconst (-1), 1) := by decide +kernel
theorem dL_isPaper_365 : decode cL_isPaper 365 = .ok (.if_icmp .eq 17, 3) := by decide +kernel
theorem dL_isPaper_368 : decode cL_isPaper 368 = .ok (.aload_n 3, 1) := by decide +kernel
theorem dL_isPaper_369 : decode cL_isPaper 369 = .ok (.iconst 2, 1) := by decide +kernel
theorem dL_isPaper_370 : decode cL_isPaper 370 = .ok (.iload 5, 2) := by decide +kernel
theorem dL_isPaper_372 : decode cL_isPaper 372 = .ok (.imul, 1) := by decide +kernel
theorem dL_isPaper_373 : decode cL_isPaper 373 = .ok (.iaload, 1) := by decide +kernel
theorem dL_isPaper_374 : decode cL_isPaper 374 = .ok (.iload 9, 2) := by decide +kernel
theorem dL_isPaper_376 : decode cL_isPaper 376 = .ok (.invokestatic 92, 3) := by decide +kernel
theorem dL_isPaper_379 : decode cL_isPaper 379 = .ok (.ifCond .eq 7, 3) := by decide +kernel
theorem dL_isPaper_382 : decode cL_isPaper 382 = .ok (.iconst 1, 1) := by decide +kernel
theorem dL_isPaper_383 : decode cL_isPaper 383 = .ok (.goto 78, 3) := by decide +kernel
theorem dL_isPaper_386 : decode cL_isPaper 386 = .ok (.iconst 0, 1) := by decide +kernel
theorem dL_isPaper_387 : decode cL_isPaper 387 = .ok (.goto 74, 3) := by decide +kernel
theorem dL_isPaper_390 : decode cL_isPaper 390 = .ok (.iload 8, 2) := by decide +kernel
theorem dL_isPaper_392 : decode cL_isPaper 392 = .ok (.iconst 2, 1) := by decide +kernel
theorem dL_isPaper_393 : decode cL_isPaper 393 = .ok (.if_icmp .ne 22, 3) := by decide +kernel
theorem dL_isPaper_396 : decode cL_isPaper 396 = .ok (.iload 9, 2) := by decide +kernel
theorem dL_isPaper_398 : decode cL_isPaper 398 = .ok (.aload_n 1, 1) := by decide +kernel
theorem dL_isPaper_399 : decode cL_isPaper 399 = .ok (.iload 6, 2) := by decide +kernel
theorem dL_isPaper_401 : decode cL_isPaper 401 = .ok (.iconst 1, 1) := by decide +kernel
theorem dL_isPaper_402 : decode cL_isPaper 402 = .ok (.iadd, 1) := by decide +kernel
theorem dL_isPaper_403 : decode cL_isPaper 403 = .ok (.iaload, 1) := by decide +kernel
theorem dL_isPaper_404 : decode cL_isPaper 404 = .ok (.if_icmp .ne 7, 3) := by decide +kernel
theorem dL_isPaper_407 : decode cL_isPaper 407 = .ok (.iconst 1, 1) := by decide +kernel
theorem dL_isPaper_408 : decode cL_isPaper 408 = .ok (.goto 53, 3) := by decide +kernel
theorem dL_isPaper_411 : decode cL_isPaper 411 = .ok (.iconst 0, 1) := by decide +kernel
theorem dL_isPaper_412 : decode cL_isPaper 412 = .ok (.goto 49, 3) := by decide +kernel
theorem dL_isPaper_415 : decode cL_isPaper 415 = .ok (.iload 8, 2) := by decide +kernel
theorem dL_isPaper_417 : decode cL_isPaper 417 = .ok (.iconst 4, 1) := by decide +kernel
theorem dL_isPaper_418 : decode cL_isPaper 418 = .ok (.if_icmp .ne 32, 3) := by decide +kernel
theorem dL_isPaper_421 : decode cL_isPaper 421 = .ok (.iload 9, 2) := by decide +kernel
theorem dL_isPaper_423 : decode cL_isPaper 423 = .ok (.ifCond .lt 23, 3) := by decide +kernel
theorem dL_isPaper_426 : decode cL_isPaper 426 = .ok (.aload_n 3, 1) := by decide +kernel
theorem dL_isPaper_427 : decode cL_isPaper 427 = .ok (.iconst 2, 1) := by decide +kernel
theorem dL_isPaper_428 : decode cL_isPaper 428 = .ok (.iload 5, 2) := by decide +kernel
theorem dL_isPaper_430 : decode cL_isPaper 430 = .ok (.imul, 1) := by decide +kernel
theorem dL_isPaper_431 : decode cL_isPaper 431 = .ok (.iconst 1, 1) := by decide +kernel
theorem dL_isPaper_432 : decode cL_isPaper 432 = .ok (.iadd, 1) := by decide +kernel
theorem dL_isPaper_433 : decode cL_isPaper 433 = .ok (.iaload, 1) := by decide +kernel
theorem dL_isPaper_434 : decode cL_isPaper 434 = .ok (.iload 9, 2) := by decide +kernel
theorem dL_isPaper_436 : decode cL_isPaper 436 = .ok (.invokestatic 92, 3) := by decide +kernel
theorem dL_isPaper_439 : decode cL_isPaper 439 = .ok (.ifCond .eq 7, 3) := by decide +kernel
theorem dL_isPaper_442 : decode cL_isPaper 442 = .ok (.iconst 1, 1) := by decide +kernel
theorem dL_isPaper_443 : decode cL_isPaper 443 = .ok (.goto 18, 3) := by decide +kernel
theorem dL_isPaper_446 : decode cL_isPaper 446 = .ok (.iconst 0, 1) := by decide +kernel
theorem dL_isPaper_447 : decode cL_isPaper 447 = .ok (.goto 14, 3) := by decide +kernel
theorem dL_isPaper_450 : decode cL_isPaper 450 = .ok (.iload 9, 2) := by decide +kernel
theorem dL_isPaper_452 : decode cL_isPaper 452 = .ok (.iconst (-1), 1) := by decide +kernel
theorem dL_isPaper_453 : decode cL_isPaper 453 = .ok (.if_icmp .ne 7, 3) := by decide +kernel
theorem dL_isPaper_456 : decode cL_isPaper 456 = .ok (.iconst 1, 1) := by decide +kernel
theorem dL_isPaper_457 : decode cL_isPaper 457 = .ok (.goto 4, 3) := by decide +kernel
theorem dL_isPaper_460 : decode cL_isPaper 460 = .ok (.iconst 0, 1) := by decide +kernel
theorem dL_isPaper_461 : decode cL_isPaper 461 = .ok (.istore 13, 2) := by decide +kernel
theorem dL_isPaper_463 : decode cL_isPaper 463 = .ok (.iload 12, 2) := by decide +kernel
theorem dL_isPaper_465 : decode cL_isPaper 465 = .ok (.ifCond .eq 42, 3) := by decide +kernel
theorem dL_isPaper_468 : decode cL_isPaper 468 = .ok (.iload 13, 2) := by decide +kernel
theorem dL_isPaper_470 : decode cL_isPaper 470 = .ok (.ifCond .eq 37, 3) := by decide +kernel
theorem dL_isPaper_473 : decode cL_isPaper 473 = .ok (.iload 8, 2) := by decide +kernel
theorem dL_isPaper_475 : decode cL_isPaper 475 = .ok (.iconst 4, 1) := by decide +kernel
theorem dL_isPaper_476 : decode cL_isPaper 476 = .ok (.if_icmp .lt 12, 3) := by decide +kernel
theorem dL_isPaper_479 : decode cL_isPaper 479 = .ok (.aload_n 1, 1) := by decide +kernel
theorem dL_isPaper_480 : decode cL_isPaper 480 = .ok (.iload 6, 2) := by decide +kernel
theorem dL_isPaper_482 : decode cL_isPaper 482 = .ok (.iconst 4, 1) := by decide +kernel
theorem dL_isPaper_483 : decode cL_isPaper 483 = .ok (.iadd, 1) := by decide +kernel
theorem dL_isPaper_484 : decode cL_isPaper 484 = .ok (.iaload, 1) := by decide +kernel
theorem dL_isPaper_485 : decode cL_isPaper 485 = .ok (.ifCond .le 22, 3) := by decide +kernel
theorem dL_isPaper_488 : decode cL_isPaper 488 = .ok (.iload 8, 2) := by decide +kernel
theorem dL_isPaper_490 : decode cL_isPaper 490 = .ok (.iconst 3, 1) := by decide +kernel
theorem dL_isPaper_491 : decode cL_isPaper 491 = .ok (.if_icmp .ne 12, 3) := by decide +kernel
theorem dL_isPaper_494 : decode cL_isPaper 494 = .ok (.aload_n 1, 1) := by decide +kernel
theorem dL_isPaper_495 : decode cL_isPaper 495 = .ok (.iload 6, 2) := by decide +kernel
theorem dL_isPaper_497 : decode cL_isPaper 497 = .ok (.iconst 4, 1) := by decide +kernel
theorem dL_isPaper_498 : decode cL_isPaper 498 = .ok (.iadd, 1) := by decide +kernel
theorem dL_isPaper_499 : decode cL_isPaper 499 = .ok (.iaload, 1) := by decide +kernel
theorem dL_isPaper_500 : decode cL_isPaper 500 = .ok (.ifCond .ne 7, 3) := by decide +kernel
theorem dL_isPaper_503 : decode cL_isPaper 503 = .ok (.iconst 1, 1) := by decide +kernel
theorem dL_isPaper_504 : decode cL_isPaper 504 = .ok (.goto 4, 3) := by decide +kernel
theorem dL_isPaper_507 : decode cL_isPaper 507 = .ok (.iconst 0, 1) := by decide +kernel
theorem dL_isPaper_508 : decode cL_isPaper 508 = .ok (.ireturn, 1) := by decide +kernel
set_option maxRecDepth 20000 in
theorem ggL_mayApprove_L_has : GoodIn wsL_mayApprove wsL_has := goodIn_r _ [4] (by decide +kernel) (by decide +kernel)
set_option maxRecDepth 20000 in
theorem gL_mayApprove_L_has : GoodIn wsL_mayApprove (va_wsS RL 92 yL_has wsL_has) := goodIn_app (goodIn_of _ (by decide +kernel)) ggL_mayApprove_L_has
theorem dL_mayApprove_0 : decode cL_mayApprove 0 = .ok (.aload_n 0, 1) := by decide +kernel
theorem dL_mayApprove_1 : decode cL_mayApprove 1 = .ok (.iconst 1, 1) := by decide +kernel
theorem dL_mayApprove_2 : decode cL_mayApprove 2 = .ok (.iaload, 1) := by decide +kernel
theorem dL_mayApprove_3 : decode cL_mayApprove 3 = .ok (.iload_n 2, 1) := by decide +kernel
theorem dL_mayApprove_4 : decode cL_mayApprove 4 = .ok (.invokestatic 92, 3) := by decide +kernel
theorem dL_mayApprove_7 : decode cL_mayApprove 7 = .ok (.istore_n 3, 1) := by decide +kernel
theorem dL_mayApprove_8 : decode cL_mayApprove 8 = .ok (.iconst 0, 1) := by decide +kernel
theorem dL_mayApprove_9 : decode cL_mayApprove 9 = .ok (.istore 4, 2) := by decide +kernel
theorem dL_mayApprove_11 : decode cL_mayApprove 11 = .ok (.iload 4, 2) := by decide +kernel
theorem dL_mayApprove_13 : decode cL_mayApprove 13 = .ok (.bipush 6, 2) := by decide +kernel
theorem dL_mayApprove_15 : decode cL_mayApprove 15 = .ok (.if_icmp .ge 40, 3) := by decide +kernel
theorem dL_mayApprove_18 : decode cL_mayApprove 18 = .ok (.iload_n 3, 1) := by decide +kernel
theorem dL_mayApprove_19 : decode cL_mayApprove 19 = .ok (.ifCond .ne 24, 3) := by decide +kernel
theorem dL_mayApprove_22 : decode cL_mayApprove 22 = .ok (.aload_n 0, 1) := by decide +kernel
theorem dL_mayApprove_23 : decode cL_mayApprove 23 = .ok (.iconst 1, 1) := by decide +kernel
theorem dL_mayApprove_24 : decode cL_mayApprove 24 = .ok (.iaload, 1) := by decide +kernel
theorem dL_mayApprove_25 : decode cL_mayApprove 25 = .ok (.iload 4, 2) := by decide +kernel
theorem dL_mayApprove_27 : decode cL_mayApprove 27 = .ok (.invokestatic 92, 3) := by decide +kernel
theorem dL_mayApprove_30 : decode cL_mayApprove 30 = .ok (.ifCond .eq 17, 3) := by decide +kernel
theorem dL_mayApprove_33 : decode cL_mayApprove 33 = .ok (.aload_n 1, 1) := by decide +kernel

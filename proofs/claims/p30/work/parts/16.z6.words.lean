set_option maxRecDepth 20000 in
theorem pzL_step_L_goesOn_wsX20 : GoodIn wsL_step wsX20 := goodIn_r wsX20 [317, 318, 319, 320, 321, 322, 323, 324, 325] (by decide +kernel) (by decide +kernel)
set_option maxRecDepth 20000 in
theorem pzL_step_L_goesOn_wsX30 : GoodIn wsL_step wsX30 := goodIn_r wsX30 [309, 310, 311, 312, 313, 314, 315, 316] (by decide +kernel) (by decide +kernel)
set_option maxRecDepth 20000 in
theorem pzL_step_L_goesOn_wsX10 : GoodIn wsL_step wsX10 := goodIn_r wsX10 [326, 327, 328, 329, 330, 331, 332, 333, 334, 335, 336, 337] (by decide +kernel) (by decide +kernel)
set_option maxRecDepth 20000 in
theorem pzL_step_L_goesOn_wsX00 : GoodIn wsL_step wsX00 := goodIn_r wsX00 [338, 339, 340, 341] (by decide +kernel) (by decide +kernel)
set_option maxRecDepth 20000 in
theorem pzL_keeper_L_step_h : GoodIn wsL_keeper [.code yL_step cL_step 16 (some .boolean)] := goodIn_r [.code yL_step cL_step 16 (some .boolean)] [41] (by decide +kernel) (by decide +kernel)
set_option maxRecDepth 20000 in
theorem pzL_keeper_L_step_r1 : GoodIn wsL_keeper wsL_step_r1 := goodIn_r wsL_step_r1 [42, 43, 44, 3, 45, 46, 47, 22, 17, 16, 48, 49, 50, 51, 52, 53, 10, 11, 54, 12, 55, 56, 57, 58] (by decide +kernel) (by decide +kernel)
set_option maxRecDepth 20000 in
theorem pzL_keeper_L_step_r2 : GoodIn wsL_keeper wsL_step_r2 := goodIn_r wsL_step_r2 [59, 4, 60, 61, 62, 63, 64, 65, 66, 67, 68, 69, 70, 71, 72, 73, 74, 75, 76, 77, 78, 79, 80, 81] (by decide +kernel) (by decide +kernel)
set_option maxRecDepth 20000 in
theorem pzL_keeper_L_step_r3 : GoodIn wsL_keeper wsL_step_r3 := goodIn_r wsL_step_r3 [82, 83, 84, 85, 86, 87, 88, 89, 90, 91, 92, 93, 94, 95, 96, 97, 98, 99, 100, 101, 102, 103, 104, 105] (by decide +kernel) (by decide +kernel)
set_option maxRecDepth 20000 in
theorem pzL_keeper_L_step_r4 : GoodIn wsL_keeper wsL_step_r4 := goodIn_r wsL_step_r4 [106, 107, 108, 109, 110, 111, 112, 113, 114, 115, 116, 117, 118, 119, 120, 121, 122, 34, 123, 124, 125, 126, 127, 128] (by decide +kernel) (by decide +kernel)
set_option maxRecDepth 20000 in
theorem pzL_keeper_L_step_r5 : GoodIn wsL_keeper wsL_step_r5 := goodIn_r wsL_step_r5 [129, 130, 13, 14, 131, 132, 133, 134, 135, 136, 137, 138, 139, 140, 15, 141, 142, 143, 144, 23, 145, 146, 147, 148] (by decide +kernel) (by decide +kernel)
set_option maxRecDepth 20000 in
theorem pzL_keeper_L_step_r6 : GoodIn wsL_keeper wsL_step_r6 := goodIn_r wsL_step_r6 [149, 150, 151, 152, 153, 154, 155, 156, 157, 158, 159, 160, 161, 162, 163, 164, 165, 166, 167, 168, 169, 170, 171, 172] (by decide +kernel) (by decide +kernel)
set_option maxRecDepth 20000 in
theorem pzL_keeper_L_step_r7 : GoodIn wsL_keeper wsL_step_r7 := goodIn_r wsL_step_r7 [173, 174, 175, 176, 177, 178, 179, 180, 181, 182, 183, 184, 185, 186, 187, 188, 189, 190, 191, 192, 193, 194, 195, 196] (by decide +kernel) (by decide +kernel)

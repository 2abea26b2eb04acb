set_option maxRecDepth 20000 in
theorem pzL_step_L_drafts_h : GoodIn wsL_step [.code yL_drafts cL_drafts 14 (some .boolean)] := goodIn_r [.code yL_drafts cL_drafts 14 (some .boolean)] [119] (by decide +kernel) (by decide +kernel)
set_option maxRecDepth 20000 in
theorem pzL_step_L_drafts_r1 : GoodIn wsL_step wsL_drafts_r1 := goodIn_r wsL_drafts_r1 [38, 39, 40, 4, 41, 42, 43, 44, 45, 46, 47, 48, 49, 9, 50, 51, 52, 24, 53, 54, 55, 56, 57, 58] (by decide +kernel) (by decide +kernel)
set_option maxRecDepth 20000 in
theorem pzL_step_L_drafts_r2 : GoodIn wsL_step wsL_drafts_r2 := goodIn_r wsL_drafts_r2 [59, 34, 33, 60, 61, 62, 63, 64, 35, 65, 66, 67, 68, 36, 37, 120, 121, 122, 123, 124, 125, 126, 127, 128] (by decide +kernel) (by decide +kernel)
set_option maxRecDepth 20000 in
theorem pzL_step_L_drafts_r3 : GoodIn wsL_step wsL_drafts_r3 := goodIn_r wsL_drafts_r3 [129, 130, 131, 90, 132, 133, 134, 135, 136, 137, 138, 139, 140, 141, 142, 6, 7, 101, 102, 103, 104, 105, 106, 82] (by decide +kernel) (by decide +kernel)
set_option maxRecDepth 20000 in
theorem pzL_step_L_drafts_r4 : GoodIn wsL_step wsL_drafts_r4 := goodIn_r wsL_drafts_r4 [83, 143, 144, 145, 146, 147, 148, 149, 150, 151, 152, 153, 154, 155, 156, 157, 158, 159, 160, 161, 162, 163, 164, 165] (by decide +kernel) (by decide +kernel)
set_option maxRecDepth 20000 in
theorem pzL_step_L_drafts_r5 : GoodIn wsL_step wsL_drafts_r5 := goodIn_r wsL_drafts_r5 [166, 167, 168, 169, 170, 171, 172, 99, 173, 174, 175, 176, 177, 178, 179, 180, 181, 182, 183, 85, 86, 87, 184, 185] (by decide +kernel) (by decide +kernel)
set_option maxRecDepth 20000 in
theorem pzL_step_L_drafts_r6 : GoodIn wsL_step wsL_drafts_r6 := goodIn_r wsL_drafts_r6 [186, 187, 188, 189, 190, 191, 192, 193, 194, 195, 196, 197, 198, 199, 200, 201, 202, 203, 204, 205, 206, 207, 208, 209] (by decide +kernel) (by decide +kernel)
set_option maxRecDepth 20000 in
theorem pzL_step_L_drafts_r7 : GoodIn wsL_step wsL_drafts_r7 := goodIn_r wsL_drafts_r7 [210, 211, 212, 213, 214, 100, 111, 215, 216, 217, 218, 219, 220, 221, 222, 223, 116, 224, 225, 226, 73, 74, 75, 12] (by decide +kernel) (by decide +kernel)
set_option maxRecDepth 20000 in
theorem pzL_step_L_drafts_r8 : GoodIn wsL_step wsL_drafts_r8 := goodIn_r wsL_drafts_r8 [76, 77, 227, 228, 229, 230, 231, 232, 233, 234, 235, 236, 237, 238, 239, 240, 241, 242, 243, 244, 245, 246, 247, 248] (by decide +kernel) (by decide +kernel)
set_option maxRecDepth 20000 in
theorem pzL_step_L_drafts_r9 : GoodIn wsL_step wsL_drafts_r9 := goodIn_r wsL_drafts_r9 [249, 250, 251, 252, 253, 254, 255, 256, 92, 93, 94, 88, 89, 91] (by decide +kernel) (by decide +kernel)
set_option maxRecDepth 20000 in
theorem pzL_step_L_drafts_wsX20 : GoodIn wsL_step wsX20 := goodIn_r wsX20 [317, 318, 319, 320, 321, 322, 323, 324, 325] (by decide +kernel) (by decide +kernel)
set_option maxRecDepth 20000 in
theorem pzL_step_L_drafts_wsX30 : GoodIn wsL_step wsX30 := goodIn_r wsX30 [309, 310, 311, 312, 313, 314, 315, 316] (by decide +kernel) (by decide +kernel)

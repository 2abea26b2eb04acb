set_option maxRecDepth 20000 in
theorem pzL_keeper_L_step_r8 : GoodIn wsL_keeper wsL_step_r8 := goodIn_r wsL_step_r8 [197, 198, 199, 200, 201, 202, 203, 204, 205, 206, 207, 208, 209, 210, 211, 212, 213, 214, 215, 216, 217, 218, 219, 220] (by decide +kernel) (by decide +kernel)
set_option maxRecDepth 20000 in
theorem pzL_keeper_L_step_r9 : GoodIn wsL_keeper wsL_step_r9 := goodIn_r wsL_step_r9 [221, 222, 223, 224, 225, 226, 227, 228, 229, 230, 231, 232, 233, 234, 235, 236, 24, 237, 238, 239, 240, 241, 242, 243] (by decide +kernel) (by decide +kernel)
set_option maxRecDepth 20000 in
theorem pzL_keeper_L_step_r10 : GoodIn wsL_keeper wsL_step_r10 := goodIn_r wsL_step_r10 [244, 245, 246, 247, 248, 249, 250, 251, 252, 253, 254, 255, 256, 257, 258, 259, 260, 261, 262, 263, 264, 265, 266, 267] (by decide +kernel) (by decide +kernel)
set_option maxRecDepth 20000 in
theorem pzL_keeper_L_step_r11 : GoodIn wsL_keeper wsL_step_r11 := goodIn_r wsL_step_r11 [21, 268, 269, 270, 271, 20, 272, 273, 29, 30, 31, 274, 275, 276, 277, 278, 279, 280, 281, 282, 283, 284, 285, 286] (by decide +kernel) (by decide +kernel)
set_option maxRecDepth 20000 in
theorem pzL_keeper_L_step_r12 : GoodIn wsL_keeper wsL_step_r12 := goodIn_r wsL_step_r12 [287, 288, 289, 290, 291, 292, 293, 294, 295, 296, 297, 298, 299, 300, 301, 302, 303, 304, 305, 306, 307, 308, 309, 310] (by decide +kernel) (by decide +kernel)
set_option maxRecDepth 20000 in
theorem pzL_keeper_L_step_r13 : GoodIn wsL_keeper wsL_step_r13 := goodIn_r wsL_step_r13 [311, 312, 313, 314, 315, 316, 317, 318, 319, 320, 321, 322, 323, 324, 325, 326, 327, 328, 329, 330] (by decide +kernel) (by decide +kernel)
set_option maxRecDepth 20000 in
theorem pzL_keeper_L_step_wsX30 : GoodIn wsL_keeper wsX30 := goodIn_r wsX30 [354, 355, 356, 357, 358, 359, 360, 361] (by decide +kernel) (by decide +kernel)
set_option maxRecDepth 20000 in
theorem pzL_keeper_L_step_wsX20 : GoodIn wsL_keeper wsX20 := goodIn_r wsX20 [366, 367, 368, 369, 370, 371, 372, 373, 374] (by decide +kernel) (by decide +kernel)
set_option maxRecDepth 20000 in
theorem pzL_keeper_L_step_wsX10 : GoodIn wsL_keeper wsX10 := goodIn_r wsX10 [375, 376, 377, 378, 379, 380, 381, 382, 383, 384, 385, 386] (by decide +kernel) (by decide +kernel)
set_option maxRecDepth 20000 in
theorem pzL_keeper_L_step_wsX00 : GoodIn wsL_keeper wsX00 := goodIn_r wsX00 [362, 363, 364, 365] (by decide +kernel) (by decide +kernel)
set_option maxRecDepth 20000 in
theorem pzL_law_L_keeper_h : GoodIn wsL_law [.code yL_keeper cL_keeper 16 (some .boolean)] := goodIn_r [.code yL_keeper cL_keeper 16 (some .boolean)] [3] (by decide +kernel) (by decide +kernel)
set_option maxRecDepth 20000 in
theorem pzL_law_L_keeper_r1 : GoodIn wsL_law wsL_keeper_r1 := goodIn_r wsL_keeper_r1 [4, 5, 6, 7, 8, 9, 10, 11, 12, 13, 14, 15, 16, 17, 18, 19, 20, 21, 22, 23, 24, 25, 26, 27] (by decide +kernel) (by decide +kernel)

set_option maxRecDepth 20000 in
theorem pzL_law_L_keeper_r14 : GoodIn wsL_law wsL_keeper_r14 := goodIn_r wsL_keeper_r14 [315, 316, 317, 318, 319, 320, 321, 322, 323, 324, 325, 326, 327, 328, 329, 330, 331, 332, 333, 334, 335, 336, 337, 338] (by decide +kernel) (by decide +kernel)
set_option maxRecDepth 20000 in
theorem pzL_law_L_keeper_r15 : GoodIn wsL_law wsL_keeper_r15 := goodIn_r wsL_keeper_r15 [339, 340, 341, 342, 343, 344, 345, 346, 347, 348, 349, 350, 351, 352, 353, 354, 355] (by decide +kernel) (by decide +kernel)
set_option maxRecDepth 20000 in
theorem pzL_law_L_keeper_wsX30 : GoodIn wsL_law wsX30 := goodIn_r wsX30 [356, 357, 358, 359, 360, 361, 362, 363] (by decide +kernel) (by decide +kernel)
set_option maxRecDepth 20000 in
theorem pzL_law_L_keeper_wsX00 : GoodIn wsL_law wsX00 := goodIn_r wsX00 [364, 365, 366, 367] (by decide +kernel) (by decide +kernel)
set_option maxRecDepth 20000 in
theorem pzL_law_L_keeper_wsX20 : GoodIn wsL_law wsX20 := goodIn_r wsX20 [368, 369, 370, 371, 372, 373, 374, 375, 376] (by decide +kernel) (by decide +kernel)
set_option maxRecDepth 20000 in
theorem pzL_law_L_keeper_wsX10 : GoodIn wsL_law wsX10 := goodIn_r wsX10 [377, 378, 379, 380, 381, 382, 383, 384, 385, 386, 387, 388] (by decide +kernel) (by decide +kernel)

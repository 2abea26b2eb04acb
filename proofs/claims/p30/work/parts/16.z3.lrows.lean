set_option maxRecDepth 20000 in
theorem gL_step_X3_open : GoodIn wsL_step (wsV RL 110 RX3 yX3_open wsX3_open) := goodIn_app (goodIn_of _ (by decide +kernel)) ggL_step_X3_open
set_option maxRecDepth 20000 in
theorem ggL_step_X3_step : GoodIn wsL_step wsX3_step := goodIn_ca (goodIn_r _ [41, 42, 43, 44, 45, 46, 4, 47, 48, 49, 9, 50, 51, 52, 24, 53, 54, 55, 56, 57, 58, 59, 34, 33, 60, 61, 62, 63, 64, 35, 65, 66, 67, 68, 36, 37, 317, 318, 319, 320, 321, 322, 323, 324, 325, 309, 310, 311, 312, 313, 314, 315, 316, 326, 327, 328, 329, 330, 331, 332, 333, 334, 335, 336, 337] (by decide +kernel) (by decide +kernel)) (goodIn_sub (fun _ h => List.mem_cons_of_mem _ (List.mem_append_left _ (List.mem_append_right _ h))) (by decide +kernel))
set_option maxRecDepth 20000 in
theorem gL_step_X3_step : GoodIn wsL_step (wsV RL 68 RX3 yX3_step wsX3_step) := goodIn_app (goodIn_of _ (by decide +kernel)) ggL_step_X3_step
set_option maxRecDepth 20000 in
theorem ggL_step_X3_inForce : GoodIn wsL_step wsX3_inForce := goodIn_ca (goodIn_r _ [72, 44, 45, 46, 4, 47, 48, 49, 9, 73, 74, 75, 12, 76, 77, 309, 310, 311, 312, 313, 314, 315, 316, 317, 318, 319, 320, 321, 322, 323, 324, 325] (by decide +kernel) (by decide +kernel)) (goodIn_sub (fun _ h => List.mem_cons_of_mem _ (List.mem_append_left _ (List.mem_append_right _ h))) (by decide +kernel))
set_option maxRecDepth 20000 in
theorem gL_step_X3_inForce : GoodIn wsL_step (wsV RL 74 RX3 yX3_inForce wsX3_inForce) := goodIn_app (goodIn_of _ (by decide +kernel)) ggL_step_X3_inForce
set_option maxRecDepth 20000 in
theorem ggL_step_X3_hang : GoodIn wsL_step wsX3_hang := goodIn_ca (goodIn_ca (goodIn_r _ [81, 82, 83, 84, 44, 45, 46, 4, 47, 48, 49, 9, 85, 86, 87, 317, 318, 319, 320, 321, 322, 323, 324, 325, 309, 310, 311, 312, 313, 314, 315, 316] (by decide +kernel) (by decide +kernel)) (goodIn_sub (fun _ h => List.mem_cons_of_mem _ (List.mem_append_right _ h)) (by decide +kernel))) (goodIn_sub (fun _ h => List.mem_cons_of_mem _ (List.mem_append_left _ (List.mem_append_right _ h))) (by decide +kernel))
set_option maxRecDepth 20000 in
theorem gL_step_X3_hang : GoodIn wsL_step (wsV RL 114 RX3 yX3_hang wsX3_hang) := goodIn_app (goodIn_of _ (by decide +kernel)) ggL_step_X3_hang
set_option maxRecDepth 20000 in
theorem ggL_step_L_size : GoodIn wsL_step wsL_size := goodIn_r _ [91] (by decide +kernel) (by decide +kernel)
set_option maxRecDepth 20000 in
theorem gL_step_L_size : GoodIn wsL_step (va_wsS RL 100 yL_size wsL_size) := goodIn_app (goodIn_of _ (by decide +kernel)) ggL_step_L_size
set_option maxRecDepth 20000 in
theorem ggL_step_L_has : GoodIn wsL_step wsL_has := goodIn_r _ [94] (by decide +kernel) (by decide +kernel)
set_option maxRecDepth 20000 in
theorem gL_step_L_has : GoodIn wsL_step (va_wsS RL 92 yL_has wsL_has) := goodIn_app (goodIn_of _ (by decide +kernel)) ggL_step_L_has
set_option maxRecDepth 20000 in
theorem ggL_step_X3_setRoles : GoodIn wsL_step wsX3_setRoles := goodIn_ca (goodIn_r _ [98, 99, 100, 101, 102, 4, 103, 104, 105, 106, 82, 83, 309, 310, 311, 312, 313, 314, 315, 316] (by decide +kernel) (by decide +kernel)) (goodIn_sub (fun _ h => List.mem_cons_of_mem _ (List.mem_append_right _ h)) (by decide +kernel))
set_option maxRecDepth 20000 in
theorem gL_step_X3_setRoles : GoodIn wsL_step (wsV RL 117 RX3 yX3_setRoles wsX3_setRoles) := goodIn_app (goodIn_of _ (by decide +kernel)) ggL_step_X3_setRoles
set_option maxRecDepth 20000 in
theorem ggL_step_X3_setDeputy : GoodIn wsL_step wsX3_setDeputy := goodIn_ca (goodIn_r _ [110, 82, 83, 111, 101, 102, 4, 103, 104, 105, 106, 309, 310, 311, 312, 313, 314, 315, 316] (by decide +kernel) (by decide +kernel)) (goodIn_sub (fun _ h => List.mem_cons_of_mem _ (List.mem_append_right _ h)) (by decide +kernel))
set_option maxRecDepth 20000 in
theorem gL_step_X3_setDeputy : GoodIn wsL_step (wsV RL 121 RX3 yX3_setDeputy wsX3_setDeputy) := goodIn_app (goodIn_of _ (by decide +kernel)) ggL_step_X3_setDeputy
set_option maxRecDepth 20000 in
theorem ggL_step_X3_setInterval : GoodIn wsL_step wsX3_setInterval := goodIn_ca (goodIn_r _ [115, 116, 104, 105, 4, 106, 82, 83, 309, 310, 311, 312, 313, 314, 315, 316] (by decide +kernel) (by decide +kernel)) (goodIn_sub (fun _ h => List.mem_cons_of_mem _ (List.mem_append_right _ h)) (by decide +kernel))
set_option maxRecDepth 20000 in
theorem gL_step_X3_setInterval : GoodIn wsL_step (wsV RL 124 RX3 yX3_setInterval wsX3_setInterval) := goodIn_app (goodIn_of _ (by decide +kernel)) ggL_step_X3_setInterval
set_option maxRecDepth 20000 in
theorem ggL_step_L_copies : GoodIn wsL_step wsL_copies := goodIn_ca (goodIn_ca (goodIn_ca (goodIn_r _ [265, 130, 131, 90, 132, 133, 134, 135, 136, 137, 138, 139, 140, 141, 4, 142, 6, 7, 42, 43, 44, 45, 46, 47, 48, 49, 9, 101, 102, 103, 104, 105, 106, 82, 83, 143, 144, 145, 24, 146, 128, 147, 148, 54, 36, 149, 150, 151, 152, 64, 55, 34, 37, 153, 154, 155, 156, 157, 158, 159, 160, 161, 162, 163, 164, 165, 166, 167, 168, 169, 170, 171, 172, 99, 173, 174, 175, 176, 177, 178, 33, 179, 180, 181, 182, 183, 85, 86, 87, 184, 185, 186, 187, 188, 189, 190, 57, 58, 59, 191, 192, 193, 194, 35, 195, 196, 197, 198, 199, 200, 201, 61, 62, 63, 202, 203, 204, 205, 206, 207, 208, 209, 210, 50, 51, 52, 53, 56, 60, 65, 66, 67, 68, 211, 212, 213, 214, 100, 111, 215, 216, 217, 218, 219, 220, 221, 222, 223, 116, 224, 225, 226, 73, 74, 75, 12, 76, 77, 227, 228, 229, 230, 231, 232, 233, 234, 235, 236, 237, 238, 239, 240, 241, 242, 243, 244, 245, 246, 247, 248, 249, 250, 251, 252, 253, 254, 255, 256, 266, 267, 268, 269, 317, 318, 319, 320, 321, 322, 323, 324, 325, 309, 310, 311, 312, 313, 314, 315, 316, 326, 327, 328, 329, 330, 331, 332, 333, 334, 335, 336, 337, 338, 339, 340, 341] (by decide +kernel) (by decide +kernel)) (goodIn_sub (fun _ h => List.mem_cons_of_mem _ (List.mem_append_left _ (List.mem_append_left _ (List.mem_append_right _ h)))) (by decide +kernel))) (goodIn_sub (fun _ h => List.mem_cons_of_mem _ (List.mem_append_left _ (List.mem_append_right _ h))) (by decide +kernel))) (goodIn_sub (fun _ h => List.mem_cons_of_mem _ (List.mem_append_right _ h)) (by decide +kernel))
set_option maxRecDepth 20000 in
theorem gL_step_L_copies : GoodIn wsL_step (va_wsS RL 135 yL_copies wsL_copies) := goodIn_app (goodIn_of _ (by decide +kernel)) ggL_step_L_copies
set_option maxRecDepth 20000 in
theorem ggL_step_L_passes : GoodIn wsL_step wsL_passes := goodIn_ca (goodIn_ca (goodIn_ca (goodIn_r _ [272, 38, 39, 40, 4, 41, 42, 43, 44, 45, 46, 47, 48, 49, 9, 50, 51, 52, 24, 53, 54, 55, 56, 57, 58, 59, 34, 33, 60, 61, 62, 63, 64, 35, 65, 66, 67, 68, 36, 37, 273, 274, 275, 276, 6, 7, 209, 104, 105, 106, 82, 83, 277, 278, 279, 280, 281, 282, 283, 12, 284, 285, 25, 77, 27, 286, 28, 287, 288, 289, 290, 291, 129, 292, 234, 235, 236, 231, 232, 293, 294, 295, 296, 84, 297, 73, 74, 75, 76, 88, 89, 90, 91, 92, 93, 94, 298, 299, 300, 301, 302, 303, 304, 305, 306, 307, 308, 317, 318, 319, 320, 321, 322, 323, 324, 325, 309, 310, 311, 312, 313, 314, 315, 316, 326, 327, 328, 329, 330, 331, 332, 333, 334, 335, 336, 337] (by decide +kernel) (by decide +kernel)) (goodIn_sub (fun _ h => List.mem_cons_of_mem _ (List.mem_append_left _ (List.mem_append_right _ h))) (by decide +kernel))) (goodIn_sub (fun _ h => List.mem_cons_of_mem _ (List.mem_append_left _ (List.mem_append_left _ (List.mem_append_right _ h)))) (by decide +kernel))) (goodIn_sub (fun _ h => List.mem_cons_of_mem _ (List.mem_append_right _ h)) (by decide +kernel))
set_option maxRecDepth 20000 in
theorem gL_step_L_passes : GoodIn wsL_step (va_wsS RL 139 yL_passes wsL_passes) := goodIn_app (goodIn_of _ (by decide +kernel)) ggL_step_L_passes
theorem dL_step_0 : decode cL_step 0 = .ok (.iload_n 1, 1) := by decide +kernel
theorem dL_step_1 : decode cL_step 1 = .ok (.ifCond .eq 10, 3) := by decide +kernel
theorem dL_step_4 : decode cL_step 4 = .ok (.aload 8, 2) := by decide +kernel
theorem dL_step_6 : decode cL_step 6 = .ok (.iconst 1, 1) := by decide +kernel
theorem dL_step_7 : decode cL_step 7 = .ok (.iaload, 1) := by decide +kernel
theorem dL_step_8 : decode cL_step 8 = .ok (.ifCond .ne 79, 3) := by decide +kernel
theorem dL_step_11 : decode cL_step 11 = .ok (.aload 8, 2) := by decide +kernel
theorem dL_step_13 : decode cL_step 13 = .ok (.iconst 1, 1) := by decide +kernel
theorem dL_step_14 : decode cL_step 14 = .ok (.iaload, 1) := by decide +kernel
theorem dL_step_15 : decode cL_step 15 = .ok (.bipush 8, 2) := by decide +kernel
theorem dL_step_17 : decode cL_step 17 = .ok (.if_icmp .ne 5, 3) := by decide +kernel
theorem dL_step_20 : decode cL_step 20 = .ok (.iconst 1, 1) := by decide +kernel
theorem dL_step_21 : decode cL_step 21 = .ok (.ireturn, 1) := by decide +kernel
theorem dL_step_22 : decode cL_step 22 = .ok (.aload 8, 2) := by decide +kernel
theorem dL_step_24 : decode cL_step 24 = .ok (.iconst 1, 1) := by decide +kernel
theorem dL_step_25 : decode cL_step 25 = .ok (.dup2, 1) := by decide +kernel
theorem dL_step_26 : decode cL_step 26 = .ok (.iaload, 1) := by decide +kernel
theorem dL_step_27 : decode cL_step 27 = .ok (.iconst 1, 1) := by decide +kernel
theorem dL_step_28 : decode cL_step 28 = .ok (.iadd, 1) := by decide +kernel
theorem dL_step_29 : decode cL_step 29 = .ok (.iastore, 1) := by decide +kernel
theorem dL_step_30 : decode cL_step 30 = .ok (.aload_n 0, 1) := by decide +kernel
theorem dL_step_31 : decode cL_step 31 = .ok (.iload_n 2, 1) := by decide +kernel
theorem dL_step_32 : decode cL_step 32 = .ok (.iconst 2, 1) := by decide +kernel
theorem dL_step_33 : decode cL_step 33 = .ok (.irem, 1) := by decide +kernel
theorem dL_step_34 : decode cL_step 34 = .ok (.ifCond .ne 7, 3) := by decide +kernel
theorem dL_step_37 : decode cL_step 37 = .ok (.iconst 1, 1) := by decide +kernel
theorem dL_step_38 : decode cL_step 38 = .ok (.goto 4, 3) := by decide +kernel
theorem dL_step_41 : decode cL_step 41 = .ok (.iconst 0, 1) := by decide +kernel
theorem dL_step_42 : decode cL_step 42 = .ok (.invokevirtual 110, 3) := by decide +kernel
theorem dL_step_45 : decode cL_step 45 = .ok (.aload 8, 2) := by decide +kernel
theorem dL_step_47 : decode cL_step 47 = .ok (.iconst 1, 1) := by decide +kernel
theorem dL_step_48 : decode cL_step 48 = .ok (.iaload, 1) := by decide +kernel
theorem dL_step_49 : decode cL_step 49 = .ok (.iconst 1, 1) := by decide +kernel
theorem dL_step_50 : decode cL_step 50 = .ok (.isub, 1) := by decide +kernel
theorem dL_step_51 : decode cL_step 51 = .ok (.if_icmp .ne 34, 3) := by decide +kernel
theorem dL_step_54 : decode cL_step 54 = .ok (.aload_n 0, 1) := by decide +kernel
theorem dL_step_55 : decode cL_step 55 = .ok (.aload 8, 2) := by decide +kernel
theorem dL_step_57 : decode cL_step 57 = .ok (.iconst 1, 1) := by decide +kernel
theorem dL_step_58 : decode cL_step 58 = .ok (.iaload, 1) := by decide +kernel
theorem dL_step_59 : decode cL_step 59 = .ok (.iconst 1, 1) := by decide +kernel
theorem dL_step_60 : decode cL_step 60 = .ok (.isub, 1) := by decide +kernel
theorem dL_step_61 : decode cL_step 61 = .ok (.invokevirtual 68, 3) := by decide +kernel
theorem dL_step_64 : decode cL_step 64 = .ok (.ifCond .ne 21, 3) := by decide +kernel
theorem dL_step_67 : decode cL_step 67 = .ok (.aload_n 0, 1) := by decide +kernel
theorem dL_step_68 : decode cL_step 68 = .ok (.aload 8, 2) := by decide +kernel
theorem dL_step_70 : decode cL_step 70 = .ok (.iconst 1, 1) := by decide +kernel
theorem dL_step_71 : decode cL_step 71 = .ok (.iaload, 1) := by decide +kernel
theorem dL_step_72 : decode cL_step 72 = .ok (.iconst 1, 1) := by decide +kernel
theorem dL_step_73 : decode cL_step 73 = .ok (.isub, 1) := by decide +kernel
theorem dL_step_74 : decode cL_step 74 = .ok (.invokevirtual 74, 3) := by decide +kernel
theorem dL_step_77 : decode cL_step 77 = .ok (.iconst (-1), 1) := by decide +kernel
theorem dL_step_78 : decode cL_step 78 = .ok (.if_icmp .ne 7, 3) := by decide +kernel
theorem dL_step_81 : decode cL_step 81 = .ok (.iconst 1, 1) := by decide +kernel
theorem dL_step_82 : decode cL_step 82 = .ok (.goto 4, 3) := by decide +kernel
theorem dL_step_85 : decode cL_step 85 = .ok (.iconst 0, 1) := by decide +kernel
theorem dL_step_86 : decode cL_step 86 = .ok (.ireturn, 1) := by decide +kernel
theorem dL_step_87 : decode cL_step 87 = .ok (.iload_n 2, 1) := by decide +kernel
theorem dL_step_88 : decode cL_step 88 = .ok (.aload 8, 2) := by decide +kernel
theorem dL_step_90 : decode cL_step 90 = .ok (.iconst 1, 1) := by decide +kernel
theorem dL_step_91 : decode cL_step 91 = .ok (.iaload, 1) := by decide +kernel
theorem dL_step_92 : decode cL_step 92 = .ok (.irem, 1) := by decide +kernel
theorem dL_step_93 : decode cL_step 93 = .ok (.istore 12, 2) := by decide +kernel
theorem dL_step_95 : decode cL_step 95 = .ok (.iload_n 1, 1) := by decide +kernel
theorem dL_step_96 : decode cL_step 96 = .ok (.iconst 1, 1) := by decide +kernel
theorem dL_step_97 : decode cL_step 97 = .ok (.if_icmp .ne 66, 3) := by decide +kernel
theorem dL_step_100 : decode cL_step 100 = .ok (.iload_n 3, 1) := by decide +kernel
theorem dL_step_101 : decode cL_step 101 = .ok (.aload 8, 2) := by decide +kernel
theorem dL_step_103 : decode cL_step 103 = .ok (.iconst 1, 1) := by decide +kernel
theorem dL_step_104 : decode cL_step 104 = .ok (.iaload, 1) := by decide +kernel
theorem dL_step_105 : decode cL_step 105 = .ok (.irem, 1) := by decide +kernel
theorem dL_step_106 : decode cL_step 106 = .ok (.istore 13, 2) := by decide +kernel
theorem dL_step_108 : decode cL_step 108 = .ok (.aload 5, 2) := by decide +kernel
theorem dL_step_110 : decode cL_step 110 = .ok (.iload 12, 2) := by decide +kernel
theorem dL_step_112 : decode cL_step 112 = .ok (.dup2, 1) := by decide +kernel
theorem dL_step_113 : decode cL_step 113 = .ok (.iaload, 1) := by decide +kernel
theorem dL_step_114 : decode cL_step 114 = .ok (.iload 13, 2) := by decide +kernel
theorem dL_step_116 : decode cL_step 116 = .ok (.iload 12, 2) := by decide +kernel
theorem dL_step_118 : decode cL_step 118 = .ok (.if_icmp .ne 7, 3) := by decide +kernel
theorem dL_step_121 : decode cL_step 121 = .ok (.iconst 0, 1) := by decide +kernel
theorem dL_step_122 : decode cL_step 122 = .ok (.goto 7, 3) := by decide +kernel
theorem dL_step_125 : decode cL_step 125 = .ok (.iconst 1, 1) := by decide +kernel
theorem dL_step_126 : decode cL_step 126 = .ok (.iload 13, 2) := by decide +kernel
theorem dL_step_128 : decode cL_step 128 = .ok (.ishl, 1) := by decide +kernel
theorem dL_step_129 : decode cL_step 129 = .ok (.ior, 1) := by decide +kernel
theorem dL_step_130 : decode cL_step 130 = .ok (.iastore, 1) := by decide +kernel
theorem dL_step_131 : decode cL_step 131 = .ok (.iload 13, 2) := by decide +kernel
theorem dL_step_133 : decode cL_step 133 = .ok (.iload 12, 2) := by decide +kernel
theorem dL_step_135 : decode cL_step 135 = .ok (.if_icmp .eq 22, 3) := by decide +kernel
theorem dL_step_138 : decode cL_step 138 = .ok (.aload_n 0, 1) := by decide +kernel
theorem dL_step_139 : decode cL_step 139 = .ok (.iload 12, 2) := by decide +kernel
theorem dL_step_141 : decode cL_step 141 = .ok (.iload 13, 2) := by decide +kernel
theorem dL_step_143 : decode cL_step 143 = .ok (.invokevirtual 114, 3) := by decide +kernel
theorem dL_step_146 : decode cL_step 146 = .ok (.aload 5, 2) := by decide +kernel
theorem dL_step_148 : decode cL_step 148 = .ok (.iload 12, 2) := by decide +kernel
theorem dL_step_150 : decode cL_step 150 = .ok (.iaload, 1) := by decide +kernel
theorem dL_step_151 : decode cL_step 151 = .ok (.invokestatic 100, 3) := by decide +kernel
theorem dL_step_154 : decode cL_step 154 = .ok (.if_icmp .ne 7, 3) := by decide +kernel
theorem dL_step_157 : decode cL_step 157 = .ok (.iconst 1, 1) := by decide +kernel
theorem dL_step_158 : decode cL_step 158 = .ok (.goto 4, 3) := by decide +kernel
theorem dL_step_161 : decode cL_step 161 = .ok (.iconst 0, 1) := by decide +kernel
theorem dL_step_162 : decode cL_step 162 = .ok (.ireturn, 1) := by decide +kernel
theorem dL_step_163 : decode cL_step 163 = .ok (.iload_n 1, 1) := by decide +kernel
theorem dL_step_164 : decode cL_step 164 = .ok (.iconst 2, 1) := by decide +kernel
theorem dL_step_165 : decode cL_step 165 = .ok (.if_icmp .ne 167, 3) := by decide +kernel
theorem dL_step_168 : decode cL_step 168 = .ok (.iload_n 2, 1) := by decide +kernel
theorem dL_step_169 : decode cL_step 169 = .ok (.bipush 8, 2) := by decide +kernel
theorem dL_step_171 : decode cL_step 171 = .ok (.idiv, 1) := by decide +kernel
theorem dL_step_172 : decode cL_step 172 = .ok (.bipush 6, 2) := by decide +kernel
theorem dL_step_174 : decode cL_step 174 = .ok (.irem, 1) := by decide +kernel
theorem dL_step_175 : decode cL_step 175 = .ok (.istore 13, 2) := by decide +kernel
theorem dL_step_177 : decode cL_step 177 = .ok (.iload_n 3, 1) := by decide +kernel
theorem dL_step_178 : decode cL_step 178 = .ok (.iconst 4, 1) := by decide +kernel
theorem dL_step_179 : decode cL_step 179 = .ok (.idiv, 1) := by decide +kernel
theorem dL_step_180 : decode cL_step 180 = .ok (.bipush 7, 2) := by decide +kernel
theorem dL_step_182 : decode cL_step 182 = .ok (.irem, 1) := by decide +kernel
theorem dL_step_183 : decode cL_step 183 = .ok (.iconst 1, 1) := by decide +kernel
theorem dL_step_184 : decode cL_step 184 = .ok (.isub, 1) := by decide +kernel
theorem dL_step_185 : decode cL_step 185 = .ok (.istore 14, 2) := by decide +kernel
theorem dL_step_187 : decode cL_step 187 = .ok (.aload 9, 2) := by decide +kernel
theorem dL_step_189 : decode cL_step 189 = .ok (.iconst 0, 1) := by decide +kernel
theorem dL_step_190 : decode cL_step 190 = .ok (.aload 9, 2) := by decide +kernel
theorem dL_step_192 : decode cL_step 192 = .ok (.iconst 0, 1) := by decide +kernel
theorem dL_step_193 : decode cL_step 193 = .ok (.iaload, 1) := by decide +kernel
theorem dL_step_194 : decode cL_step 194 = .ok (.iconst 1, 1) := by decide +kernel
theorem dL_step_195 : decode cL_step 195 = .ok (.iload 13, 2) := by decide +kernel
theorem dL_step_197 : decode cL_step 197 = .ok (.ishl, 1) := by decide +kernel
theorem dL_step_198 : decode cL_step 198 = .ok (.iconst (-1), 1) := by decide +kernel
theorem dL_step_199 : decode cL_step 199 = .ok (.ixor, 1) := by decide +kernel
theorem dL_step_200 : decode cL_step 200 = .ok (.iand, 1) := by decide +kernel
theorem dL_step_201 : decode cL_step 201 = .ok (.iload_n 3, 1) := by decide +kernel
theorem dL_step_202 : decode cL_step 202 = .ok (.iconst 4, 1) := by decide +kernel
theorem dL_step_203 : decode cL_step 203 = .ok (.irem, 1) := by decide +kernel
theorem dL_step_204 : decode cL_step 204 = .ok (.ifCond .le 10, 3) := by decide +kernel
theorem dL_step_207 : decode cL_step 207 = .ok (.iconst 1, 1) := by decide +kernel
theorem dL_step_208 : decode cL_step 208 = .ok (.iload 13, 2) := by decide +kernel
theorem dL_step_210 : decode cL_step 210 = .ok (.ishl, 1) := by decide +kernel
theorem dL_step_211 : decode cL_step 211 = .ok (.goto 4, 3) := by decide +kernel
theorem dL_step_214 : decode cL_step 214 = .ok (.iconst 0, 1) := by decide +kernel
theorem dL_step_215 : decode cL_step 215 = .ok (.ior, 1) := by decide +kernel
theorem dL_step_216 : decode cL_step 216 = .ok (.iastore, 1) := by decide +kernel
theorem dL_step_217 : decode cL_step 217 = .ok (.aload 9, 2) := by decide +kernel
theorem dL_step_219 : decode cL_step 219 = .ok (.iconst 1, 1) := by decide +kernel
theorem dL_step_220 : decode cL_step 220 = .ok (.aload 9, 2) := by decide +kernel
theorem dL_step_222 : decode cL_step 222 = .ok (.iconst 1, 1) := by decide +kernel
theorem dL_step_223 : decode cL_step 223 = .ok (.iaload, 1) := by decide +kernel
theorem dL_step_224 : decode cL_step 224 = .ok (.iconst 1, 1) := by decide +kernel
theorem dL_step_225 : decode cL_step 225 = .ok (.iload 13, 2) := by decide +kernel
theorem dL_step_227 : decode cL_step 227 = .ok (.ishl, 1) := by decide +kernel
theorem dL_step_228 : decode cL_step 228 = .ok (.iconst (-1), 1) := by decide +kernel
theorem dL_step_229 : decode cL_step 229 = .ok (.ixor, 1) := by decide +kernel
theorem dL_step_230 : decode cL_step 230 = .ok (.iand, 1) := by decide +kernel
theorem dL_step_231 : decode cL_step 231 = .ok (.iload_n 3, 1) := by decide +kernel
theorem dL_step_232 : decode cL_step 232 = .ok (.bipush 28, 2) := by decide +kernel
theorem dL_step_234 : decode cL_step 234 = .ok (.idiv, 1) := by decide +kernel
theorem dL_step_235 : decode cL_step 235 = .ok (.iconst 2, 1) := by decide +kernel
theorem dL_step_236 : decode cL_step 236 = .ok (.irem, 1) := by decide +kernel
theorem dL_step_237 : decode cL_step 237 = .ok (.ifCond .ne 10, 3) := by decide +kernel
theorem dL_step_240 : decode cL_step 240 = .ok (.iconst 1, 1) := by decide +kernel
theorem dL_step_241 : decode cL_step 241 = .ok (.iload 13, 2) := by decide +kernel
theorem dL_step_243 : decode cL_step 243 = .ok (.ishl, 1) := by decide +kernel
theorem dL_step_244 : decode cL_step 244 = .ok (.goto 4, 3) := by decide +kernel
theorem dL_step_247 : decode cL_step 247 = .ok (.iconst 0, 1) := by decide +kernel
theorem dL_step_248 : decode cL_step 248 = .ok (.ior, 1) := by decide +kernel
theorem dL_step_249 : decode cL_step 249 = .ok (.iastore, 1) := by decide +kernel
theorem dL_step_250 : decode cL_step 250 = .ok (.aload_n 0, 1) := by decide +kernel
theorem dL_step_251 : decode cL_step 251 = .ok (.iload 13, 2) := by decide +kernel
theorem dL_step_253 : decode cL_step 253 = .ok (.aload 9, 2) := by decide +kernel
theorem dL_step_255 : decode cL_step 255 = .ok (.iconst 0, 1) := by decide +kernel
theorem dL_step_256 : decode cL_step 256 = .ok (.iaload, 1) := by decide +kernel
theorem dL_step_257 : decode cL_step 257 = .ok (.iload 13, 2) := by decide +kernel
theorem dL_step_259 : decode cL_step 259 = .ok (.invokestatic 92, 3) := by decide +kernel
theorem dL_step_262 : decode cL_step 262 = .ok (.aload 9, 2) := by decide +kernel
theorem dL_step_264 : decode cL_step 264 = .ok (.iconst 1, 1) := by decide +kernel
theorem dL_step_265 : decode cL_step 265 = .ok (.iaload, 1) := by decide +kernel
theorem dL_step_266 : decode cL_step 266 = .ok (.iload 13, 2) := by decide +kernel
theorem dL_step_268 : decode cL_step 268 = .ok (.invokestatic 92, 3) := by decide +kernel
theorem dL_step_271 : decode cL_step 271 = .ok (.invokevirtual 117, 3) := by decide +kernel
theorem dL_step_274 : decode cL_step 274 = .ok (.aload 10, 2) := by decide +kernel
theorem dL_step_276 : decode cL_step 276 = .ok (.iload 13, 2) := by decide +kernel
theorem dL_step_278 : decode cL_step 278 = .ok (.iaload, 1) := by decide +kernel
theorem dL_step_279 : decode cL_step 279 = .ok (.iconst 1, 1) := by decide +kernel
theorem dL_step_280 : decode cL_step 280 = .ok (.isub, 1) := by decide +kernel
theorem dL_step_281 : decode cL_step 281 = .ok (.istore 15, 2) := by decide +kernel
theorem dL_step_283 : decode cL_step 283 = .ok (.aload 10, 2) := by decide +kernel
theorem dL_step_285 : decode cL_step 285 = .ok (.iload 13, 2) := by decide +kernel
theorem dL_step_287 : decode cL_step 287 = .ok (.iload 14, 2) := by decide +kernel
theorem dL_step_289 : decode cL_step 289 = .ok (.iload 13, 2) := by decide +kernel
theorem dL_step_291 : decode cL_step 291 = .ok (.if_icmp .ne 10, 3) := by decide +kernel
theorem dL_step_294 : decode cL_step 294 = .ok (.iload 15, 2) := by decide +kernel
theorem dL_step_296 : decode cL_step 296 = .ok (.iconst 1, 1) := by decide +kernel
theorem dL_step_297 : decode cL_step 297 = .ok (.iadd, 1) := by decide +kernel
theorem dL_step_298 : decode cL_step 298 = .ok (.goto 7, 3) := by decide +kernel
theorem dL_step_301 : decode cL_step 301 = .ok (.iload 14, 2) := by decide +kernel
theorem dL_step_303 : decode cL_step 303 = .ok (.iconst 1, 1) := by decide +kernel
theorem dL_step_304 : decode cL_step 304 = .ok (.iadd, 1) := by decide +kernel
theorem dL_step_305 : decode cL_step 305 = .ok (.iastore, 1) := by decide +kernel
theorem dL_step_306 : decode cL_step 306 = .ok (.iload 14, 2) := by decide +kernel
theorem dL_step_308 : decode cL_step 308 = .ok (.iload 13, 2) := by decide +kernel
theorem dL_step_310 : decode cL_step 310 = .ok (.if_icmp .eq 16, 3) := by decide +kernel
theorem dL_step_313 : decode cL_step 313 = .ok (.aload_n 0, 1) := by decide +kernel
theorem dL_step_314 : decode cL_step 314 = .ok (.iload 13, 2) := by decide +kernel
theorem dL_step_316 : decode cL_step 316 = .ok (.iload 14, 2) := by decide +kernel
theorem dL_step_318 : decode cL_step 318 = .ok (.invokevirtual 121, 3) := by decide +kernel
theorem dL_step_321 : decode cL_step 321 = .ok (.iload 15, 2) := by decide +kernel
theorem dL_step_323 : decode cL_step 323 = .ok (.if_icmp .ne 7, 3) := by decide +kernel
theorem dL_step_326 : decode cL_step 326 = .ok (.iconst 1, 1) := by decide +kernel
theorem dL_step_327 : decode cL_step 327 = .ok (.goto 4, 3) := by decide +kernel
theorem dL_step_330 : decode cL_step 330 = .ok (.iconst 0, 1) := by decide +kernel
theorem dL_step_331 : decode cL_step 331 = .ok (.ireturn, 1) := by decide +kernel
theorem dL_step_332 : decode cL_step 332 = .ok (.iload_n 1, 1) := by decide +kernel
theorem dL_step_333 : decode cL_step 333 = .ok (.iconst 3, 1) := by decide +kernel
theorem dL_step_334 : decode cL_step 334 = .ok (.if_icmp .ne 38, 3) := by decide +kernel
theorem dL_step_337 : decode cL_step 337 = .ok (.aload 8, 2) := by decide +kernel
theorem dL_step_339 : decode cL_step 339 = .ok (.iconst 2, 1) := by decide +kernel
theorem dL_step_340 : decode cL_step 340 = .ok (.iaload, 1) := by decide +kernel
theorem dL_step_341 : decode cL_step 341 = .ok (.istore 13, 2) := by decide +kernel
theorem dL_step_343 : decode cL_step 343 = .ok (.aload 8, 2) := by decide +kernel
theorem dL_step_345 : decode cL_step 345 = .ok (.iconst 2, 1) := by decide +kernel
theorem dL_step_346 : decode cL_step 346 = .ok (.iconst 1, 1) := by decide +kernel
theorem dL_step_347 : decode cL_step 347 = .ok (.iload_n 3, 1) := by decide +kernel
theorem dL_step_348 : decode cL_step 348 = .ok (.bipush 40, 2) := by decide +kernel
theorem dL_step_350 : decode cL_step 350 = .ok (.irem, 1) := by decide +kernel
theorem dL_step_351 : decode cL_step 351 = .ok (.iadd, 1) := by decide +kernel
theorem dL_step_352 : decode cL_step 352 = .ok (.iastore, 1) := by decide +kernel
theorem dL_step_353 : decode cL_step 353 = .ok (.aload_n 0, 1) := by decide +kernel
theorem dL_step_354 : decode cL_step 354 = .ok (.aload 8, 2) := by decide +kernel
theorem dL_step_356 : decode cL_step 356 = .ok (.iconst 2, 1) := by decide +kernel
theorem dL_step_357 : decode cL_step 357 = .ok (.iaload, 1) := by decide +kernel
theorem dL_step_358 : decode cL_step 358 = .ok (.invokevirtual 124, 3) := by decide +kernel
theorem dL_step_361 : decode cL_step 361 = .ok (.iload 13, 2) := by decide +kernel
theorem dL_step_363 : decode cL_step 363 = .ok (.if_icmp .ne 7, 3) := by decide +kernel
theorem dL_step_366 : decode cL_step 366 = .ok (.iconst 1, 1) := by decide +kernel
theorem dL_step_367 : decode cL_step 367 = .ok (.goto 4, 3) := by decide +kernel
theorem dL_step_370 : decode cL_step 370 = .ok (.iconst 0, 1) := by decide +kernel
theorem dL_step_371 : decode cL_step 371 = .ok (.ireturn, 1) := by decide +kernel
theorem dL_step_372 : decode cL_step 372 = .ok (.iload_n 1, 1) := by decide +kernel
theorem dL_step_373 : decode cL_step 373 = .ok (.bipush 6, 2) := by decide +kernel
theorem dL_step_375 : decode cL_step 375 = .ok (.if_icmp .ge 24, 3) := by decide +kernel
theorem dL_step_378 : decode cL_step 378 = .ok (.aload_n 0, 1) := by decide +kernel
theorem dL_step_379 : decode cL_step 379 = .ok (.iconst 0, 1) := by decide +kernel
theorem dL_step_380 : decode cL_step 380 = .ok (.iload 12, 2) := by decide +kernel
theorem dL_step_382 : decode cL_step 382 = .ok (.iload_n 2, 1) := by decide +kernel
theorem dL_step_383 : decode cL_step 383 = .ok (.bipush 8, 2) := by decide +kernel
theorem dL_step_385 : decode cL_step 385 = .ok (.idiv, 1) := by decide +kernel
theorem dL_step_386 : decode cL_step 386 = .ok (.iload_n 3, 1) := by decide +kernel
theorem dL_step_387 : decode cL_step 387 = .ok (.aload 4, 2) := by decide +kernel
theorem dL_step_389 : decode cL_step 389 = .ok (.aload 9, 2) := by decide +kernel
theorem dL_step_391 : decode cL_step 391 = .ok (.aload 8, 2) := by decide +kernel
theorem dL_step_393 : decode cL_step 393 = .ok (.aload 11, 2) := by decide +kernel
theorem dL_step_395 : decode cL_step 395 = .ok (.invokestatic 127, 3) := by decide +kernel
theorem dL_step_398 : decode cL_step 398 = .ok (.ireturn, 1) := by decide +kernel
theorem dL_step_399 : decode cL_step 399 = .ok (.iload_n 1, 1) := by decide +kernel
theorem dL_step_400 : decode cL_step 400 = .ok (.bipush 10, 2) := by decide +kernel
theorem dL_step_402 : decode cL_step 402 = .ok (.if_icmp .ge 61, 3) := by decide +kernel
theorem dL_step_405 : decode cL_step 405 = .ok (.aload_n 0, 1) := by decide +kernel
theorem dL_step_406 : decode cL_step 406 = .ok (.iload_n 1, 1) := by decide +kernel
theorem dL_step_407 : decode cL_step 407 = .ok (.bipush 8, 2) := by decide +kernel
theorem dL_step_409 : decode cL_step 409 = .ok (.if_icmp .ge 7, 3) := by decide +kernel
theorem dL_step_412 : decode cL_step 412 = .ok (.iconst 3, 1) := by decide +kernel
theorem dL_step_413 : decode cL_step 413 = .ok (.goto 28, 3) := by decide +kernel
theorem dL_step_416 : decode cL_step 416 = .ok (.iload_n 1, 1) := by decide +kernel
theorem dL_step_417 : decode cL_step 417 = .ok (.bipush 8, 2) := by decide +kernel
theorem dL_step_419 : decode cL_step 419 = .ok (.if_icmp .ne 7, 3) := by decide +kernel
theorem dL_step_422 : decode cL_step 422 = .ok (.iconst 4, 1) := by decide +kernel
theorem dL_step_423 : decode cL_step 423 = .ok (.goto 18, 3) := by decide +kernel
theorem dL_step_426 : decode cL_step 426 = .ok (.iload_n 3, 1) := by decide +kernel
theorem dL_step_427 : decode cL_step 427 = .ok (.iconst 3, 1) := by decide +kernel
theorem dL_step_428 : decode cL_step 428 = .ok (.irem, 1) := by decide +kernel
theorem dL_step_429 : decode cL_step 429 = .ok (.ifCond .ne 11, 3) := by decide +kernel
theorem dL_step_432 : decode cL_step 432 = .ok (.iload_n 3, 1) := by decide +kernel
theorem dL_step_433 : decode cL_step 433 = .ok (.iconst 2, 1) := by decide +kernel
theorem dL_step_434 : decode cL_step 434 = .ok (.irem, 1) := by decide +kernel
theorem dL_step_435 : decode cL_step 435 = .ok (.iconst 1, 1) := by decide +kernel
theorem dL_step_436 : decode cL_step 436 = .ok (.iadd, 1) := by decide +kernel
theorem dL_step_437 : decode cL_step 437 = .ok (.goto 4, 3) := by decide +kernel
theorem dL_step_440 : decode cL_step 440 = .ok (.iconst 3, 1) := by decide +kernel
theorem dL_step_441 : decode cL_step 441 = .ok (.iload 12, 2) := by decide +kernel
theorem dL_step_443 : decode cL_step 443 = .ok (.iload_n 2, 1) := by decide +kernel
theorem dL_step_444 : decode cL_step 444 = .ok (.bipush 8, 2) := by decide +kernel
theorem dL_step_446 : decode cL_step 446 = .ok (.idiv, 1) := by decide +kernel
theorem dL_step_447 : decode cL_step 447 = .ok (.iload_n 3, 1) := by decide +kernel
theorem dL_step_448 : decode cL_step 448 = .ok (.bipush 6, 2) := by decide +kernel
theorem dL_step_450 : decode cL_step 450 = .ok (.idiv, 1) := by decide +kernel
theorem dL_step_451 : decode cL_step 451 = .ok (.aload 4, 2) := by decide +kernel
theorem dL_step_453 : decode cL_step 453 = .ok (.aload 9, 2) := by decide +kernel
theorem dL_step_455 : decode cL_step 455 = .ok (.aload 8, 2) := by decide +kernel
theorem dL_step_457 : decode cL_step 457 = .ok (.aload 11, 2) := by decide +kernel
theorem dL_step_459 : decode cL_step 459 = .ok (.invokestatic 127, 3) := by decide +kernel
theorem dL_step_462 : decode cL_step 462 = .ok (.ireturn, 1) := by decide +kernel
theorem dL_step_463 : decode cL_step 463 = .ok (.iload_n 1, 1) := by decide +kernel
theorem dL_step_464 : decode cL_step 464 = .ok (.bipush 20, 2) := by decide +kernel
theorem dL_step_466 : decode cL_step 466 = .ok (.if_icmp .ge 23, 3) := by decide +kernel
theorem dL_step_469 : decode cL_step 469 = .ok (.aload_n 0, 1) := by decide +kernel
theorem dL_step_470 : decode cL_step 470 = .ok (.iload 12, 2) := by decide +kernel
theorem dL_step_472 : decode cL_step 472 = .ok (.iload_n 2, 1) := by decide +kernel
theorem dL_step_473 : decode cL_step 473 = .ok (.bipush 8, 2) := by decide +kernel
theorem dL_step_475 : decode cL_step 475 = .ok (.idiv, 1) := by decide +kernel
theorem dL_step_476 : decode cL_step 476 = .ok (.iload_n 3, 1) := by decide +kernel
theorem dL_step_477 : decode cL_step 477 = .ok (.aload 4, 2) := by decide +kernel
theorem dL_step_479 : decode cL_step 479 = .ok (.aload 9, 2) := by decide +kernel
theorem dL_step_481 : decode cL_step 481 = .ok (.aload 10, 2) := by decide +kernel
theorem dL_step_483 : decode cL_step 483 = .ok (.aload 8, 2) := by decide +kernel
theorem dL_step_485 : decode cL_step 485 = .ok (.invokestatic 131, 3) := by decide +kernel
theorem dL_step_488 : decode cL_step 488 = .ok (.ireturn, 1) := by decide +kernel
theorem dL_step_489 : decode cL_step 489 = .ok (.iload_n 1, 1) := by decide +kernel
theorem dL_step_490 : decode cL_step 490 = .ok (.bipush 22, 2) := by decide +kernel
theorem dL_step_492 : decode cL_step 492 = .ok (.if_icmp .ge 41, 3) := by decide +kernel
theorem dL_step_495 : decode cL_step 495 = .ok (.aload_n 0, 1) := by decide +kernel
theorem dL_step_496 : decode cL_step 496 = .ok (.iload_n 3, 1) := by decide +kernel
theorem dL_step_497 : decode cL_step 497 = .ok (.iconst 4, 1) := by decide +kernel
theorem dL_step_498 : decode cL_step 498 = .ok (.irem, 1) := by decide +kernel
theorem dL_step_499 : decode cL_step 499 = .ok (.ifCond .ne 7, 3) := by decide +kernel
theorem dL_step_502 : decode cL_step 502 = .ok (.iconst 1, 1) := by decide +kernel
theorem dL_step_503 : decode cL_step 503 = .ok (.goto 15, 3) := by decide +kernel
theorem dL_step_506 : decode cL_step 506 = .ok (.iload_n 3, 1) := by decide +kernel
theorem dL_step_507 : decode cL_step 507 = .ok (.iconst 4, 1) := by decide +kernel
theorem dL_step_508 : decode cL_step 508 = .ok (.irem, 1) := by decide +kernel
theorem dL_step_509 : decode cL_step 509 = .ok (.iconst 1, 1) := by decide +kernel
theorem dL_step_510 : decode cL_step 510 = .ok (.if_icmp .ne 7, 3) := by decide +kernel
theorem dL_step_513 : decode cL_step 513 = .ok (.iconst 2, 1) := by decide +kernel
theorem dL_step_514 : decode cL_step 514 = .ok (.goto 4, 3) := by decide +kernel
theorem dL_step_517 : decode cL_step 517 = .ok (.iconst 0, 1) := by decide +kernel
theorem dL_step_518 : decode cL_step 518 = .ok (.iload 12, 2) := by decide +kernel
theorem dL_step_520 : decode cL_step 520 = .ok (.iload_n 3, 1) := by decide +kernel
theorem dL_step_521 : decode cL_step 521 = .ok (.iconst 4, 1) := by decide +kernel
theorem dL_step_522 : decode cL_step 522 = .ok (.idiv, 1) := by decide +kernel
theorem dL_step_523 : decode cL_step 523 = .ok (.aload 4, 2) := by decide +kernel
theorem dL_step_525 : decode cL_step 525 = .ok (.aload 8, 2) := by decide +kernel
theorem dL_step_527 : decode cL_step 527 = .ok (.aload 7, 2) := by decide +kernel
theorem dL_step_529 : decode cL_step 529 = .ok (.invokestatic 135, 3) := by decide +kernel
theorem dL_step_532 : decode cL_step 532 = .ok (.ireturn, 1) := by decide +kernel
theorem dL_step_533 : decode cL_step 533 = .ok (.iconst 1, 1) := by decide +kernel
theorem dL_step_534 : decode cL_step 534 = .ok (.istore 13, 2) := by decide +kernel
theorem dL_step_536 : decode cL_step 536 = .ok (.iconst 0, 1) := by decide +kernel
theorem dL_step_537 : decode cL_step 537 = .ok (.istore 14, 2) := by decide +kernel
theorem dL_step_539 : decode cL_step 539 = .ok (.iload 14, 2) := by decide +kernel
theorem dL_step_541 : decode cL_step 541 = .ok (.iconst 1, 1) := by decide +kernel
theorem dL_step_542 : decode cL_step 542 = .ok (.iload_n 3, 1) := by decide +kernel
theorem dL_step_543 : decode cL_step 543 = .ok (.bipush 7, 2) := by decide +kernel
theorem dL_step_545 : decode cL_step 545 = .ok (.irem, 1) := by decide +kernel
theorem dL_step_546 : decode cL_step 546 = .ok (.iadd, 1) := by decide +kernel
theorem dL_step_547 : decode cL_step 547 = .ok (.if_icmp .ge 38, 3) := by decide +kernel
theorem dL_step_550 : decode cL_step 550 = .ok (.iload 13, 2) := by decide +kernel
theorem dL_step_552 : decode cL_step 552 = .ok (.ifCond .eq 33, 3) := by decide +kernel
theorem dL_step_555 : decode cL_step 555 = .ok (.aload 8, 2) := by decide +kernel
theorem dL_step_557 : decode cL_step 557 = .ok (.iconst 0, 1) := by decide +kernel
theorem dL_step_558 : decode cL_step 558 = .ok (.iaload, 1) := by decide +kernel
theorem dL_step_559 : decode cL_step 559 = .ok (.sipush 1000, 3) := by decide +kernel
theorem dL_step_562 : decode cL_step 562 = .ok (.if_icmp .ge 23, 3) := by decide +kernel
theorem dL_step_565 : decode cL_step 565 = .ok (.aload_n 0, 1) := by decide +kernel
theorem dL_step_566 : decode cL_step 566 = .ok (.aload 4, 2) := by decide +kernel
theorem dL_step_568 : decode cL_step 568 = .ok (.aload 5, 2) := by decide +kernel
theorem dL_step_570 : decode cL_step 570 = .ok (.aload 6, 2) := by decide +kernel
theorem dL_step_572 : decode cL_step 572 = .ok (.aload 8, 2) := by decide +kernel
theorem dL_step_574 : decode cL_step 574 = .ok (.invokestatic 139, 3) := by decide +kernel
theorem dL_step_577 : decode cL_step 577 = .ok (.istore 13, 2) := by decide +kernel
theorem dL_step_579 : decode cL_step 579 = .ok (.iinc 14 1, 3) := by decide +kernel
theorem dL_step_582 : decode cL_step 582 = .ok (.goto (-43), 3) := by decide +kernel
theorem dL_step_585 : decode cL_step 585 = .ok (.iload 13, 2) := by decide +kernel
theorem dL_step_587 : decode cL_step 587 = .ok (.ireturn, 1) := by decide +kernel
set_option maxRecDepth 20000 in
theorem ggL_keeper_X3_init : GoodIn wsL_keeper wsX3_init := goodIn_r _ [8, 9, 10, 11, 12, 13, 14, 4, 15, 16, 17, 18, 19, 20, 21, 22, 23, 24, 25, 26, 27, 28, 29, 30, 31, 354, 355, 356, 357, 358, 359, 360, 361, 362, 363, 364, 365] (by decide +kernel) (by decide +kernel)
set_option maxRecDepth 20000 in
theorem gL_keeper_X3_init : GoodIn wsL_keeper (wsX3_init) := ggL_keeper_X3_init
set_option maxRecDepth 20000 in
theorem ggL_keeper_L_draw : GoodIn wsL_keeper wsL_draw := goodIn_r _ [35, 36, 37, 38] (by decide +kernel) (by decide +kernel)
set_option maxRecDepth 20000 in
theorem gL_keeper_L_draw : GoodIn wsL_keeper (va_wsS RL 145 yL_draw wsL_draw) := goodIn_app (goodIn_of _ (by decide +kernel)) ggL_keeper_L_draw
set_option maxRecDepth 20000 in
theorem ggL_keeper_X3_day : GoodIn wsL_keeper wsX3_day := goodIn_r _ [334, 24, 354, 355, 356, 357, 358, 359, 360, 361] (by decide +kernel) (by decide +kernel)
set_option maxRecDepth 20000 in
theorem gL_keeper_X3_day : GoodIn wsL_keeper (wsV RL 152 RX3 yX3_day wsX3_day) := goodIn_app (goodIn_of _ (by decide +kernel)) ggL_keeper_X3_day
set_option maxRecDepth 20000 in
theorem ggL_keeper_L_isPaper : GoodIn wsL_keeper wsL_isPaper := goodIn_ca (goodIn_ca (goodIn_r _ [337, 71, 72, 73, 3, 74, 75, 76, 77, 78, 79, 80, 81, 82, 17, 83, 84, 85, 58, 86, 87, 88, 89, 90, 91, 92, 67, 66, 93, 94, 95, 96, 97, 68, 98, 99, 100, 101, 69, 70, 148, 149, 150, 151, 152, 153, 154, 155, 156, 157, 102, 103, 104, 105, 106, 107, 108, 49, 109, 110, 338, 339, 340, 341, 24, 134, 135, 136, 115, 116, 342, 343, 344, 345, 61, 288, 289, 290, 291, 23, 254, 255, 256, 257, 258, 259, 346, 347, 348, 349, 21, 350, 351, 352, 20, 353, 273, 31, 29, 30, 320, 321, 322, 323, 324, 325, 326, 327, 328, 329, 330, 124, 125, 34, 126, 366, 367, 368, 369, 370, 371, 372, 373, 374, 354, 355, 356, 357, 358, 359, 360, 361, 375, 376, 377, 378, 379, 380, 381, 382, 383, 384, 385, 386, 362, 363, 364, 365] (by decide +kernel) (by decide +kernel)) (goodIn_sub (fun _ h => List.mem_cons_of_mem _ (List.mem_append_left _ (List.mem_append_right _ h))) (by decide +kernel))) (goodIn_sub (fun _ h => List.mem_cons_of_mem _ (List.mem_append_right _ h)) (by decide +kernel))
set_option maxRecDepth 20000 in
theorem gL_keeper_L_isPaper : GoodIn wsL_keeper (va_wsS RL 156 yL_isPaper wsL_isPaper) := goodIn_app (goodIn_of _ (by decide +kernel)) ggL_keeper_L_isPaper
theorem dL_keeper_0 : decode cL_keeper 0 = .ok (.new 11, 3) := by decide +kernel
theorem dL_keeper_3 : decode cL_keeper 3 = .ok (.dup, 1) := by decide +kernel
theorem dL_keeper_4 : decode cL_keeper 4 = .ok (.invokespecial 143, 3) := by decide +kernel
theorem dL_keeper_7 : decode cL_keeper 7 = .ok (.astore_n 2, 1) := by decide +kernel
theorem dL_keeper_8 : decode cL_keeper 8 = .ok (.bipush 64, 2) := by decide +kernel
theorem dL_keeper_10 : decode cL_keeper 10 = .ok (.newarray .int, 2) := by decide +kernel
theorem dL_keeper_12 : decode cL_keeper 12 = .ok (.astore_n 3, 1) := by decide +kernel
theorem dL_keeper_13 : decode cL_keeper 13 = .ok (.bipush 8, 2) := by decide +kernel
theorem dL_keeper_15 : decode cL_keeper 15 = .ok (.newarray .int, 2) := by decide +kernel
theorem dL_keeper_17 : decode cL_keeper 17 = .ok (.astore 4, 2) := by decide +kernel
theorem dL_keeper_19 : decode cL_keeper 19 = .ok (.bipush 64, 2) := by decide +kernel
theorem dL_keeper_21 : decode cL_keeper 21 = .ok (.newarray .int, 2) := by decide +kernel
theorem dL_keeper_23 : decode cL_keeper 23 = .ok (.astore 5, 2) := by decide +kernel
theorem dL_keeper_25 : decode cL_keeper 25 = .ok (.bipush 60, 2) := by decide +kernel
theorem dL_keeper_27 : decode cL_keeper 27 = .ok (.newarray .int, 2) := by decide +kernel
theorem dL_keeper_29 : decode cL_keeper 29 = .ok (.astore 6, 2) := by decide +kernel
theorem dL_keeper_31 : decode cL_keeper 31 = .ok (.iconst 4, 1) := by decide +kernel
theorem dL_keeper_32 : decode cL_keeper 32 = .ok (.newarray .int, 2) := by decide +kernel
theorem dL_keeper_34 : decode cL_keeper 34 = .ok (.astore 7, 2) := by decide +kernel
theorem dL_keeper_36 : decode cL_keeper 36 = .ok (.iconst 2, 1) := by decide +kernel
theorem dL_keeper_37 : decode cL_keeper 37 = .ok (.newarray .int, 2) := by decide +kernel
theorem dL_keeper_39 : decode cL_keeper 39 = .ok (.astore 8, 2) := by decide +kernel
theorem dL_keeper_41 : decode cL_keeper 41 = .ok (.bipush 6, 2) := by decide +kernel
theorem dL_keeper_43 : decode cL_keeper 43 = .ok (.newarray .int, 2) := by decide +kernel
theorem dL_keeper_45 : decode cL_keeper 45 = .ok (.astore 9, 2) := by decide +kernel
theorem dL_keeper_47 : decode cL_keeper 47 = .ok (.bipush 16, 2) := by decide +kernel
theorem dL_keeper_49 : decode cL_keeper 49 = .ok (.newarray .int, 2) := by decide +kernel
theorem dL_keeper_51 : decode cL_keeper 51 = .ok (.astore 10, 2) := by decide +kernel
theorem dL_keeper_53 : decode cL_keeper 53 = .ok (.aload 7, 2) := by decide +kernel
theorem dL_keeper_55 : decode cL_keeper 55 = .ok (.iconst 2, 1) := by decide +kernel
theorem dL_keeper_56 : decode cL_keeper 56 = .ok (.bipush 30, 2) := by decide +kernel
theorem dL_keeper_58 : decode cL_keeper 58 = .ok (.iastore, 1) := by decide +kernel
theorem dL_keeper_59 : decode cL_keeper 59 = .ok (.iconst 0, 1) := by decide +kernel
theorem dL_keeper_60 : decode cL_keeper 60 = .ok (.istore 11, 2) := by decide +kernel
theorem dL_keeper_62 : decode cL_keeper 62 = .ok (.iload 11, 2) := by decide +kernel
theorem dL_keeper_64 : decode cL_keeper 64 = .ok (.bipush 90, 2) := by decide +kernel
theorem dL_keeper_66 : decode cL_keeper 66 = .ok (.if_icmp .ge 164, 3) := by decide +kernel
theorem dL_keeper_69 : decode cL_keeper 69 = .ok (.aload_n 0, 1) := by decide +kernel
theorem dL_keeper_70 : decode cL_keeper 70 = .ok (.iload_n 1, 1) := by decide +kernel
theorem dL_keeper_71 : decode cL_keeper 71 = .ok (.iconst 3, 1) := by decide +kernel
theorem dL_keeper_72 : decode cL_keeper 72 = .ok (.iload 11, 2) := by decide +kernel
theorem dL_keeper_74 : decode cL_keeper 74 = .ok (.imul, 1) := by decide +kernel
theorem dL_keeper_75 : decode cL_keeper 75 = .ok (.iadd, 1) := by decide +kernel
theorem dL_keeper_76 : decode cL_keeper 76 = .ok (.iconst 1, 1) := by decide +kernel
theorem dL_keeper_77 : decode cL_keeper 77 = .ok (.iadd, 1) := by decide +kernel
theorem dL_keeper_78 : decode cL_keeper 78 = .ok (.ldc 144, 2) := by decide +kernel
theorem dL_keeper_80 : decode cL_keeper 80 = .ok (.invokestatic 145, 3) := by decide +kernel
theorem dL_keeper_83 : decode cL_keeper 83 = .ok (.istore 12, 2) := by decide +kernel
theorem dL_keeper_85 : decode cL_keeper 85 = .ok (.aload_n 0, 1) := by decide +kernel
theorem dL_keeper_86 : decode cL_keeper 86 = .ok (.iload_n 1, 1) := by decide +kernel
theorem dL_keeper_87 : decode cL_keeper 87 = .ok (.iconst 3, 1) := by decide +kernel
theorem dL_keeper_88 : decode cL_keeper 88 = .ok (.iload 11, 2) := by decide +kernel
theorem dL_keeper_90 : decode cL_keeper 90 = .ok (.imul, 1) := by decide +kernel
theorem dL_keeper_91 : decode cL_keeper 91 = .ok (.iadd, 1) := by decide +kernel
theorem dL_keeper_92 : decode cL_keeper 92 = .ok (.iconst 2, 1) := by decide +kernel
theorem dL_keeper_93 : decode cL_keeper 93 = .ok (.iadd, 1) := by decide +kernel
theorem dL_keeper_94 : decode cL_keeper 94 = .ok (.ldc 144, 2) := by decide +kernel
theorem dL_keeper_96 : decode cL_keeper 96 = .ok (.invokestatic 145, 3) := by decide +kernel
theorem dL_keeper_99 : decode cL_keeper 99 = .ok (.istore 13, 2) := by decide +kernel
theorem dL_keeper_101 : decode cL_keeper 101 = .ok (.iload 11, 2) := by decide +kernel
theorem dL_keeper_103 : decode cL_keeper 103 = .ok (.iconst 3, 1) := by decide +kernel
theorem dL_keeper_104 : decode cL_keeper 104 = .ok (.if_icmp .ge 7, 3) := by decide +kernel
theorem dL_keeper_107 : decode cL_keeper 107 = .ok (.iconst 0, 1) := by decide +kernel
theorem dL_keeper_108 : decode cL_keeper 108 = .ok (.goto 37, 3) := by decide +kernel
theorem dL_keeper_111 : decode cL_keeper 111 = .ok (.iload 11, 2) := by decide +kernel
theorem dL_keeper_113 : decode cL_keeper 113 = .ok (.bipush 8, 2) := by decide +kernel
theorem dL_keeper_115 : decode cL_keeper 115 = .ok (.if_icmp .ge 7, 3) := by decide +kernel
theorem dL_keeper_118 : decode cL_keeper 118 = .ok (.iconst 2, 1) := by decide +kernel
theorem dL_keeper_119 : decode cL_keeper 119 = .ok (.goto 26, 3) := by decide +kernel
theorem dL_keeper_122 : decode cL_keeper 122 = .ok (.iload 11, 2) := by decide +kernel
theorem dL_keeper_124 : decode cL_keeper 124 = .ok (.bipush 11, 2) := by decide +kernel
theorem dL_keeper_126 : decode cL_keeper 126 = .ok (.if_icmp .ge 7, 3) := by decide +kernel
theorem dL_keeper_129 : decode cL_keeper 129 = .ok (.iconst 4, 1) := by decide +kernel
theorem dL_keeper_130 : decode cL_keeper 130 = .ok (.goto 15, 3) := by decide +kernel
theorem dL_keeper_133 : decode cL_keeper 133 = .ok (.aload_n 0, 1) := by decide +kernel
theorem dL_keeper_134 : decode cL_keeper 134 = .ok (.iload_n 1, 1) := by decide +kernel
theorem dL_keeper_135 : decode cL_keeper 135 = .ok (.iconst 3, 1) := by decide +kernel
theorem dL_keeper_136 : decode cL_keeper 136 = .ok (.iload 11, 2) := by decide +kernel
theorem dL_keeper_138 : decode cL_keeper 138 = .ok (.imul, 1) := by decide +kernel
theorem dL_keeper_139 : decode cL_keeper 139 = .ok (.iadd, 1) := by decide +kernel
theorem dL_keeper_140 : decode cL_keeper 140 = .ok (.bipush 25, 2) := by decide +kernel
theorem dL_keeper_142 : decode cL_keeper 142 = .ok (.invokestatic 145, 3) := by decide +kernel
theorem dL_keeper_145 : decode cL_keeper 145 = .ok (.istore 14, 2) := by decide +kernel
theorem dL_keeper_147 : decode cL_keeper 147 = .ok (.aload_n 2, 1) := by decide +kernel
theorem dL_keeper_148 : decode cL_keeper 148 = .ok (.iload 14, 2) := by decide +kernel
theorem dL_keeper_150 : decode cL_keeper 150 = .ok (.iload 12, 2) := by decide +kernel
theorem dL_keeper_152 : decode cL_keeper 152 = .ok (.iload 13, 2) := by decide +kernel
theorem dL_keeper_154 : decode cL_keeper 154 = .ok (.aload_n 3, 1) := by decide +kernel
theorem dL_keeper_155 : decode cL_keeper 155 = .ok (.aload 4, 2) := by decide +kernel
theorem dL_keeper_157 : decode cL_keeper 157 = .ok (.aload 5, 2) := by decide +kernel
theorem dL_keeper_159 : decode cL_keeper 159 = .ok (.aload 6, 2) := by decide +kernel
theorem dL_keeper_161 : decode cL_keeper 161 = .ok (.aload 7, 2) := by decide +kernel
theorem dL_keeper_163 : decode cL_keeper 163 = .ok (.aload 8, 2) := by decide +kernel
theorem dL_keeper_165 : decode cL_keeper 165 = .ok (.aload 9, 2) := by decide +kernel
theorem dL_keeper_167 : decode cL_keeper 167 = .ok (.aload 10, 2) := by decide +kernel
theorem dL_keeper_169 : decode cL_keeper 169 = .ok (.invokestatic 149, 3) := by decide +kernel
theorem dL_keeper_172 : decode cL_keeper 172 = .ok (.ifCond .eq 14, 3) := by decide +kernel
theorem dL_keeper_175 : decode cL_keeper 175 = .ok (.aload_n 2, 1) := by decide +kernel
theorem dL_keeper_176 : decode cL_keeper 176 = .ok (.invokevirtual 152, 3) := by decide +kernel
theorem dL_keeper_179 : decode cL_keeper 179 = .ok (.aload 7, 2) := by decide +kernel
theorem dL_keeper_181 : decode cL_keeper 181 = .ok (.iconst 0, 1) := by decide +kernel
theorem dL_keeper_182 : decode cL_keeper 182 = .ok (.iaload, 1) := by decide +kernel
theorem dL_keeper_183 : decode cL_keeper 183 = .ok (.if_icmp .eq 5, 3) := by decide +kernel
theorem dL_keeper_186 : decode cL_keeper 186 = .ok (.iconst 0, 1) := by decide +kernel
theorem dL_keeper_187 : decode cL_keeper 187 = .ok (.ireturn, 1) := by decide +kernel
theorem dL_keeper_188 : decode cL_keeper 188 = .ok (.iconst 0, 1) := by decide +kernel
theorem dL_keeper_189 : decode cL_keeper 189 = .ok (.istore 15, 2) := by decide +kernel
theorem dL_keeper_191 : decode cL_keeper 191 = .ok (.iload 15, 2) := by decide +kernel
theorem dL_keeper_193 : decode cL_keeper 193 = .ok (.aload 7, 2) := by decide +kernel
theorem dL_keeper_195 : decode cL_keeper 195 = .ok (.iconst 1, 1) := by decide +kernel
theorem dL_keeper_196 : decode cL_keeper 196 = .ok (.iaload, 1) := by decide +kernel
theorem dL_keeper_197 : decode cL_keeper 197 = .ok (.if_icmp .ge 27, 3) := by decide +kernel
theorem dL_keeper_200 : decode cL_keeper 200 = .ok (.aload_n 2, 1) := by decide +kernel
theorem dL_keeper_201 : decode cL_keeper 201 = .ok (.aload_n 3, 1) := by decide +kernel
theorem dL_keeper_202 : decode cL_keeper 202 = .ok (.aload 7, 2) := by decide +kernel
theorem dL_keeper_204 : decode cL_keeper 204 = .ok (.aload 10, 2) := by decide +kernel
theorem dL_keeper_206 : decode cL_keeper 206 = .ok (.aload 6, 2) := by decide +kernel
theorem dL_keeper_208 : decode cL_keeper 208 = .ok (.iload 15, 2) := by decide +kernel
theorem dL_keeper_210 : decode cL_keeper 210 = .ok (.invokestatic 156, 3) := by decide +kernel
theorem dL_keeper_213 : decode cL_keeper 213 = .ok (.ifCond .ne 5, 3) := by decide +kernel
theorem dL_keeper_216 : decode cL_keeper 216 = .ok (.iconst 0, 1) := by decide +kernel
theorem dL_keeper_217 : decode cL_keeper 217 = .ok (.ireturn, 1) := by decide +kernel
theorem dL_keeper_218 : decode cL_keeper 218 = .ok (.iinc 15 1, 3) := by decide +kernel
theorem dL_keeper_221 : decode cL_keeper 221 = .ok (.goto (-30), 3) := by decide +kernel
theorem dL_keeper_224 : decode cL_keeper 224 = .ok (.iinc 11 1, 3) := by decide +kernel
theorem dL_keeper_227 : decode cL_keeper 227 = .ok (.goto (-165), 3) := by decide +kernel
theorem dL_keeper_230 : decode cL_keeper 230 = .ok (.iconst 1, 1) := by decide +kernel
theorem dL_keeper_231 : decode cL_keeper 231 = .ok (.ireturn, 1) := by decide +kernel
theorem dL_law_0 : decode cL_law 0 = .ok (.aload_n 0, 1) := by decide +kernel
theorem dL_law_1 : decode cL_law 1 = .ok (.iconst 0, 1) := by decide +kernel
theorem dL_law_2 : decode cL_law 2 = .ok (.invokestatic 160, 3) := by decide +kernel
theorem dL_law_5 : decode cL_law 5 = .ok (.ifCond .eq 27, 3) := by decide +kernel
theorem dL_law_8 : decode cL_law 8 = .ok (.aload_n 0, 1) := by decide +kernel
theorem dL_law_9 : decode cL_law 9 = .ok (.sipush 275, 3) := by decide +kernel
theorem dL_law_12 : decode cL_law 12 = .ok (.invokestatic 160, 3) := by decide +kernel
theorem dL_law_15 : decode cL_law 15 = .ok (.ifCond .eq 17, 3) := by decide +kernel
theorem dL_law_18 : decode cL_law 18 = .ok (.aload_n 0, 1) := by decide +kernel
theorem dL_law_19 : decode cL_law 19 = .ok (.sipush 550, 3) := by decide +kernel
theorem dL_law_22 : decode cL_law 22 = .ok (.invokestatic 160, 3) := by decide +kernel
theorem dL_law_25 : decode cL_law 25 = .ok (.ifCond .eq 7, 3) := by decide +kernel
theorem dL_law_28 : decode cL_law 28 = .ok (.iconst 1, 1) := by decide +kernel
theorem dL_law_29 : decode cL_law 29 = .ok (.goto 4, 3) := by decide +kernel
theorem dL_law_32 : decode cL_law 32 = .ok (.iconst 0, 1) := by decide +kernel
theorem dL_law_33 : decode cL_law 33 = .ok (.ireturn, 1) := by decide +kernel

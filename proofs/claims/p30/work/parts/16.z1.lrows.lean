theorem dL_mayApprove_34 : decode cL_mayApprove 34 = .ok (.iload 4, 2) := by decide +kernel
theorem dL_mayApprove_36 : decode cL_mayApprove 36 = .ok (.iaload, 1) := by decide +kernel
theorem dL_mayApprove_37 : decode cL_mayApprove 37 = .ok (.iload_n 2, 1) := by decide +kernel
theorem dL_mayApprove_38 : decode cL_mayApprove 38 = .ok (.iconst 1, 1) := by decide +kernel
theorem dL_mayApprove_39 : decode cL_mayApprove 39 = .ok (.iadd, 1) := by decide +kernel
theorem dL_mayApprove_40 : decode cL_mayApprove 40 = .ok (.if_icmp .ne 7, 3) := by decide +kernel
theorem dL_mayApprove_43 : decode cL_mayApprove 43 = .ok (.iconst 1, 1) := by decide +kernel
theorem dL_mayApprove_44 : decode cL_mayApprove 44 = .ok (.goto 4, 3) := by decide +kernel
theorem dL_mayApprove_47 : decode cL_mayApprove 47 = .ok (.iconst 0, 1) := by decide +kernel
theorem dL_mayApprove_48 : decode cL_mayApprove 48 = .ok (.istore_n 3, 1) := by decide +kernel
theorem dL_mayApprove_49 : decode cL_mayApprove 49 = .ok (.iinc 4 1, 3) := by decide +kernel
theorem dL_mayApprove_52 : decode cL_mayApprove 52 = .ok (.goto (-41), 3) := by decide +kernel
theorem dL_mayApprove_55 : decode cL_mayApprove 55 = .ok (.iload_n 3, 1) := by decide +kernel
theorem dL_mayApprove_56 : decode cL_mayApprove 56 = .ok (.ireturn, 1) := by decide +kernel
set_option maxRecDepth 20000 in
theorem ggL_drafts_X3_step : GoodIn wsL_drafts wsX3_step := goodIn_ca (goodIn_r _ [5, 6, 7, 8, 9, 10, 4, 11, 12, 13, 14, 15, 16, 17, 18, 19, 20, 21, 22, 23, 24, 25, 26, 27, 28, 29, 30, 31, 32, 33, 34, 35, 36, 37, 38, 39, 207, 208, 209, 210, 211, 212, 213, 214, 215, 216, 217, 218, 219, 220, 221, 222, 223, 224, 225, 226, 227, 228, 229, 230, 231, 232, 233, 234, 235] (by decide +kernel) (by decide +kernel)) (goodIn_sub (fun _ h => List.mem_cons_of_mem _ (List.mem_append_left _ (List.mem_append_left _ (List.mem_append_right _ h)))) (by decide +kernel))
set_option maxRecDepth 20000 in
theorem gL_drafts_X3_step : GoodIn wsL_drafts (wsV RL 68 RX3 yX3_step wsX3_step) := goodIn_app (goodIn_of _ (by decide +kernel)) ggL_drafts_X3_step
set_option maxRecDepth 20000 in
theorem ggL_drafts_X3_waitsFor : GoodIn wsL_drafts wsX3_waitsFor := goodIn_ca (goodIn_r _ [43, 6, 7, 8, 9, 10, 4, 11, 12, 13, 14, 44, 45, 46, 18, 47, 48, 49, 16, 17, 19, 20, 21, 22, 23, 24, 25, 26, 27, 28, 29, 30, 31, 32, 33, 34, 35, 36, 37, 38, 39, 207, 208, 209, 210, 211, 212, 213, 214, 215, 216, 217, 218, 219, 220, 221, 222, 223, 224, 225, 226, 227, 228, 229, 230, 231, 232, 233, 234, 235] (by decide +kernel) (by decide +kernel)) (goodIn_sub (fun _ h => List.mem_cons_of_mem _ (List.mem_append_left _ (List.mem_append_left _ (List.mem_append_right _ h)))) (by decide +kernel))
set_option maxRecDepth 20000 in
theorem gL_drafts_X3_waitsFor : GoodIn wsL_drafts (wsV RL 71 RX3 yX3_waitsFor wsX3_waitsFor) := goodIn_app (goodIn_of _ (by decide +kernel)) ggL_drafts_X3_waitsFor
set_option maxRecDepth 20000 in
theorem ggL_drafts_L_asks : GoodIn wsL_drafts wsL_asks := goodIn_ca (goodIn_ca (goodIn_ca (goodIn_r _ [53, 54, 55, 56, 57, 58, 52, 59, 60, 61, 62, 4, 63, 64, 65, 6, 7, 8, 9, 10, 11, 12, 13, 14, 66, 67, 68, 69, 70, 71, 72, 73, 74, 75, 76, 18, 77, 48, 78, 79, 20, 38, 80, 81, 82, 83, 32, 21, 26, 39, 84, 85, 86, 87, 88, 89, 90, 91, 92, 93, 94, 95, 96, 97, 98, 99, 100, 101, 102, 103, 104, 105, 106, 107, 108, 109, 110, 27, 111, 112, 113, 114, 115, 116, 117, 118, 119, 120, 121, 122, 123, 124, 125, 23, 24, 25, 126, 127, 128, 129, 33, 130, 131, 132, 133, 134, 135, 136, 29, 30, 31, 137, 138, 139, 140, 141, 142, 143, 144, 145, 15, 16, 17, 19, 22, 28, 34, 35, 36, 37, 146, 147, 148, 149, 150, 151, 152, 153, 154, 155, 156, 157, 158, 159, 160, 161, 162, 163, 164, 165, 166, 167, 168, 169, 170, 171, 172, 173, 174, 175, 176, 177, 178, 179, 180, 181, 182, 183, 184, 185, 186, 187, 188, 189, 190, 191, 192, 193, 194, 195, 196, 197, 198, 199, 200, 207, 208, 209, 210, 211, 212, 213, 214, 215, 216, 217, 218, 219, 220, 221, 222, 223, 224, 225, 226, 227, 228, 229, 230, 231, 232, 233, 234, 235, 236, 237, 238, 239] (by decide +kernel) (by decide +kernel)) (goodIn_sub (fun _ h => List.mem_cons_of_mem _ (List.mem_append_left _ (List.mem_append_right _ h))) (by decide +kernel))) (goodIn_sub (fun _ h => List.mem_cons_of_mem _ (List.mem_append_left _ (List.mem_append_left _ (List.mem_append_right _ h)))) (by decide +kernel))) (goodIn_sub (fun _ h => List.mem_cons_of_mem _ (List.mem_append_right _ h)) (by decide +kernel))
set_option maxRecDepth 20000 in
theorem gL_drafts_L_asks : GoodIn wsL_drafts (va_wsS RL 96 yL_asks wsL_asks) := goodIn_app (goodIn_of _ (by decide +kernel)) ggL_drafts_L_asks
set_option maxRecDepth 20000 in
theorem ggL_drafts_L_has : GoodIn wsL_drafts wsL_has := goodIn_r _ [203] (by decide +kernel) (by decide +kernel)
set_option maxRecDepth 20000 in
theorem gL_drafts_L_has : GoodIn wsL_drafts (va_wsS RL 92 yL_has wsL_has) := goodIn_app (goodIn_of _ (by decide +kernel)) ggL_drafts_L_has
set_option maxRecDepth 20000 in
theorem ggL_drafts_L_size : GoodIn wsL_drafts wsL_size := goodIn_r _ [206] (by decide +kernel) (by decide +kernel)
set_option maxRecDepth 20000 in
theorem gL_drafts_L_size : GoodIn wsL_drafts (va_wsS RL 100 yL_size wsL_size) := goodIn_app (goodIn_of _ (by decide +kernel)) ggL_drafts_L_size
theorem dL_drafts_0 : decode cL_drafts 0 = .ok (.bipush 8, 2) := by decide +kernel
theorem dL_drafts_2 : decode cL_drafts 2 = .ok (.iload_n 2, 1) := by decide +kernel
theorem dL_drafts_3 : decode cL_drafts 3 = .ok (.imul, 1) := by decide +kernel
theorem dL_drafts_4 : decode cL_drafts 4 = .ok (.istore 9, 2) := by decide +kernel
theorem dL_drafts_6 : decode cL_drafts 6 = .ok (.aload_n 0, 1) := by decide +kernel
theorem dL_drafts_7 : decode cL_drafts 7 = .ok (.iload_n 2, 1) := by decide +kernel
theorem dL_drafts_8 : decode cL_drafts 8 = .ok (.invokevirtual 68, 3) := by decide +kernel
theorem dL_drafts_11 : decode cL_drafts 11 = .ok (.istore 10, 2) := by decide +kernel
theorem dL_drafts_13 : decode cL_drafts 13 = .ok (.aload_n 0, 1) := by decide +kernel
theorem dL_drafts_14 : decode cL_drafts 14 = .ok (.iload_n 2, 1) := by decide +kernel
theorem dL_drafts_15 : decode cL_drafts 15 = .ok (.invokevirtual 71, 3) := by decide +kernel
theorem dL_drafts_18 : decode cL_drafts 18 = .ok (.istore 11, 2) := by decide +kernel
theorem dL_drafts_20 : decode cL_drafts 20 = .ok (.iload_n 1, 1) := by decide +kernel
theorem dL_drafts_21 : decode cL_drafts 21 = .ok (.ifCond .ne 138, 3) := by decide +kernel
theorem dL_drafts_24 : decode cL_drafts 24 = .ok (.aload_n 0, 1) := by decide +kernel
theorem dL_drafts_25 : decode cL_drafts 25 = .ok (.iconst 0, 1) := by decide +kernel
theorem dL_drafts_26 : decode cL_drafts 26 = .ok (.iload_n 2, 1) := by decide +kernel
theorem dL_drafts_27 : decode cL_drafts 27 = .ok (.iload_n 3, 1) := by decide +kernel
theorem dL_drafts_28 : decode cL_drafts 28 = .ok (.bipush 6, 2) := by decide +kernel
theorem dL_drafts_30 : decode cL_drafts 30 = .ok (.irem, 1) := by decide +kernel
theorem dL_drafts_31 : decode cL_drafts 31 = .ok (.iload 4, 2) := by decide +kernel
theorem dL_drafts_33 : decode cL_drafts 33 = .ok (.bipush 20, 2) := by decide +kernel
theorem dL_drafts_35 : decode cL_drafts 35 = .ok (.irem, 1) := by decide +kernel
theorem dL_drafts_36 : decode cL_drafts 36 = .ok (.invokestatic 96, 3) := by decide +kernel
theorem dL_drafts_39 : decode cL_drafts 39 = .ok (.istore 12, 2) := by decide +kernel
theorem dL_drafts_41 : decode cL_drafts 41 = .ok (.iload 10, 2) := by decide +kernel
theorem dL_drafts_43 : decode cL_drafts 43 = .ok (.ifCond .le 26, 3) := by decide +kernel
theorem dL_drafts_46 : decode cL_drafts 46 = .ok (.iload 12, 2) := by decide +kernel
theorem dL_drafts_48 : decode cL_drafts 48 = .ok (.bipush (-8), 2) := by decide +kernel
theorem dL_drafts_50 : decode cL_drafts 50 = .ok (.if_icmp .ne 17, 3) := by decide +kernel
theorem dL_drafts_53 : decode cL_drafts 53 = .ok (.aload_n 0, 1) := by decide +kernel
theorem dL_drafts_54 : decode cL_drafts 54 = .ok (.iload_n 2, 1) := by decide +kernel
theorem dL_drafts_55 : decode cL_drafts 55 = .ok (.invokevirtual 68, 3) := by decide +kernel
theorem dL_drafts_58 : decode cL_drafts 58 = .ok (.iload 10, 2) := by decide +kernel
theorem dL_drafts_60 : decode cL_drafts 60 = .ok (.if_icmp .ne 7, 3) := by decide +kernel
theorem dL_drafts_63 : decode cL_drafts 63 = .ok (.iconst 1, 1) := by decide +kernel
theorem dL_drafts_64 : decode cL_drafts 64 = .ok (.goto 4, 3) := by decide +kernel
theorem dL_drafts_67 : decode cL_drafts 67 = .ok (.iconst 0, 1) := by decide +kernel
theorem dL_drafts_68 : decode cL_drafts 68 = .ok (.ireturn, 1) := by decide +kernel
theorem dL_drafts_69 : decode cL_drafts 69 = .ok (.aload 5, 2) := by decide +kernel
theorem dL_drafts_71 : decode cL_drafts 71 = .ok (.iload 9, 2) := by decide +kernel
theorem dL_drafts_73 : decode cL_drafts 73 = .ok (.iconst 1, 1) := by decide +kernel
theorem dL_drafts_74 : decode cL_drafts 74 = .ok (.iastore, 1) := by decide +kernel
theorem dL_drafts_75 : decode cL_drafts 75 = .ok (.aload 5, 2) := by decide +kernel
theorem dL_drafts_77 : decode cL_drafts 77 = .ok (.iload 9, 2) := by decide +kernel
theorem dL_drafts_79 : decode cL_drafts 79 = .ok (.iconst 1, 1) := by decide +kernel
theorem dL_drafts_80 : decode cL_drafts 80 = .ok (.iadd, 1) := by decide +kernel
theorem dL_drafts_81 : decode cL_drafts 81 = .ok (.iload_n 3, 1) := by decide +kernel
theorem dL_drafts_82 : decode cL_drafts 82 = .ok (.bipush 6, 2) := by decide +kernel
theorem dL_drafts_84 : decode cL_drafts 84 = .ok (.irem, 1) := by decide +kernel
theorem dL_drafts_85 : decode cL_drafts 85 = .ok (.iastore, 1) := by decide +kernel
theorem dL_drafts_86 : decode cL_drafts 86 = .ok (.aload 5, 2) := by decide +kernel
theorem dL_drafts_88 : decode cL_drafts 88 = .ok (.iload 9, 2) := by decide +kernel
theorem dL_drafts_90 : decode cL_drafts 90 = .ok (.iconst 2, 1) := by decide +kernel
theorem dL_drafts_91 : decode cL_drafts 91 = .ok (.iadd, 1) := by decide +kernel
theorem dL_drafts_92 : decode cL_drafts 92 = .ok (.iload 4, 2) := by decide +kernel
theorem dL_drafts_94 : decode cL_drafts 94 = .ok (.bipush 20, 2) := by decide +kernel
theorem dL_drafts_96 : decode cL_drafts 96 = .ok (.irem, 1) := by decide +kernel
theorem dL_drafts_97 : decode cL_drafts 97 = .ok (.iastore, 1) := by decide +kernel
theorem dL_drafts_98 : decode cL_drafts 98 = .ok (.aload 5, 2) := by decide +kernel
theorem dL_drafts_100 : decode cL_drafts 100 = .ok (.iload 9, 2) := by decide +kernel
theorem dL_drafts_102 : decode cL_drafts 102 = .ok (.iconst 3, 1) := by decide +kernel
theorem dL_drafts_103 : decode cL_drafts 103 = .ok (.iadd, 1) := by decide +kernel
theorem dL_drafts_104 : decode cL_drafts 104 = .ok (.iconst 1, 1) := by decide +kernel
theorem dL_drafts_105 : decode cL_drafts 105 = .ok (.iastore, 1) := by decide +kernel
theorem dL_drafts_106 : decode cL_drafts 106 = .ok (.aload 5, 2) := by decide +kernel
theorem dL_drafts_108 : decode cL_drafts 108 = .ok (.iload 9, 2) := by decide +kernel
theorem dL_drafts_110 : decode cL_drafts 110 = .ok (.iconst 4, 1) := by decide +kernel
theorem dL_drafts_111 : decode cL_drafts 111 = .ok (.iadd, 1) := by decide +kernel
theorem dL_drafts_112 : decode cL_drafts 112 = .ok (.iconst 0, 1) := by decide +kernel
theorem dL_drafts_113 : decode cL_drafts 113 = .ok (.iastore, 1) := by decide +kernel
theorem dL_drafts_114 : decode cL_drafts 114 = .ok (.aload 8, 2) := by decide +kernel
theorem dL_drafts_116 : decode cL_drafts 116 = .ok (.iconst 2, 1) := by decide +kernel
theorem dL_drafts_117 : decode cL_drafts 117 = .ok (.iload_n 2, 1) := by decide +kernel
theorem dL_drafts_118 : decode cL_drafts 118 = .ok (.imul, 1) := by decide +kernel
theorem dL_drafts_119 : decode cL_drafts 119 = .ok (.iconst 0, 1) := by decide +kernel
theorem dL_drafts_120 : decode cL_drafts 120 = .ok (.iastore, 1) := by decide +kernel
theorem dL_drafts_121 : decode cL_drafts 121 = .ok (.aload 8, 2) := by decide +kernel
theorem dL_drafts_123 : decode cL_drafts 123 = .ok (.iconst 2, 1) := by decide +kernel
theorem dL_drafts_124 : decode cL_drafts 124 = .ok (.iload_n 2, 1) := by decide +kernel
theorem dL_drafts_125 : decode cL_drafts 125 = .ok (.imul, 1) := by decide +kernel
theorem dL_drafts_126 : decode cL_drafts 126 = .ok (.iconst 1, 1) := by decide +kernel
theorem dL_drafts_127 : decode cL_drafts 127 = .ok (.iadd, 1) := by decide +kernel
theorem dL_drafts_128 : decode cL_drafts 128 = .ok (.iconst 0, 1) := by decide +kernel
theorem dL_drafts_129 : decode cL_drafts 129 = .ok (.iastore, 1) := by decide +kernel
theorem dL_drafts_130 : decode cL_drafts 130 = .ok (.iload 12, 2) := by decide +kernel
theorem dL_drafts_132 : decode cL_drafts 132 = .ok (.ifCond .ne 25, 3) := by decide +kernel
theorem dL_drafts_135 : decode cL_drafts 135 = .ok (.aload_n 0, 1) := by decide +kernel
theorem dL_drafts_136 : decode cL_drafts 136 = .ok (.iload_n 2, 1) := by decide +kernel
theorem dL_drafts_137 : decode cL_drafts 137 = .ok (.invokevirtual 68, 3) := by decide +kernel
theorem dL_drafts_140 : decode cL_drafts 140 = .ok (.iconst 1, 1) := by decide +kernel
theorem dL_drafts_141 : decode cL_drafts 141 = .ok (.if_icmp .ne 16, 3) := by decide +kernel
theorem dL_drafts_144 : decode cL_drafts 144 = .ok (.aload_n 0, 1) := by decide +kernel
theorem dL_drafts_145 : decode cL_drafts 145 = .ok (.iload_n 2, 1) := by decide +kernel
theorem dL_drafts_146 : decode cL_drafts 146 = .ok (.invokevirtual 71, 3) := by decide +kernel
theorem dL_drafts_149 : decode cL_drafts 149 = .ok (.iconst (-1), 1) := by decide +kernel
theorem dL_drafts_150 : decode cL_drafts 150 = .ok (.if_icmp .ne 7, 3) := by decide +kernel
theorem dL_drafts_153 : decode cL_drafts 153 = .ok (.iconst 1, 1) := by decide +kernel
theorem dL_drafts_154 : decode cL_drafts 154 = .ok (.goto 4, 3) := by decide +kernel
theorem dL_drafts_157 : decode cL_drafts 157 = .ok (.iconst 0, 1) := by decide +kernel
theorem dL_drafts_158 : decode cL_drafts 158 = .ok (.ireturn, 1) := by decide +kernel
theorem dL_drafts_159 : decode cL_drafts 159 = .ok (.iload_n 1, 1) := by decide +kernel
theorem dL_drafts_160 : decode cL_drafts 160 = .ok (.iconst 1, 1) := by decide +kernel
theorem dL_drafts_161 : decode cL_drafts 161 = .ok (.if_icmp .ne 118, 3) := by decide +kernel
theorem dL_drafts_164 : decode cL_drafts 164 = .ok (.aload_n 0, 1) := by decide +kernel
theorem dL_drafts_165 : decode cL_drafts 165 = .ok (.iconst 1, 1) := by decide +kernel
theorem dL_drafts_166 : decode cL_drafts 166 = .ok (.iload_n 2, 1) := by decide +kernel
theorem dL_drafts_167 : decode cL_drafts 167 = .ok (.iload 4, 2) := by decide +kernel
theorem dL_drafts_169 : decode cL_drafts 169 = .ok (.bipush 20, 2) := by decide +kernel
theorem dL_drafts_171 : decode cL_drafts 171 = .ok (.irem, 1) := by decide +kernel
theorem dL_drafts_172 : decode cL_drafts 172 = .ok (.iconst 0, 1) := by decide +kernel
theorem dL_drafts_173 : decode cL_drafts 173 = .ok (.invokestatic 96, 3) := by decide +kernel
theorem dL_drafts_176 : decode cL_drafts 176 = .ok (.istore 12, 2) := by decide +kernel
theorem dL_drafts_178 : decode cL_drafts 178 = .ok (.iload 10, 2) := by decide +kernel
theorem dL_drafts_180 : decode cL_drafts 180 = .ok (.ifCond .eq 18, 3) := by decide +kernel
theorem dL_drafts_183 : decode cL_drafts 183 = .ok (.aload 5, 2) := by decide +kernel
theorem dL_drafts_185 : decode cL_drafts 185 = .ok (.iload 9, 2) := by decide +kernel
theorem dL_drafts_187 : decode cL_drafts 187 = .ok (.iconst 2, 1) := by decide +kernel
theorem dL_drafts_188 : decode cL_drafts 188 = .ok (.iadd, 1) := by decide +kernel
theorem dL_drafts_189 : decode cL_drafts 189 = .ok (.iaload, 1) := by decide +kernel
theorem dL_drafts_190 : decode cL_drafts 190 = .ok (.iload 4, 2) := by decide +kernel
theorem dL_drafts_192 : decode cL_drafts 192 = .ok (.bipush 20, 2) := by decide +kernel
theorem dL_drafts_194 : decode cL_drafts 194 = .ok (.irem, 1) := by decide +kernel
theorem dL_drafts_195 : decode cL_drafts 195 = .ok (.if_icmp .ne 26, 3) := by decide +kernel
theorem dL_drafts_198 : decode cL_drafts 198 = .ok (.iload 12, 2) := by decide +kernel
theorem dL_drafts_200 : decode cL_drafts 200 = .ok (.bipush (-8), 2) := by decide +kernel
theorem dL_drafts_202 : decode cL_drafts 202 = .ok (.if_icmp .ne 17, 3) := by decide +kernel
theorem dL_drafts_205 : decode cL_drafts 205 = .ok (.aload_n 0, 1) := by decide +kernel
theorem dL_drafts_206 : decode cL_drafts 206 = .ok (.iload_n 2, 1) := by decide +kernel
theorem dL_drafts_207 : decode cL_drafts 207 = .ok (.invokevirtual 68, 3) := by decide +kernel
theorem dL_drafts_210 : decode cL_drafts 210 = .ok (.iload 10, 2) := by decide +kernel
theorem dL_drafts_212 : decode cL_drafts 212 = .ok (.if_icmp .ne 7, 3) := by decide +kernel
theorem dL_drafts_215 : decode cL_drafts 215 = .ok (.iconst 1, 1) := by decide +kernel
theorem dL_drafts_216 : decode cL_drafts 216 = .ok (.goto 4, 3) := by decide +kernel
theorem dL_drafts_219 : decode cL_drafts 219 = .ok (.iconst 0, 1) := by decide +kernel
theorem dL_drafts_220 : decode cL_drafts 220 = .ok (.ireturn, 1) := by decide +kernel
theorem dL_drafts_221 : decode cL_drafts 221 = .ok (.aload 5, 2) := by decide +kernel
theorem dL_drafts_223 : decode cL_drafts 223 = .ok (.iload 9, 2) := by decide +kernel
theorem dL_drafts_225 : decode cL_drafts 225 = .ok (.iconst 2, 1) := by decide +kernel
theorem dL_drafts_226 : decode cL_drafts 226 = .ok (.iadd, 1) := by decide +kernel
theorem dL_drafts_227 : decode cL_drafts 227 = .ok (.iload 4, 2) := by decide +kernel
theorem dL_drafts_229 : decode cL_drafts 229 = .ok (.bipush 20, 2) := by decide +kernel
theorem dL_drafts_231 : decode cL_drafts 231 = .ok (.irem, 1) := by decide +kernel
theorem dL_drafts_232 : decode cL_drafts 232 = .ok (.iastore, 1) := by decide +kernel
theorem dL_drafts_233 : decode cL_drafts 233 = .ok (.aload 5, 2) := by decide +kernel
theorem dL_drafts_235 : decode cL_drafts 235 = .ok (.iload 9, 2) := by decide +kernel
theorem dL_drafts_237 : decode cL_drafts 237 = .ok (.iconst 3, 1) := by decide +kernel
theorem dL_drafts_238 : decode cL_drafts 238 = .ok (.iadd, 1) := by decide +kernel
theorem dL_drafts_239 : decode cL_drafts 239 = .ok (.dup2, 1) := by decide +kernel
theorem dL_drafts_240 : decode cL_drafts 240 = .ok (.iaload, 1) := by decide +kernel
theorem dL_drafts_241 : decode cL_drafts 241 = .ok (.iconst 1, 1) := by decide +kernel
theorem dL_drafts_242 : decode cL_drafts 242 = .ok (.iadd, 1) := by decide +kernel
theorem dL_drafts_243 : decode cL_drafts 243 = .ok (.iastore, 1) := by decide +kernel
theorem dL_drafts_244 : decode cL_drafts 244 = .ok (.aload 5, 2) := by decide +kernel
theorem dL_drafts_246 : decode cL_drafts 246 = .ok (.iload 9, 2) := by decide +kernel
theorem dL_drafts_248 : decode cL_drafts 248 = .ok (.iconst 4, 1) := by decide +kernel
theorem dL_drafts_249 : decode cL_drafts 249 = .ok (.iadd, 1) := by decide +kernel
theorem dL_drafts_250 : decode cL_drafts 250 = .ok (.iconst 0, 1) := by decide +kernel
theorem dL_drafts_251 : decode cL_drafts 251 = .ok (.iastore, 1) := by decide +kernel
theorem dL_drafts_252 : decode cL_drafts 252 = .ok (.iload 12, 2) := by decide +kernel
theorem dL_drafts_254 : decode cL_drafts 254 = .ok (.aload 5, 2) := by decide +kernel
theorem dL_drafts_256 : decode cL_drafts 256 = .ok (.iload 9, 2) := by decide +kernel
theorem dL_drafts_258 : decode cL_drafts 258 = .ok (.iconst 3, 1) := by decide +kernel
theorem dL_drafts_259 : decode cL_drafts 259 = .ok (.iadd, 1) := by decide +kernel
theorem dL_drafts_260 : decode cL_drafts 260 = .ok (.iaload, 1) := by decide +kernel
theorem dL_drafts_261 : decode cL_drafts 261 = .ok (.if_icmp .ne 16, 3) := by decide +kernel
theorem dL_drafts_264 : decode cL_drafts 264 = .ok (.aload_n 0, 1) := by decide +kernel
theorem dL_drafts_265 : decode cL_drafts 265 = .ok (.iload_n 2, 1) := by decide +kernel
theorem dL_drafts_266 : decode cL_drafts 266 = .ok (.invokevirtual 68, 3) := by decide +kernel
theorem dL_drafts_269 : decode cL_drafts 269 = .ok (.iconst 1, 1) := by decide +kernel
theorem dL_drafts_270 : decode cL_drafts 270 = .ok (.if_icmp .ne 7, 3) := by decide +kernel
theorem dL_drafts_273 : decode cL_drafts 273 = .ok (.iconst 1, 1) := by decide +kernel
theorem dL_drafts_274 : decode cL_drafts 274 = .ok (.goto 4, 3) := by decide +kernel
theorem dL_drafts_277 : decode cL_drafts 277 = .ok (.iconst 0, 1) := by decide +kernel
theorem dL_drafts_278 : decode cL_drafts 278 = .ok (.ireturn, 1) := by decide +kernel
theorem dL_drafts_279 : decode cL_drafts 279 = .ok (.iload_n 1, 1) := by decide +kernel
theorem dL_drafts_280 : decode cL_drafts 280 = .ok (.iconst 2, 1) := by decide +kernel
theorem dL_drafts_281 : decode cL_drafts 281 = .ok (.if_icmp .ne 55, 3) := by decide +kernel
theorem dL_drafts_284 : decode cL_drafts 284 = .ok (.aload_n 0, 1) := by decide +kernel
theorem dL_drafts_285 : decode cL_drafts 285 = .ok (.iconst 2, 1) := by decide +kernel
theorem dL_drafts_286 : decode cL_drafts 286 = .ok (.iload_n 2, 1) := by decide +kernel
theorem dL_drafts_287 : decode cL_drafts 287 = .ok (.iconst 0, 1) := by decide +kernel
theorem dL_drafts_288 : decode cL_drafts 288 = .ok (.iconst 0, 1) := by decide +kernel
theorem dL_drafts_289 : decode cL_drafts 289 = .ok (.invokestatic 96, 3) := by decide +kernel
theorem dL_drafts_292 : decode cL_drafts 292 = .ok (.istore 12, 2) := by decide +kernel
theorem dL_drafts_294 : decode cL_drafts 294 = .ok (.aload 5, 2) := by decide +kernel
theorem dL_drafts_296 : decode cL_drafts 296 = .ok (.iload 9, 2) := by decide +kernel
theorem dL_drafts_298 : decode cL_drafts 298 = .ok (.iconst 0, 1) := by decide +kernel
theorem dL_drafts_299 : decode cL_drafts 299 = .ok (.iastore, 1) := by decide +kernel
theorem dL_drafts_300 : decode cL_drafts 300 = .ok (.iload 12, 2) := by decide +kernel
theorem dL_drafts_302 : decode cL_drafts 302 = .ok (.iload 10, 2) := by decide +kernel
theorem dL_drafts_304 : decode cL_drafts 304 = .ok (.ifCond .ne 8, 3) := by decide +kernel
theorem dL_drafts_307 : decode cL_drafts 307 = .ok (.bipush (-8), 2) := by decide +kernel
theorem dL_drafts_309 : decode cL_drafts 309 = .ok (.goto 10, 3) := by decide +kernel
theorem dL_drafts_312 : decode cL_drafts 312 = .ok (.aload 5, 2) := by decide +kernel
theorem dL_drafts_314 : decode cL_drafts 314 = .ok (.iload 9, 2) := by decide +kernel
theorem dL_drafts_316 : decode cL_drafts 316 = .ok (.iconst 2, 1) := by decide +kernel
theorem dL_drafts_317 : decode cL_drafts 317 = .ok (.iadd, 1) := by decide +kernel
theorem dL_drafts_318 : decode cL_drafts 318 = .ok (.iaload, 1) := by decide +kernel
theorem dL_drafts_319 : decode cL_drafts 319 = .ok (.if_icmp .ne 15, 3) := by decide +kernel
theorem dL_drafts_322 : decode cL_drafts 322 = .ok (.aload_n 0, 1) := by decide +kernel
theorem dL_drafts_323 : decode cL_drafts 323 = .ok (.iload_n 2, 1) := by decide +kernel
theorem dL_drafts_324 : decode cL_drafts 324 = .ok (.invokevirtual 68, 3) := by decide +kernel
theorem dL_drafts_327 : decode cL_drafts 327 = .ok (.ifCond .ne 7, 3) := by decide +kernel
theorem dL_drafts_330 : decode cL_drafts 330 = .ok (.iconst 1, 1) := by decide +kernel
theorem dL_drafts_331 : decode cL_drafts 331 = .ok (.goto 4, 3) := by decide +kernel
theorem dL_drafts_334 : decode cL_drafts 334 = .ok (.iconst 0, 1) := by decide +kernel
theorem dL_drafts_335 : decode cL_drafts 335 = .ok (.ireturn, 1) := by decide +kernel
theorem dL_drafts_336 : decode cL_drafts 336 = .ok (.iload_n 3, 1) := by decide +kernel
theorem dL_drafts_337 : decode cL_drafts 337 = .ok (.bipush 6, 2) := by decide +kernel
theorem dL_drafts_339 : decode cL_drafts 339 = .ok (.irem, 1) := by decide +kernel
theorem dL_drafts_340 : decode cL_drafts 340 = .ok (.istore 12, 2) := by decide +kernel
theorem dL_drafts_342 : decode cL_drafts 342 = .ok (.iload_n 1, 1) := by decide +kernel
theorem dL_drafts_343 : decode cL_drafts 343 = .ok (.iconst 3, 1) := by decide +kernel
theorem dL_drafts_344 : decode cL_drafts 344 = .ok (.if_icmp .ne 154, 3) := by decide +kernel
theorem dL_drafts_347 : decode cL_drafts 347 = .ok (.iload 10, 2) := by decide +kernel
theorem dL_drafts_349 : decode cL_drafts 349 = .ok (.ifCond .le 68, 3) := by decide +kernel
theorem dL_drafts_352 : decode cL_drafts 352 = .ok (.aload 5, 2) := by decide +kernel
theorem dL_drafts_354 : decode cL_drafts 354 = .ok (.iload 9, 2) := by decide +kernel
theorem dL_drafts_356 : decode cL_drafts 356 = .ok (.iconst 4, 1) := by decide +kernel
theorem dL_drafts_357 : decode cL_drafts 357 = .ok (.iadd, 1) := by decide +kernel
theorem dL_drafts_358 : decode cL_drafts 358 = .ok (.iaload, 1) := by decide +kernel
theorem dL_drafts_359 : decode cL_drafts 359 = .ok (.ifCond .ne 58, 3) := by decide +kernel
theorem dL_drafts_362 : decode cL_drafts 362 = .ok (.iload 12, 2) := by decide +kernel
theorem dL_drafts_364 : decode cL_drafts 364 = .ok (.aload 5, 2) := by decide +kernel
theorem dL_drafts_366 : decode cL_drafts 366 = .ok (.iload 9, 2) := by decide +kernel
theorem dL_drafts_368 : decode cL_drafts 368 = .ok (.iconst 1, 1) := by decide +kernel
theorem dL_drafts_369 : decode cL_drafts 369 = .ok (.iadd, 1) := by decide +kernel
theorem dL_drafts_370 : decode cL_drafts 370 = .ok (.iaload, 1) := by decide +kernel
theorem dL_drafts_371 : decode cL_drafts 371 = .ok (.if_icmp .eq 46, 3) := by decide +kernel
theorem dL_drafts_374 : decode cL_drafts 374 = .ok (.aload 6, 2) := by decide +kernel
theorem dL_drafts_376 : decode cL_drafts 376 = .ok (.iconst 0, 1) := by decide +kernel
theorem dL_drafts_377 : decode cL_drafts 377 = .ok (.iaload, 1) := by decide +kernel
theorem dL_drafts_378 : decode cL_drafts 378 = .ok (.iload 12, 2) := by decide +kernel
theorem dL_drafts_380 : decode cL_drafts 380 = .ok (.invokestatic 92, 3) := by decide +kernel
theorem dL_drafts_383 : decode cL_drafts 383 = .ok (.ifCond .eq 34, 3) := by decide +kernel
theorem dL_drafts_386 : decode cL_drafts 386 = .ok (.aload 8, 2) := by decide +kernel
theorem dL_drafts_388 : decode cL_drafts 388 = .ok (.iconst 2, 1) := by decide +kernel
theorem dL_drafts_389 : decode cL_drafts 389 = .ok (.iload_n 2, 1) := by decide +kernel
theorem dL_drafts_390 : decode cL_drafts 390 = .ok (.imul, 1) := by decide +kernel
theorem dL_drafts_391 : decode cL_drafts 391 = .ok (.iaload, 1) := by decide +kernel
theorem dL_drafts_392 : decode cL_drafts 392 = .ok (.iload 12, 2) := by decide +kernel
theorem dL_drafts_394 : decode cL_drafts 394 = .ok (.invokestatic 92, 3) := by decide +kernel
theorem dL_drafts_397 : decode cL_drafts 397 = .ok (.ifCond .ne 20, 3) := by decide +kernel
theorem dL_drafts_400 : decode cL_drafts 400 = .ok (.aload 8, 2) := by decide +kernel
theorem dL_drafts_402 : decode cL_drafts 402 = .ok (.iconst 2, 1) := by decide +kernel
theorem dL_drafts_403 : decode cL_drafts 403 = .ok (.iload_n 2, 1) := by decide +kernel
theorem dL_drafts_404 : decode cL_drafts 404 = .ok (.imul, 1) := by decide +kernel
theorem dL_drafts_405 : decode cL_drafts 405 = .ok (.iaload, 1) := by decide +kernel
theorem dL_drafts_406 : decode cL_drafts 406 = .ok (.invokestatic 100, 3) := by decide +kernel
theorem dL_drafts_409 : decode cL_drafts 409 = .ok (.iconst 4, 1) := by decide +kernel
theorem dL_drafts_410 : decode cL_drafts 410 = .ok (.if_icmp .ge 7, 3) := by decide +kernel
theorem dL_drafts_413 : decode cL_drafts 413 = .ok (.iconst 1, 1) := by decide +kernel
theorem dL_drafts_414 : decode cL_drafts 414 = .ok (.goto 4, 3) := by decide +kernel
theorem dL_drafts_417 : decode cL_drafts 417 = .ok (.iconst 0, 1) := by decide +kernel
theorem dL_drafts_418 : decode cL_drafts 418 = .ok (.istore 13, 2) := by decide +kernel
theorem dL_drafts_420 : decode cL_drafts 420 = .ok (.aload 8, 2) := by decide +kernel
theorem dL_drafts_422 : decode cL_drafts 422 = .ok (.iconst 2, 1) := by decide +kernel
theorem dL_drafts_423 : decode cL_drafts 423 = .ok (.iload_n 2, 1) := by decide +kernel
theorem dL_drafts_424 : decode cL_drafts 424 = .ok (.imul, 1) := by decide +kernel
theorem dL_drafts_425 : decode cL_drafts 425 = .ok (.dup2, 1) := by decide +kernel
theorem dL_drafts_426 : decode cL_drafts 426 = .ok (.iaload, 1) := by decide +kernel
theorem dL_drafts_427 : decode cL_drafts 427 = .ok (.iload 13, 2) := by decide +kernel
theorem dL_drafts_429 : decode cL_drafts 429 = .ok (.ifCond .eq 10, 3) := by decide +kernel
theorem dL_drafts_432 : decode cL_drafts 432 = .ok (.iconst 1, 1) := by decide +kernel
theorem dL_drafts_433 : decode cL_drafts 433 = .ok (.iload 12, 2) := by decide +kernel
theorem dL_drafts_435 : decode cL_drafts 435 = .ok (.ishl, 1) := by decide +kernel
theorem dL_drafts_436 : decode cL_drafts 436 = .ok (.goto 4, 3) := by decide +kernel
theorem dL_drafts_439 : decode cL_drafts 439 = .ok (.iconst 0, 1) := by decide +kernel
theorem dL_drafts_440 : decode cL_drafts 440 = .ok (.ior, 1) := by decide +kernel
theorem dL_drafts_441 : decode cL_drafts 441 = .ok (.iastore, 1) := by decide +kernel
theorem dL_drafts_442 : decode cL_drafts 442 = .ok (.aload_n 0, 1) := by decide +kernel
theorem dL_drafts_443 : decode cL_drafts 443 = .ok (.iconst 3, 1) := by decide +kernel
theorem dL_drafts_444 : decode cL_drafts 444 = .ok (.iload_n 2, 1) := by decide +kernel
theorem dL_drafts_445 : decode cL_drafts 445 = .ok (.iload 12, 2) := by decide +kernel
theorem dL_drafts_447 : decode cL_drafts 447 = .ok (.iconst 0, 1) := by decide +kernel
theorem dL_drafts_448 : decode cL_drafts 448 = .ok (.invokestatic 96, 3) := by decide +kernel
theorem dL_drafts_451 : decode cL_drafts 451 = .ok (.iload 13, 2) := by decide +kernel
theorem dL_drafts_453 : decode cL_drafts 453 = .ok (.ifCond .eq 15, 3) := by decide +kernel
theorem dL_drafts_456 : decode cL_drafts 456 = .ok (.aload 8, 2) := by decide +kernel
theorem dL_drafts_458 : decode cL_drafts 458 = .ok (.iconst 2, 1) := by decide +kernel
theorem dL_drafts_459 : decode cL_drafts 459 = .ok (.iload_n 2, 1) := by decide +kernel
theorem dL_drafts_460 : decode cL_drafts 460 = .ok (.imul, 1) := by decide +kernel
theorem dL_drafts_461 : decode cL_drafts 461 = .ok (.iaload, 1) := by decide +kernel
theorem dL_drafts_462 : decode cL_drafts 462 = .ok (.invokestatic 100, 3) := by decide +kernel
theorem dL_drafts_465 : decode cL_drafts 465 = .ok (.goto 5, 3) := by decide +kernel
theorem dL_drafts_468 : decode cL_drafts 468 = .ok (.bipush (-8), 2) := by decide +kernel
theorem dL_drafts_470 : decode cL_drafts 470 = .ok (.if_icmp .ne 26, 3) := by decide +kernel
theorem dL_drafts_473 : decode cL_drafts 473 = .ok (.aload_n 0, 1) := by decide +kernel
theorem dL_drafts_474 : decode cL_drafts 474 = .ok (.iload_n 2, 1) := by decide +kernel
theorem dL_drafts_475 : decode cL_drafts 475 = .ok (.invokevirtual 68, 3) := by decide +kernel
theorem dL_drafts_478 : decode cL_drafts 478 = .ok (.iload 13, 2) := by decide +kernel
theorem dL_drafts_480 : decode cL_drafts 480 = .ok (.ifCond .eq 7, 3) := by decide +kernel
theorem dL_drafts_483 : decode cL_drafts 483 = .ok (.iconst 1, 1) := by decide +kernel
theorem dL_drafts_484 : decode cL_drafts 484 = .ok (.goto 5, 3) := by decide +kernel
theorem dL_drafts_487 : decode cL_drafts 487 = .ok (.iload 10, 2) := by decide +kernel
theorem dL_drafts_489 : decode cL_drafts 489 = .ok (.if_icmp .ne 7, 3) := by decide +kernel
theorem dL_drafts_492 : decode cL_drafts 492 = .ok (.iconst 1, 1) := by decide +kernel
theorem dL_drafts_493 : decode cL_drafts 493 = .ok (.goto 4, 3) := by decide +kernel
theorem dL_drafts_496 : decode cL_drafts 496 = .ok (.iconst 0, 1) := by decide +kernel
theorem dL_drafts_497 : decode cL_drafts 497 = .ok (.ireturn, 1) := by decide +kernel
theorem dL_drafts_498 : decode cL_drafts 498 = .ok (.iload 10, 2) := by decide +kernel
theorem dL_drafts_500 : decode cL_drafts 500 = .ok (.ifCond .le 23, 3) := by decide +kernel
theorem dL_drafts_503 : decode cL_drafts 503 = .ok (.aload 8, 2) := by decide +kernel
theorem dL_drafts_505 : decode cL_drafts 505 = .ok (.iconst 2, 1) := by decide +kernel
theorem dL_drafts_506 : decode cL_drafts 506 = .ok (.iload_n 2, 1) := by decide +kernel
theorem dL_drafts_507 : decode cL_drafts 507 = .ok (.imul, 1) := by decide +kernel
theorem dL_drafts_508 : decode cL_drafts 508 = .ok (.iconst 1, 1) := by decide +kernel
theorem dL_drafts_509 : decode cL_drafts 509 = .ok (.iadd, 1) := by decide +kernel
theorem dL_drafts_510 : decode cL_drafts 510 = .ok (.iaload, 1) := by decide +kernel
theorem dL_drafts_511 : decode cL_drafts 511 = .ok (.iload 12, 2) := by decide +kernel
theorem dL_drafts_513 : decode cL_drafts 513 = .ok (.invokestatic 92, 3) := by decide +kernel
theorem dL_drafts_516 : decode cL_drafts 516 = .ok (.ifCond .ne 7, 3) := by decide +kernel
theorem dL_drafts_519 : decode cL_drafts 519 = .ok (.iconst 1, 1) := by decide +kernel
theorem dL_drafts_520 : decode cL_drafts 520 = .ok (.goto 4, 3) := by decide +kernel
theorem dL_drafts_523 : decode cL_drafts 523 = .ok (.iconst 0, 1) := by decide +kernel
theorem dL_drafts_524 : decode cL_drafts 524 = .ok (.istore 13, 2) := by decide +kernel
theorem dL_drafts_526 : decode cL_drafts 526 = .ok (.aload 8, 2) := by decide +kernel
theorem dL_drafts_528 : decode cL_drafts 528 = .ok (.iconst 2, 1) := by decide +kernel
theorem dL_drafts_529 : decode cL_drafts 529 = .ok (.iload_n 2, 1) := by decide +kernel
theorem dL_drafts_530 : decode cL_drafts 530 = .ok (.imul, 1) := by decide +kernel
theorem dL_drafts_531 : decode cL_drafts 531 = .ok (.iconst 1, 1) := by decide +kernel
theorem dL_drafts_532 : decode cL_drafts 532 = .ok (.iadd, 1) := by decide +kernel
theorem dL_drafts_533 : decode cL_drafts 533 = .ok (.dup2, 1) := by decide +kernel
theorem dL_drafts_534 : decode cL_drafts 534 = .ok (.iaload, 1) := by decide +kernel
theorem dL_drafts_535 : decode cL_drafts 535 = .ok (.iload 13, 2) := by decide +kernel
theorem dL_drafts_537 : decode cL_drafts 537 = .ok (.ifCond .eq 10, 3) := by decide +kernel
theorem dL_drafts_540 : decode cL_drafts 540 = .ok (.iconst 1, 1) := by decide +kernel
theorem dL_drafts_541 : decode cL_drafts 541 = .ok (.iload 12, 2) := by decide +kernel
theorem dL_drafts_543 : decode cL_drafts 543 = .ok (.ishl, 1) := by decide +kernel
theorem dL_drafts_544 : decode cL_drafts 544 = .ok (.goto 4, 3) := by decide +kernel
theorem dL_drafts_547 : decode cL_drafts 547 = .ok (.iconst 0, 1) := by decide +kernel
theorem dL_drafts_548 : decode cL_drafts 548 = .ok (.ior, 1) := by decide +kernel
theorem dL_drafts_549 : decode cL_drafts 549 = .ok (.iastore, 1) := by decide +kernel
theorem dL_drafts_550 : decode cL_drafts 550 = .ok (.aload_n 0, 1) := by decide +kernel
theorem dL_drafts_551 : decode cL_drafts 551 = .ok (.iconst 4, 1) := by decide +kernel
theorem dL_drafts_552 : decode cL_drafts 552 = .ok (.iload_n 2, 1) := by decide +kernel
theorem dL_drafts_553 : decode cL_drafts 553 = .ok (.iload 12, 2) := by decide +kernel
theorem dL_drafts_555 : decode cL_drafts 555 = .ok (.iconst 0, 1) := by decide +kernel
theorem dL_drafts_556 : decode cL_drafts 556 = .ok (.invokestatic 96, 3) := by decide +kernel
theorem dL_drafts_559 : decode cL_drafts 559 = .ok (.iload 13, 2) := by decide +kernel
theorem dL_drafts_561 : decode cL_drafts 561 = .ok (.ifCond .eq 17, 3) := by decide +kernel
theorem dL_drafts_564 : decode cL_drafts 564 = .ok (.aload 8, 2) := by decide +kernel
theorem dL_drafts_566 : decode cL_drafts 566 = .ok (.iconst 2, 1) := by decide +kernel
theorem dL_drafts_567 : decode cL_drafts 567 = .ok (.iload_n 2, 1) := by decide +kernel
theorem dL_drafts_568 : decode cL_drafts 568 = .ok (.imul, 1) := by decide +kernel
theorem dL_drafts_569 : decode cL_drafts 569 = .ok (.iconst 1, 1) := by decide +kernel
theorem dL_drafts_570 : decode cL_drafts 570 = .ok (.iadd, 1) := by decide +kernel
theorem dL_drafts_571 : decode cL_drafts 571 = .ok (.iaload, 1) := by decide +kernel
theorem dL_drafts_572 : decode cL_drafts 572 = .ok (.invokestatic 100, 3) := by decide +kernel
theorem dL_drafts_575 : decode cL_drafts 575 = .ok (.goto 5, 3) := by decide +kernel
theorem dL_drafts_578 : decode cL_drafts 578 = .ok (.bipush (-8), 2) := by decide +kernel
theorem dL_drafts_580 : decode cL_drafts 580 = .ok (.if_icmp .ne 48, 3) := by decide +kernel
theorem dL_drafts_583 : decode cL_drafts 583 = .ok (.aload_n 0, 1) := by decide +kernel
theorem dL_drafts_584 : decode cL_drafts 584 = .ok (.iload_n 2, 1) := by decide +kernel
theorem dL_drafts_585 : decode cL_drafts 585 = .ok (.invokevirtual 68, 3) := by decide +kernel
theorem dL_drafts_588 : decode cL_drafts 588 = .ok (.iload 13, 2) := by decide +kernel
theorem dL_drafts_590 : decode cL_drafts 590 = .ok (.ifCond .eq 13, 3) := by decide +kernel
theorem dL_drafts_593 : decode cL_drafts 593 = .ok (.iload 10, 2) := by decide +kernel
theorem dL_drafts_595 : decode cL_drafts 595 = .ok (.iconst 5, 1) := by decide +kernel
theorem dL_drafts_596 : decode cL_drafts 596 = .ok (.if_icmp .ne 7, 3) := by decide +kernel
theorem dL_drafts_599 : decode cL_drafts 599 = .ok (.iconst 4, 1) := by decide +kernel
theorem dL_drafts_600 : decode cL_drafts 600 = .ok (.goto 5, 3) := by decide +kernel
theorem dL_drafts_603 : decode cL_drafts 603 = .ok (.iload 10, 2) := by decide +kernel
theorem dL_drafts_605 : decode cL_drafts 605 = .ok (.if_icmp .ne 23, 3) := by decide +kernel
theorem dL_drafts_608 : decode cL_drafts 608 = .ok (.iload 10, 2) := by decide +kernel
theorem dL_drafts_610 : decode cL_drafts 610 = .ok (.iconst 1, 1) := by decide +kernel
theorem dL_drafts_611 : decode cL_drafts 611 = .ok (.if_icmp .ne 13, 3) := by decide +kernel
theorem dL_drafts_614 : decode cL_drafts 614 = .ok (.aload_n 0, 1) := by decide +kernel
theorem dL_drafts_615 : decode cL_drafts 615 = .ok (.iload_n 2, 1) := by decide +kernel
theorem dL_drafts_616 : decode cL_drafts 616 = .ok (.invokevirtual 71, 3) := by decide +kernel
theorem dL_drafts_619 : decode cL_drafts 619 = .ok (.iload 11, 2) := by decide +kernel
theorem dL_drafts_621 : decode cL_drafts 621 = .ok (.if_icmp .ne 7, 3) := by decide +kernel
theorem dL_drafts_624 : decode cL_drafts 624 = .ok (.iconst 1, 1) := by decide +kernel
theorem dL_drafts_625 : decode cL_drafts 625 = .ok (.goto 4, 3) := by decide +kernel
theorem dL_drafts_628 : decode cL_drafts 628 = .ok (.iconst 0, 1) := by decide +kernel
theorem dL_drafts_629 : decode cL_drafts 629 = .ok (.ireturn, 1) := by decide +kernel
set_option maxRecDepth 20000 in
theorem ggL_goesOn_X3_step : GoodIn wsL_goesOn wsX3_step := goodIn_ca (goodIn_r _ [5, 6, 7, 8, 9, 10, 4, 11, 12, 13, 14, 15, 16, 17, 18, 19, 20, 21, 22, 23, 24, 25, 26, 27, 28, 29, 30, 31, 32, 33, 34, 35, 36, 37, 38, 39, 207, 208, 209, 210, 211, 212, 213, 214, 215, 216, 217, 218, 219, 220, 221, 222, 223, 224, 225, 226, 227, 228, 229, 230, 231, 232, 233, 234, 235] (by decide +kernel) (by decide +kernel)) (goodIn_sub (fun _ h => List.mem_cons_of_mem _ (List.mem_append_left _ (List.mem_append_left _ (List.mem_append_right _ h)))) (by decide +kernel))
set_option maxRecDepth 20000 in
theorem gL_goesOn_X3_step : GoodIn wsL_goesOn (wsV RL 68 RX3 yX3_step wsX3_step) := goodIn_app (goodIn_of _ (by decide +kernel)) ggL_goesOn_X3_step
set_option maxRecDepth 20000 in
theorem ggL_goesOn_X3_waitsFor : GoodIn wsL_goesOn wsX3_waitsFor := goodIn_ca (goodIn_r _ [43, 6, 7, 8, 9, 10, 4, 11, 12, 13, 14, 44, 45, 46, 18, 47, 48, 49, 16, 17, 19, 20, 21, 22, 23, 24, 25, 26, 27, 28, 29, 30, 31, 32, 33, 34, 35, 36, 37, 38, 39, 207, 208, 209, 210, 211, 212, 213, 214, 215, 216, 217, 218, 219, 220, 221, 222, 223, 224, 225, 226, 227, 228, 229, 230, 231, 232, 233, 234, 235] (by decide +kernel) (by decide +kernel)) (goodIn_sub (fun _ h => List.mem_cons_of_mem _ (List.mem_append_left _ (List.mem_append_left _ (List.mem_append_right _ h)))) (by decide +kernel))
set_option maxRecDepth 20000 in
theorem gL_goesOn_X3_waitsFor : GoodIn wsL_goesOn (wsV RL 71 RX3 yX3_waitsFor wsX3_waitsFor) := goodIn_app (goodIn_of _ (by decide +kernel)) ggL_goesOn_X3_waitsFor
set_option maxRecDepth 20000 in
theorem ggL_goesOn_L_asks : GoodIn wsL_goesOn wsL_asks := goodIn_ca (goodIn_ca (goodIn_ca (goodIn_r _ [53, 54, 55, 56, 57, 58, 52, 59, 60, 61, 62, 4, 63, 64, 65, 6, 7, 8, 9, 10, 11, 12, 13, 14, 66, 67, 68, 69, 70, 71, 72, 73, 74, 75, 76, 18, 77, 48, 78, 79, 20, 38, 80, 81, 82, 83, 32, 21, 26, 39, 84, 85, 86, 87, 88, 89, 90, 91, 92, 93, 94, 95, 96, 97, 98, 99, 100, 101, 102, 103, 104, 105, 106, 107, 108, 109, 110, 27, 111, 112, 113, 114, 115, 116, 117, 118, 119, 120, 121, 122, 123, 124, 125, 23, 24, 25, 126, 127, 128, 129, 33, 130, 131, 132, 133, 134, 135, 136, 29, 30, 31, 137, 138, 139, 140, 141, 142, 143, 144, 145, 15, 16, 17, 19, 22, 28, 34, 35, 36, 37, 146, 147, 148, 149, 150, 151, 152, 153, 154, 155, 156, 157, 158, 159, 160, 161, 162, 163, 164, 165, 166, 167, 168, 169, 170, 171, 172, 173, 174, 175, 176, 177, 178, 179, 180, 181, 182, 183, 184, 185, 186, 187, 188, 189, 190, 191, 192, 193, 194, 195, 196, 197, 198, 199, 200, 207, 208, 209, 210, 211, 212, 213, 214, 215, 216, 217, 218, 219, 220, 221, 222, 223, 224, 225, 226, 227, 228, 229, 230, 231, 232, 233, 234, 235, 236, 237, 238, 239] (by decide +kernel) (by decide +kernel)) (goodIn_sub (fun _ h => List.mem_cons_of_mem _ (List.mem_append_left _ (List.mem_append_right _ h))) (by decide +kernel))) (goodIn_sub (fun _ h => List.mem_cons_of_mem _ (List.mem_append_left _ (List.mem_append_left _ (List.mem_append_right _ h)))) (by decide +kernel))) (goodIn_sub (fun _ h => List.mem_cons_of_mem _ (List.mem_append_right _ h)) (by decide +kernel))
set_option maxRecDepth 20000 in
theorem gL_goesOn_L_asks : GoodIn wsL_goesOn (va_wsS RL 96 yL_asks wsL_asks) := goodIn_app (goodIn_of _ (by decide +kernel)) ggL_goesOn_L_asks
set_option maxRecDepth 20000 in
theorem ggL_goesOn_L_mayApprove : GoodIn wsL_goesOn wsL_mayApprove := goodIn_r _ [203, 204, 205, 52, 206] (by decide +kernel) (by decide +kernel)
set_option maxRecDepth 20000 in
theorem gL_goesOn_L_mayApprove : GoodIn wsL_goesOn (va_wsS RL 103 yL_mayApprove wsL_mayApprove) := goodIn_app (goodIn_of _ (by decide +kernel)) ggL_goesOn_L_mayApprove
theorem dL_goesOn_0 : decode cL_goesOn 0 = .ok (.bipush 8, 2) := by decide +kernel
theorem dL_goesOn_2 : decode cL_goesOn 2 = .ok (.iload_n 1, 1) := by decide +kernel
theorem dL_goesOn_3 : decode cL_goesOn 3 = .ok (.imul, 1) := by decide +kernel
theorem dL_goesOn_4 : decode cL_goesOn 4 = .ok (.istore 8, 2) := by decide +kernel
theorem dL_goesOn_6 : decode cL_goesOn 6 = .ok (.aload_n 0, 1) := by decide +kernel
theorem dL_goesOn_7 : decode cL_goesOn 7 = .ok (.iload_n 1, 1) := by decide +kernel
theorem dL_goesOn_8 : decode cL_goesOn 8 = .ok (.invokevirtual 68, 3) := by decide +kernel
theorem dL_goesOn_11 : decode cL_goesOn 11 = .ok (.istore 9, 2) := by decide +kernel
theorem dL_goesOn_13 : decode cL_goesOn 13 = .ok (.aload_n 0, 1) := by decide +kernel
theorem dL_goesOn_14 : decode cL_goesOn 14 = .ok (.iload_n 1, 1) := by decide +kernel
theorem dL_goesOn_15 : decode cL_goesOn 15 = .ok (.invokevirtual 71, 3) := by decide +kernel
theorem dL_goesOn_18 : decode cL_goesOn 18 = .ok (.istore 10, 2) := by decide +kernel
theorem dL_goesOn_20 : decode cL_goesOn 20 = .ok (.iload 9, 2) := by decide +kernel
theorem dL_goesOn_22 : decode cL_goesOn 22 = .ok (.iconst 1, 1) := by decide +kernel
theorem dL_goesOn_23 : decode cL_goesOn 23 = .ok (.if_icmp .ne 152, 3) := by decide +kernel
theorem dL_goesOn_26 : decode cL_goesOn 26 = .ok (.aload_n 0, 1) := by decide +kernel
theorem dL_goesOn_27 : decode cL_goesOn 27 = .ok (.iconst 5, 1) := by decide +kernel
theorem dL_goesOn_28 : decode cL_goesOn 28 = .ok (.iload_n 1, 1) := by decide +kernel
theorem dL_goesOn_29 : decode cL_goesOn 29 = .ok (.iload 10, 2) := by decide +kernel
theorem dL_goesOn_31 : decode cL_goesOn 31 = .ok (.ifCond .ge 10, 3) := by decide +kernel
theorem dL_goesOn_34 : decode cL_goesOn 34 = .ok (.iload_n 2, 1) := by decide +kernel
theorem dL_goesOn_35 : decode cL_goesOn 35 = .ok (.bipush 6, 2) := by decide +kernel
theorem dL_goesOn_37 : decode cL_goesOn 37 = .ok (.irem, 1) := by decide +kernel
theorem dL_goesOn_38 : decode cL_goesOn 38 = .ok (.goto 5, 3) := by decide +kernel
theorem dL_goesOn_41 : decode cL_goesOn 41 = .ok (.iload 10, 2) := by decide +kernel
theorem dL_goesOn_43 : decode cL_goesOn 43 = .ok (.iload_n 3, 1) := by decide +kernel
theorem dL_goesOn_44 : decode cL_goesOn 44 = .ok (.iconst 3, 1) := by decide +kernel
theorem dL_goesOn_45 : decode cL_goesOn 45 = .ok (.irem, 1) := by decide +kernel
theorem dL_goesOn_46 : decode cL_goesOn 46 = .ok (.ifCond .ne 7, 3) := by decide +kernel
theorem dL_goesOn_49 : decode cL_goesOn 49 = .ok (.iconst 1, 1) := by decide +kernel
theorem dL_goesOn_50 : decode cL_goesOn 50 = .ok (.goto 4, 3) := by decide +kernel
theorem dL_goesOn_53 : decode cL_goesOn 53 = .ok (.iconst 0, 1) := by decide +kernel
theorem dL_goesOn_54 : decode cL_goesOn 54 = .ok (.invokestatic 96, 3) := by decide +kernel
theorem dL_goesOn_57 : decode cL_goesOn 57 = .ok (.istore 11, 2) := by decide +kernel
theorem dL_goesOn_59 : decode cL_goesOn 59 = .ok (.aload_n 0, 1) := by decide +kernel
theorem dL_goesOn_60 : decode cL_goesOn 60 = .ok (.iload_n 1, 1) := by decide +kernel
theorem dL_goesOn_61 : decode cL_goesOn 61 = .ok (.invokevirtual 68, 3) := by decide +kernel
theorem dL_goesOn_64 : decode cL_goesOn 64 = .ok (.istore 12, 2) := by decide +kernel
theorem dL_goesOn_66 : decode cL_goesOn 66 = .ok (.iload 10, 2) := by decide +kernel
theorem dL_goesOn_68 : decode cL_goesOn 68 = .ok (.ifCond .ge 24, 3) := by decide +kernel
theorem dL_goesOn_71 : decode cL_goesOn 71 = .ok (.iload 11, 2) := by decide +kernel
theorem dL_goesOn_73 : decode cL_goesOn 73 = .ok (.bipush (-8), 2) := by decide +kernel
theorem dL_goesOn_75 : decode cL_goesOn 75 = .ok (.if_icmp .ne 13, 3) := by decide +kernel
theorem dL_goesOn_78 : decode cL_goesOn 78 = .ok (.iload 12, 2) := by decide +kernel
theorem dL_goesOn_80 : decode cL_goesOn 80 = .ok (.iconst 1, 1) := by decide +kernel
theorem dL_goesOn_81 : decode cL_goesOn 81 = .ok (.if_icmp .ne 7, 3) := by decide +kernel
theorem dL_goesOn_84 : decode cL_goesOn 84 = .ok (.iconst 1, 1) := by decide +kernel
theorem dL_goesOn_85 : decode cL_goesOn 85 = .ok (.goto 89, 3) := by decide +kernel
theorem dL_goesOn_88 : decode cL_goesOn 88 = .ok (.iconst 0, 1) := by decide +kernel
theorem dL_goesOn_89 : decode cL_goesOn 89 = .ok (.goto 85, 3) := by decide +kernel
theorem dL_goesOn_92 : decode cL_goesOn 92 = .ok (.iload_n 3, 1) := by decide +kernel
theorem dL_goesOn_93 : decode cL_goesOn 93 = .ok (.iconst 3, 1) := by decide +kernel
theorem dL_goesOn_94 : decode cL_goesOn 94 = .ok (.irem, 1) := by decide +kernel
theorem dL_goesOn_95 : decode cL_goesOn 95 = .ok (.ifCond .ne 17, 3) := by decide +kernel
theorem dL_goesOn_98 : decode cL_goesOn 98 = .ok (.iload 11, 2) := by decide +kernel
theorem dL_goesOn_100 : decode cL_goesOn 100 = .ok (.ifCond .lt 73, 3) := by decide +kernel
theorem dL_goesOn_103 : decode cL_goesOn 103 = .ok (.iload 11, 2) := by decide +kernel
theorem dL_goesOn_105 : decode cL_goesOn 105 = .ok (.iconst 3, 1) := by decide +kernel
theorem dL_goesOn_106 : decode cL_goesOn 106 = .ok (.if_icmp .gt 67, 3) := by decide +kernel
theorem dL_goesOn_109 : decode cL_goesOn 109 = .ok (.goto 9, 3) := by decide +kernel
theorem dL_goesOn_112 : decode cL_goesOn 112 = .ok (.iload 11, 2) := by decide +kernel
theorem dL_goesOn_114 : decode cL_goesOn 114 = .ok (.iconst (-1), 1) := by decide +kernel
theorem dL_goesOn_115 : decode cL_goesOn 115 = .ok (.if_icmp .ne 58, 3) := by decide +kernel
theorem dL_goesOn_118 : decode cL_goesOn 118 = .ok (.iload 12, 2) := by decide +kernel
theorem dL_goesOn_120 : decode cL_goesOn 120 = .ok (.iconst 1, 1) := by decide +kernel
theorem dL_goesOn_121 : decode cL_goesOn 121 = .ok (.if_icmp .ne 16, 3) := by decide +kernel
theorem dL_goesOn_124 : decode cL_goesOn 124 = .ok (.aload_n 0, 1) := by decide +kernel
theorem dL_goesOn_125 : decode cL_goesOn 125 = .ok (.iload_n 1, 1) := by decide +kernel
theorem dL_goesOn_126 : decode cL_goesOn 126 = .ok (.invokevirtual 71, 3) := by decide +kernel
theorem dL_goesOn_129 : decode cL_goesOn 129 = .ok (.iload 10, 2) := by decide +kernel
theorem dL_goesOn_131 : decode cL_goesOn 131 = .ok (.if_icmp .eq 42, 3) := by decide +kernel
theorem dL_goesOn_134 : decode cL_goesOn 134 = .ok (.goto 21, 3) := by decide +kernel
theorem dL_goesOn_137 : decode cL_goesOn 137 = .ok (.iload 12, 2) := by decide +kernel
theorem dL_goesOn_139 : decode cL_goesOn 139 = .ok (.iconst 2, 1) := by decide +kernel
theorem dL_goesOn_140 : decode cL_goesOn 140 = .ok (.if_icmp .eq 15, 3) := by decide +kernel
theorem dL_goesOn_143 : decode cL_goesOn 143 = .ok (.iload 12, 2) := by decide +kernel
theorem dL_goesOn_145 : decode cL_goesOn 145 = .ok (.iconst 3, 1) := by decide +kernel
theorem dL_goesOn_146 : decode cL_goesOn 146 = .ok (.if_icmp .ne 27, 3) := by decide +kernel
theorem dL_goesOn_149 : decode cL_goesOn 149 = .ok (.iload_n 3, 1) := by decide +kernel
theorem dL_goesOn_150 : decode cL_goesOn 150 = .ok (.iconst 3, 1) := by decide +kernel
theorem dL_goesOn_151 : decode cL_goesOn 151 = .ok (.irem, 1) := by decide +kernel
theorem dL_goesOn_152 : decode cL_goesOn 152 = .ok (.ifCond .le 21, 3) := by decide +kernel
theorem dL_goesOn_155 : decode cL_goesOn 155 = .ok (.aload_n 0, 1) := by decide +kernel
theorem dL_goesOn_156 : decode cL_goesOn 156 = .ok (.iconst 5, 1) := by decide +kernel
theorem dL_goesOn_157 : decode cL_goesOn 157 = .ok (.iload_n 1, 1) := by decide +kernel
theorem dL_goesOn_158 : decode cL_goesOn 158 = .ok (.iload 10, 2) := by decide +kernel
theorem dL_goesOn_160 : decode cL_goesOn 160 = .ok (.iconst 0, 1) := by decide +kernel
theorem dL_goesOn_161 : decode cL_goesOn 161 = .ok (.invokestatic 96, 3) := by decide +kernel
theorem dL_goesOn_164 : decode cL_goesOn 164 = .ok (.bipush (-8), 2) := by decide +kernel
theorem dL_goesOn_166 : decode cL_goesOn 166 = .ok (.if_icmp .ne 7, 3) := by decide +kernel
theorem dL_goesOn_169 : decode cL_goesOn 169 = .ok (.iconst 1, 1) := by decide +kernel
theorem dL_goesOn_170 : decode cL_goesOn 170 = .ok (.goto 4, 3) := by decide +kernel
theorem dL_goesOn_173 : decode cL_goesOn 173 = .ok (.iconst 0, 1) := by decide +kernel
theorem dL_goesOn_174 : decode cL_goesOn 174 = .ok (.ireturn, 1) := by decide +kernel
theorem dL_goesOn_175 : decode cL_goesOn 175 = .ok (.iload 9, 2) := by decide +kernel
theorem dL_goesOn_177 : decode cL_goesOn 177 = .ok (.iconst 2, 1) := by decide +kernel
theorem dL_goesOn_178 : decode cL_goesOn 178 = .ok (.if_icmp .ne 135, 3) := by decide +kernel
theorem dL_goesOn_181 : decode cL_goesOn 181 = .ok (.iconst 5, 1) := by decide +kernel
theorem dL_goesOn_182 : decode cL_goesOn 182 = .ok (.istore 11, 2) := by decide +kernel
theorem dL_goesOn_184 : decode cL_goesOn 184 = .ok (.iconst 0, 1) := by decide +kernel
theorem dL_goesOn_185 : decode cL_goesOn 185 = .ok (.istore 12, 2) := by decide +kernel
theorem dL_goesOn_187 : decode cL_goesOn 187 = .ok (.iload 12, 2) := by decide +kernel
theorem dL_goesOn_189 : decode cL_goesOn 189 = .ok (.iconst 4, 1) := by decide +kernel
theorem dL_goesOn_190 : decode cL_goesOn 190 = .ok (.if_icmp .ge 75, 3) := by decide +kernel
theorem dL_goesOn_193 : decode cL_goesOn 193 = .ok (.aload_n 0, 1) := by decide +kernel
theorem dL_goesOn_194 : decode cL_goesOn 194 = .ok (.bipush 6, 2) := by decide +kernel
theorem dL_goesOn_196 : decode cL_goesOn 196 = .ok (.iload_n 1, 1) := by decide +kernel
theorem dL_goesOn_197 : decode cL_goesOn 197 = .ok (.iload 12, 2) := by decide +kernel
theorem dL_goesOn_199 : decode cL_goesOn 199 = .ok (.iconst 0, 1) := by decide +kernel
theorem dL_goesOn_200 : decode cL_goesOn 200 = .ok (.invokestatic 96, 3) := by decide +kernel
theorem dL_goesOn_203 : decode cL_goesOn 203 = .ok (.istore 13, 2) := by decide +kernel
theorem dL_goesOn_205 : decode cL_goesOn 205 = .ok (.iload 13, 2) := by decide +kernel
theorem dL_goesOn_207 : decode cL_goesOn 207 = .ok (.bipush (-7), 2) := by decide +kernel
theorem dL_goesOn_209 : decode cL_goesOn 209 = .ok (.if_icmp .eq 22, 3) := by decide +kernel
theorem dL_goesOn_212 : decode cL_goesOn 212 = .ok (.iload 13, 2) := by decide +kernel
theorem dL_goesOn_214 : decode cL_goesOn 214 = .ok (.bipush (-8), 2) := by decide +kernel
theorem dL_goesOn_216 : decode cL_goesOn 216 = .ok (.if_icmp .eq 15, 3) := by decide +kernel
theorem dL_goesOn_219 : decode cL_goesOn 219 = .ok (.iload 13, 2) := by decide +kernel
theorem dL_goesOn_221 : decode cL_goesOn 221 = .ok (.ifCond .lt 14, 3) := by decide +kernel
theorem dL_goesOn_224 : decode cL_goesOn 224 = .ok (.iload 13, 2) := by decide +kernel
theorem dL_goesOn_226 : decode cL_goesOn 226 = .ok (.iload 11, 2) := by decide +kernel
theorem dL_goesOn_228 : decode cL_goesOn 228 = .ok (.if_icmp .ge 7, 3) := by decide +kernel
theorem dL_goesOn_231 : decode cL_goesOn 231 = .ok (.iconst 1, 1) := by decide +kernel
theorem dL_goesOn_232 : decode cL_goesOn 232 = .ok (.goto 4, 3) := by decide +kernel
theorem dL_goesOn_235 : decode cL_goesOn 235 = .ok (.iconst 0, 1) := by decide +kernel
theorem dL_goesOn_236 : decode cL_goesOn 236 = .ok (.istore 14, 2) := by decide +kernel
theorem dL_goesOn_238 : decode cL_goesOn 238 = .ok (.iload 13, 2) := by decide +kernel
theorem dL_goesOn_240 : decode cL_goesOn 240 = .ok (.ifCond .lt 8, 3) := by decide +kernel
theorem dL_goesOn_243 : decode cL_goesOn 243 = .ok (.iload 13, 2) := by decide +kernel
theorem dL_goesOn_245 : decode cL_goesOn 245 = .ok (.goto 5, 3) := by decide +kernel
theorem dL_goesOn_248 : decode cL_goesOn 248 = .ok (.iload 11, 2) := by decide +kernel
theorem dL_goesOn_250 : decode cL_goesOn 250 = .ok (.istore 11, 2) := by decide +kernel
theorem dL_goesOn_252 : decode cL_goesOn 252 = .ok (.iload 14, 2) := by decide +kernel
theorem dL_goesOn_254 : decode cL_goesOn 254 = .ok (.ifCond .ne 5, 3) := by decide +kernel
theorem dL_goesOn_257 : decode cL_goesOn 257 = .ok (.iconst 0, 1) := by decide +kernel
theorem dL_goesOn_258 : decode cL_goesOn 258 = .ok (.ireturn, 1) := by decide +kernel
theorem dL_goesOn_259 : decode cL_goesOn 259 = .ok (.iinc 12 1, 3) := by decide +kernel
theorem dL_goesOn_262 : decode cL_goesOn 262 = .ok (.goto (-75), 3) := by decide +kernel
theorem dL_goesOn_265 : decode cL_goesOn 265 = .ok (.iload 11, 2) := by decide +kernel
theorem dL_goesOn_267 : decode cL_goesOn 267 = .ok (.ifCond .ne 44, 3) := by decide +kernel
theorem dL_goesOn_270 : decode cL_goesOn 270 = .ok (.aload_n 0, 1) := by decide +kernel
theorem dL_goesOn_271 : decode cL_goesOn 271 = .ok (.iload_n 1, 1) := by decide +kernel
theorem dL_goesOn_272 : decode cL_goesOn 272 = .ok (.invokevirtual 68, 3) := by decide +kernel
theorem dL_goesOn_275 : decode cL_goesOn 275 = .ok (.iconst 3, 1) := by decide +kernel
theorem dL_goesOn_276 : decode cL_goesOn 276 = .ok (.if_icmp .ne 35, 3) := by decide +kernel
theorem dL_goesOn_279 : decode cL_goesOn 279 = .ok (.aload_n 0, 1) := by decide +kernel
theorem dL_goesOn_280 : decode cL_goesOn 280 = .ok (.bipush 6, 2) := by decide +kernel
theorem dL_goesOn_282 : decode cL_goesOn 282 = .ok (.iload_n 1, 1) := by decide +kernel
theorem dL_goesOn_283 : decode cL_goesOn 283 = .ok (.iconst 4, 1) := by decide +kernel
theorem dL_goesOn_284 : decode cL_goesOn 284 = .ok (.iconst 0, 1) := by decide +kernel
theorem dL_goesOn_285 : decode cL_goesOn 285 = .ok (.invokestatic 96, 3) := by decide +kernel
theorem dL_goesOn_288 : decode cL_goesOn 288 = .ok (.bipush (-7), 2) := by decide +kernel
theorem dL_goesOn_290 : decode cL_goesOn 290 = .ok (.if_icmp .ne 21, 3) := by decide +kernel
theorem dL_goesOn_293 : decode cL_goesOn 293 = .ok (.aload_n 0, 1) := by decide +kernel
theorem dL_goesOn_294 : decode cL_goesOn 294 = .ok (.bipush 6, 2) := by decide +kernel
theorem dL_goesOn_296 : decode cL_goesOn 296 = .ok (.iload_n 1, 1) := by decide +kernel
theorem dL_goesOn_297 : decode cL_goesOn 297 = .ok (.iconst (-1), 1) := by decide +kernel
theorem dL_goesOn_298 : decode cL_goesOn 298 = .ok (.iconst 0, 1) := by decide +kernel
theorem dL_goesOn_299 : decode cL_goesOn 299 = .ok (.invokestatic 96, 3) := by decide +kernel
theorem dL_goesOn_302 : decode cL_goesOn 302 = .ok (.bipush (-7), 2) := by decide +kernel
theorem dL_goesOn_304 : decode cL_goesOn 304 = .ok (.if_icmp .ne 7, 3) := by decide +kernel
theorem dL_goesOn_307 : decode cL_goesOn 307 = .ok (.iconst 1, 1) := by decide +kernel
theorem dL_goesOn_308 : decode cL_goesOn 308 = .ok (.goto 4, 3) := by decide +kernel
theorem dL_goesOn_311 : decode cL_goesOn 311 = .ok (.iconst 0, 1) := by decide +kernel
theorem dL_goesOn_312 : decode cL_goesOn 312 = .ok (.ireturn, 1) := by decide +kernel
theorem dL_goesOn_313 : decode cL_goesOn 313 = .ok (.iload 9, 2) := by decide +kernel
theorem dL_goesOn_315 : decode cL_goesOn 315 = .ok (.iconst 3, 1) := by decide +kernel
theorem dL_goesOn_316 : decode cL_goesOn 316 = .ok (.if_icmp .ne 171, 3) := by decide +kernel
theorem dL_goesOn_319 : decode cL_goesOn 319 = .ok (.iload_n 2, 1) := by decide +kernel
theorem dL_goesOn_320 : decode cL_goesOn 320 = .ok (.bipush 6, 2) := by decide +kernel
theorem dL_goesOn_322 : decode cL_goesOn 322 = .ok (.irem, 1) := by decide +kernel
theorem dL_goesOn_323 : decode cL_goesOn 323 = .ok (.istore 11, 2) := by decide +kernel
theorem dL_goesOn_325 : decode cL_goesOn 325 = .ok (.aload 7, 2) := by decide +kernel
theorem dL_goesOn_327 : decode cL_goesOn 327 = .ok (.iconst 0, 1) := by decide +kernel
theorem dL_goesOn_328 : decode cL_goesOn 328 = .ok (.iaload, 1) := by decide +kernel
theorem dL_goesOn_329 : decode cL_goesOn 329 = .ok (.iconst 1, 1) := by decide +kernel
theorem dL_goesOn_330 : decode cL_goesOn 330 = .ok (.iadd, 1) := by decide +kernel
theorem dL_goesOn_331 : decode cL_goesOn 331 = .ok (.iload_n 3, 1) := by decide +kernel
theorem dL_goesOn_332 : decode cL_goesOn 332 = .ok (.bipush 9, 2) := by decide +kernel
theorem dL_goesOn_334 : decode cL_goesOn 334 = .ok (.irem, 1) := by decide +kernel
theorem dL_goesOn_335 : decode cL_goesOn 335 = .ok (.iadd, 1) := by decide +kernel
theorem dL_goesOn_336 : decode cL_goesOn 336 = .ok (.istore 12, 2) := by decide +kernel
theorem dL_goesOn_338 : decode cL_goesOn 338 = .ok (.iload 11, 2) := by decide +kernel
theorem dL_goesOn_340 : decode cL_goesOn 340 = .ok (.aload 4, 2) := by decide +kernel
theorem dL_goesOn_342 : decode cL_goesOn 342 = .ok (.iload 8, 2) := by decide +kernel
theorem dL_goesOn_344 : decode cL_goesOn 344 = .ok (.iconst 1, 1) := by decide +kernel
theorem dL_goesOn_345 : decode cL_goesOn 345 = .ok (.iadd, 1) := by decide +kernel
theorem dL_goesOn_346 : decode cL_goesOn 346 = .ok (.iaload, 1) := by decide +kernel
theorem dL_goesOn_347 : decode cL_goesOn 347 = .ok (.if_icmp .eq 27, 3) := by decide +kernel
theorem dL_goesOn_350 : decode cL_goesOn 350 = .ok (.aload 5, 2) := by decide +kernel
theorem dL_goesOn_352 : decode cL_goesOn 352 = .ok (.aload 6, 2) := by decide +kernel
theorem dL_goesOn_354 : decode cL_goesOn 354 = .ok (.iload 11, 2) := by decide +kernel
theorem dL_goesOn_356 : decode cL_goesOn 356 = .ok (.invokestatic 103, 3) := by decide +kernel
theorem dL_goesOn_359 : decode cL_goesOn 359 = .ok (.ifCond .eq 15, 3) := by decide +kernel
theorem dL_goesOn_362 : decode cL_goesOn 362 = .ok (.iload 12, 2) := by decide +kernel
theorem dL_goesOn_364 : decode cL_goesOn 364 = .ok (.sipush 1000, 3) := by decide +kernel
theorem dL_goesOn_367 : decode cL_goesOn 367 = .ok (.if_icmp .gt 7, 3) := by decide +kernel
theorem dL_goesOn_370 : decode cL_goesOn 370 = .ok (.iconst 1, 1) := by decide +kernel
theorem dL_goesOn_371 : decode cL_goesOn 371 = .ok (.goto 4, 3) := by decide +kernel
theorem dL_goesOn_374 : decode cL_goesOn 374 = .ok (.iconst 0, 1) := by decide +kernel
theorem dL_goesOn_375 : decode cL_goesOn 375 = .ok (.istore 13, 2) := by decide +kernel
theorem dL_goesOn_377 : decode cL_goesOn 377 = .ok (.aload_n 0, 1) := by decide +kernel
theorem dL_goesOn_378 : decode cL_goesOn 378 = .ok (.bipush 7, 2) := by decide +kernel
theorem dL_goesOn_380 : decode cL_goesOn 380 = .ok (.iload_n 1, 1) := by decide +kernel
theorem dL_goesOn_381 : decode cL_goesOn 381 = .ok (.iload 11, 2) := by decide +kernel
theorem dL_goesOn_383 : decode cL_goesOn 383 = .ok (.iload 12, 2) := by decide +kernel
theorem dL_goesOn_385 : decode cL_goesOn 385 = .ok (.invokestatic 96, 3) := by decide +kernel
theorem dL_goesOn_388 : decode cL_goesOn 388 = .ok (.istore 14, 2) := by decide +kernel
theorem dL_goesOn_390 : decode cL_goesOn 390 = .ok (.aload 4, 2) := by decide +kernel
theorem dL_goesOn_392 : decode cL_goesOn 392 = .ok (.iload 8, 2) := by decide +kernel
theorem dL_goesOn_394 : decode cL_goesOn 394 = .ok (.iconst 4, 1) := by decide +kernel
theorem dL_goesOn_395 : decode cL_goesOn 395 = .ok (.iadd, 1) := by decide +kernel
theorem dL_goesOn_396 : decode cL_goesOn 396 = .ok (.iload 13, 2) := by decide +kernel
theorem dL_goesOn_398 : decode cL_goesOn 398 = .ok (.ifCond .eq 8, 3) := by decide +kernel
theorem dL_goesOn_401 : decode cL_goesOn 401 = .ok (.iload 12, 2) := by decide +kernel
theorem dL_goesOn_403 : decode cL_goesOn 403 = .ok (.goto 4, 3) := by decide +kernel
theorem dL_goesOn_406 : decode cL_goesOn 406 = .ok (.iconst 0, 1) := by decide +kernel
theorem dL_goesOn_407 : decode cL_goesOn 407 = .ok (.iastore, 1) := by decide +kernel
theorem dL_goesOn_408 : decode cL_goesOn 408 = .ok (.iload 14, 2) := by decide +kernel
theorem dL_goesOn_410 : decode cL_goesOn 410 = .ok (.iload 13, 2) := by decide +kernel
theorem dL_goesOn_412 : decode cL_goesOn 412 = .ok (.ifCond .eq 7, 3) := by decide +kernel

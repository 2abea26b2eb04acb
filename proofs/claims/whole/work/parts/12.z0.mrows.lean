theorem dX4_init_0 : decode cX4_init 0 = .ok (.aload_n 0, 1) := by decide +kernel
theorem dX4_init_1 : decode cX4_init 1 = .ok (.invokespecial 1, 3) := by decide +kernel
theorem dX4_init_4 : decode cX4_init 4 = .ok (.aload_n 0, 1) := by decide +kernel
theorem dX4_init_5 : decode cX4_init 5 = .ok (.bipush 30, 2) := by decide +kernel
theorem dX4_init_7 : decode cX4_init 7 = .ok (.putfield 7, 3) := by decide +kernel
theorem dX4_init_10 : decode cX4_init 10 = .ok (.aload_n 0, 1) := by decide +kernel
theorem dX4_init_11 : decode cX4_init 11 = .ok (.bipush 6, 2) := by decide +kernel
theorem dX4_init_13 : decode cX4_init 13 = .ok (.newarray .boolean, 2) := by decide +kernel
theorem dX4_init_15 : decode cX4_init 15 = .ok (.putfield 13, 3) := by decide +kernel
theorem dX4_init_18 : decode cX4_init 18 = .ok (.aload_n 0, 1) := by decide +kernel
theorem dX4_init_19 : decode cX4_init 19 = .ok (.bipush 6, 2) := by decide +kernel
theorem dX4_init_21 : decode cX4_init 21 = .ok (.newarray .boolean, 2) := by decide +kernel
theorem dX4_init_23 : decode cX4_init 23 = .ok (.putfield 17, 3) := by decide +kernel
theorem dX4_init_26 : decode cX4_init 26 = .ok (.aload_n 0, 1) := by decide +kernel
theorem dX4_init_27 : decode cX4_init 27 = .ok (.bipush 6, 2) := by decide +kernel
theorem dX4_init_29 : decode cX4_init 29 = .ok (.newarray .int, 2) := by decide +kernel
theorem dX4_init_31 : decode cX4_init 31 = .ok (.putfield 20, 3) := by decide +kernel
theorem dX4_init_34 : decode cX4_init 34 = .ok (.aload_n 0, 1) := by decide +kernel
theorem dX4_init_35 : decode cX4_init 35 = .ok (.bipush 8, 2) := by decide +kernel
theorem dX4_init_37 : decode cX4_init 37 = .ok (.newarray .boolean, 2) := by decide +kernel
theorem dX4_init_39 : decode cX4_init 39 = .ok (.putfield 24, 3) := by decide +kernel
theorem dX4_init_42 : decode cX4_init 42 = .ok (.aload_n 0, 1) := by decide +kernel
theorem dX4_init_43 : decode cX4_init 43 = .ok (.bipush 64, 2) := by decide +kernel
theorem dX4_init_45 : decode cX4_init 45 = .ok (.newarray .boolean, 2) := by decide +kernel
theorem dX4_init_47 : decode cX4_init 47 = .ok (.putfield 27, 3) := by decide +kernel
theorem dX4_init_50 : decode cX4_init 50 = .ok (.aload_n 0, 1) := by decide +kernel
theorem dX4_init_51 : decode cX4_init 51 = .ok (.bipush 8, 2) := by decide +kernel
theorem dX4_init_53 : decode cX4_init 53 = .ok (.newarray .boolean, 2) := by decide +kernel
theorem dX4_init_55 : decode cX4_init 55 = .ok (.putfield 30, 3) := by decide +kernel
theorem dX4_init_58 : decode cX4_init 58 = .ok (.aload_n 0, 1) := by decide +kernel
theorem dX4_init_59 : decode cX4_init 59 = .ok (.bipush 8, 2) := by decide +kernel
theorem dX4_init_61 : decode cX4_init 61 = .ok (.newarray .int, 2) := by decide +kernel
theorem dX4_init_63 : decode cX4_init 63 = .ok (.putfield 33, 3) := by decide +kernel
theorem dX4_init_66 : decode cX4_init 66 = .ok (.aload_n 0, 1) := by decide +kernel
theorem dX4_init_67 : decode cX4_init 67 = .ok (.bipush 8, 2) := by decide +kernel
theorem dX4_init_69 : decode cX4_init 69 = .ok (.newarray .int, 2) := by decide +kernel
theorem dX4_init_71 : decode cX4_init 71 = .ok (.putfield 36, 3) := by decide +kernel
theorem dX4_init_74 : decode cX4_init 74 = .ok (.aload_n 0, 1) := by decide +kernel
theorem dX4_init_75 : decode cX4_init 75 = .ok (.bipush 8, 2) := by decide +kernel
theorem dX4_init_77 : decode cX4_init 77 = .ok (.newarray .int, 2) := by decide +kernel
theorem dX4_init_79 : decode cX4_init 79 = .ok (.putfield 39, 3) := by decide +kernel
theorem dX4_init_82 : decode cX4_init 82 = .ok (.aload_n 0, 1) := by decide +kernel
theorem dX4_init_83 : decode cX4_init 83 = .ok (.bipush 8, 2) := by decide +kernel
theorem dX4_init_85 : decode cX4_init 85 = .ok (.newarray .int, 2) := by decide +kernel
theorem dX4_init_87 : decode cX4_init 87 = .ok (.putfield 42, 3) := by decide +kernel
theorem dX4_init_90 : decode cX4_init 90 = .ok (.aload_n 0, 1) := by decide +kernel
theorem dX4_init_91 : decode cX4_init 91 = .ok (.bipush 32, 2) := by decide +kernel
theorem dX4_init_93 : decode cX4_init 93 = .ok (.newarray .int, 2) := by decide +kernel
theorem dX4_init_95 : decode cX4_init 95 = .ok (.putfield 45, 3) := by decide +kernel
theorem dX4_init_98 : decode cX4_init 98 = .ok (.aload_n 0, 1) := by decide +kernel
theorem dX4_init_99 : decode cX4_init 99 = .ok (.bipush 32, 2) := by decide +kernel
theorem dX4_init_101 : decode cX4_init 101 = .ok (.newarray .boolean, 2) := by decide +kernel
theorem dX4_init_103 : decode cX4_init 103 = .ok (.putfield 48, 3) := by decide +kernel
theorem dX4_init_106 : decode cX4_init 106 = .ok (.aload_n 0, 1) := by decide +kernel
theorem dX4_init_107 : decode cX4_init 107 = .ok (.bipush 8, 2) := by decide +kernel
theorem dX4_init_109 : decode cX4_init 109 = .ok (.newarray .int, 2) := by decide +kernel
theorem dX4_init_111 : decode cX4_init 111 = .ok (.putfield 51, 3) := by decide +kernel
theorem dX4_init_114 : decode cX4_init 114 = .ok (.aload_n 0, 1) := by decide +kernel
theorem dX4_init_115 : decode cX4_init 115 = .ok (.bipush 32, 2) := by decide +kernel
theorem dX4_init_117 : decode cX4_init 117 = .ok (.newarray .boolean, 2) := by decide +kernel
theorem dX4_init_119 : decode cX4_init 119 = .ok (.putfield 54, 3) := by decide +kernel
theorem dX4_init_122 : decode cX4_init 122 = .ok (.aload_n 0, 1) := by decide +kernel
theorem dX4_init_123 : decode cX4_init 123 = .ok (.bipush 8, 2) := by decide +kernel
theorem dX4_init_125 : decode cX4_init 125 = .ok (.newarray .boolean, 2) := by decide +kernel
theorem dX4_init_127 : decode cX4_init 127 = .ok (.putfield 57, 3) := by decide +kernel
theorem dX4_init_130 : decode cX4_init 130 = .ok (.aload_n 0, 1) := by decide +kernel
theorem dX4_init_131 : decode cX4_init 131 = .ok (.bipush 8, 2) := by decide +kernel
theorem dX4_init_133 : decode cX4_init 133 = .ok (.newarray .int, 2) := by decide +kernel
theorem dX4_init_135 : decode cX4_init 135 = .ok (.putfield 60, 3) := by decide +kernel
theorem dX4_init_138 : decode cX4_init 138 = .ok (.aload_n 0, 1) := by decide +kernel
theorem dX4_init_139 : decode cX4_init 139 = .ok (.bipush 48, 2) := by decide +kernel
theorem dX4_init_141 : decode cX4_init 141 = .ok (.newarray .boolean, 2) := by decide +kernel
theorem dX4_init_143 : decode cX4_init 143 = .ok (.putfield 63, 3) := by decide +kernel
theorem dX4_init_146 : decode cX4_init 146 = .ok (.aload_n 0, 1) := by decide +kernel
theorem dX4_init_147 : decode cX4_init 147 = .ok (.bipush 48, 2) := by decide +kernel
theorem dX4_init_149 : decode cX4_init 149 = .ok (.newarray .boolean, 2) := by decide +kernel
theorem dX4_init_151 : decode cX4_init 151 = .ok (.putfield 66, 3) := by decide +kernel
theorem dX4_init_154 : decode cX4_init 154 = .ok (.aload_n 0, 1) := by decide +kernel
theorem dX4_init_155 : decode cX4_init 155 = .ok (.bipush 8, 2) := by decide +kernel
theorem dX4_init_157 : decode cX4_init 157 = .ok (.newarray .int, 2) := by decide +kernel
theorem dX4_init_159 : decode cX4_init 159 = .ok (.putfield 69, 3) := by decide +kernel
theorem dX4_init_162 : decode cX4_init 162 = .ok (.aload_n 0, 1) := by decide +kernel
theorem dX4_init_163 : decode cX4_init 163 = .ok (.sipush 3200, 3) := by decide +kernel
theorem dX4_init_166 : decode cX4_init 166 = .ok (.newarray .int, 2) := by decide +kernel
theorem dX4_init_168 : decode cX4_init 168 = .ok (.putfield 72, 3) := by decide +kernel
theorem dX4_init_171 : decode cX4_init 171 = .ok (.aload_n 0, 1) := by decide +kernel
theorem dX4_init_172 : decode cX4_init 172 = .ok (.sipush 3200, 3) := by decide +kernel
theorem dX4_init_175 : decode cX4_init 175 = .ok (.newarray .int, 2) := by decide +kernel
theorem dX4_init_177 : decode cX4_init 177 = .ok (.putfield 75, 3) := by decide +kernel
theorem dX4_init_180 : decode cX4_init 180 = .ok (.aload_n 0, 1) := by decide +kernel
theorem dX4_init_181 : decode cX4_init 181 = .ok (.bipush 8, 2) := by decide +kernel
theorem dX4_init_183 : decode cX4_init 183 = .ok (.newarray .boolean, 2) := by decide +kernel
theorem dX4_init_185 : decode cX4_init 185 = .ok (.putfield 78, 3) := by decide +kernel
theorem dX4_init_188 : decode cX4_init 188 = .ok (.aload_n 0, 1) := by decide +kernel
theorem dX4_init_189 : decode cX4_init 189 = .ok (.bipush 8, 2) := by decide +kernel
theorem dX4_init_191 : decode cX4_init 191 = .ok (.newarray .int, 2) := by decide +kernel
theorem dX4_init_193 : decode cX4_init 193 = .ok (.putfield 81, 3) := by decide +kernel
theorem dX4_init_196 : decode cX4_init 196 = .ok (.aload_n 0, 1) := by decide +kernel
theorem dX4_init_197 : decode cX4_init 197 = .ok (.bipush 30, 2) := by decide +kernel
theorem dX4_init_199 : decode cX4_init 199 = .ok (.newarray .int, 2) := by decide +kernel
theorem dX4_init_201 : decode cX4_init 201 = .ok (.putfield 84, 3) := by decide +kernel
theorem dX4_init_204 : decode cX4_init 204 = .ok (.aload_n 0, 1) := by decide +kernel
theorem dX4_init_205 : decode cX4_init 205 = .ok (.bipush 30, 2) := by decide +kernel
theorem dX4_init_207 : decode cX4_init 207 = .ok (.newarray .int, 2) := by decide +kernel
theorem dX4_init_209 : decode cX4_init 209 = .ok (.putfield 87, 3) := by decide +kernel
theorem dX4_init_212 : decode cX4_init 212 = .ok (.aload_n 0, 1) := by decide +kernel
theorem dX4_init_213 : decode cX4_init 213 = .ok (.bipush 30, 2) := by decide +kernel
theorem dX4_init_215 : decode cX4_init 215 = .ok (.newarray .int, 2) := by decide +kernel
theorem dX4_init_217 : decode cX4_init 217 = .ok (.putfield 90, 3) := by decide +kernel
theorem dX4_init_220 : decode cX4_init 220 = .ok (.iconst 0, 1) := by decide +kernel
theorem dX4_init_221 : decode cX4_init 221 = .ok (.istore_n 1, 1) := by decide +kernel
theorem dX4_init_222 : decode cX4_init 222 = .ok (.iload_n 1, 1) := by decide +kernel
theorem dX4_init_223 : decode cX4_init 223 = .ok (.bipush 6, 2) := by decide +kernel
theorem dX4_init_225 : decode cX4_init 225 = .ok (.if_icmp .ge 16, 3) := by decide +kernel
theorem dX4_init_228 : decode cX4_init 228 = .ok (.aload_n 0, 1) := by decide +kernel
theorem dX4_init_229 : decode cX4_init 229 = .ok (.getfield 20, 3) := by decide +kernel
theorem dX4_init_232 : decode cX4_init 232 = .ok (.iload_n 1, 1) := by decide +kernel
theorem dX4_init_233 : decode cX4_init 233 = .ok (.iconst (-1), 1) := by decide +kernel
theorem dX4_init_234 : decode cX4_init 234 = .ok (.iastore, 1) := by decide +kernel
theorem dX4_init_235 : decode cX4_init 235 = .ok (.iinc 1 1, 3) := by decide +kernel
theorem dX4_init_238 : decode cX4_init 238 = .ok (.goto (-16), 3) := by decide +kernel
theorem dX4_init_241 : decode cX4_init 241 = .ok (.return_, 1) := by decide +kernel
theorem dX4_thrown_0 : decode cX4_thrown 0 = .ok (.aload_n 0, 1) := by decide +kernel
theorem dX4_thrown_1 : decode cX4_thrown 1 = .ok (.getfield 93, 3) := by decide +kernel
theorem dX4_thrown_4 : decode cX4_thrown 4 = .ok (.ireturn, 1) := by decide +kernel
theorem dX4_can_0 : decode cX4_can 0 = .ok (.aload_n 0, 1) := by decide +kernel
theorem dX4_can_1 : decode cX4_can 1 = .ok (.iload_n 1, 1) := by decide +kernel
theorem dX4_can_2 : decode cX4_can 2 = .ok (.putfield 93, 3) := by decide +kernel
theorem dX4_can_5 : decode cX4_can 5 = .ok (.iload_n 1, 1) := by decide +kernel
theorem dX4_can_6 : decode cX4_can 6 = .ok (.ifCond .ne 7, 3) := by decide +kernel
theorem dX4_can_9 : decode cX4_can 9 = .ok (.iconst 1, 1) := by decide +kernel
theorem dX4_can_10 : decode cX4_can 10 = .ok (.goto 4, 3) := by decide +kernel
theorem dX4_can_13 : decode cX4_can 13 = .ok (.iconst 0, 1) := by decide +kernel
theorem dX4_can_14 : decode cX4_can 14 = .ok (.ireturn, 1) := by decide +kernel
theorem dX4_isIn_0 : decode cX4_isIn 0 = .ok (.iload_n 0, 1) := by decide +kernel
theorem dX4_isIn_1 : decode cX4_isIn 1 = .ok (.iload_n 1, 1) := by decide +kernel
theorem dX4_isIn_2 : decode cX4_isIn 2 = .ok (.if_icmp .lt 12, 3) := by decide +kernel
theorem dX4_isIn_5 : decode cX4_isIn 5 = .ok (.iload_n 0, 1) := by decide +kernel
theorem dX4_isIn_6 : decode cX4_isIn 6 = .ok (.iload_n 2, 1) := by decide +kernel
theorem dX4_isIn_7 : decode cX4_isIn 7 = .ok (.if_icmp .gt 7, 3) := by decide +kernel
theorem dX4_isIn_10 : decode cX4_isIn 10 = .ok (.iconst 1, 1) := by decide +kernel
theorem dX4_isIn_11 : decode cX4_isIn 11 = .ok (.goto 4, 3) := by decide +kernel
theorem dX4_isIn_14 : decode cX4_isIn 14 = .ok (.iconst 0, 1) := by decide +kernel
theorem dX4_isIn_15 : decode cX4_isIn 15 = .ok (.ireturn, 1) := by decide +kernel
set_option maxRecDepth 20000 in
theorem ggX4_isPerson_X4_isIn : GoodIn wsX4_isPerson wsX4_isIn := goodIn_r _ [4] (by decide +kernel) (by decide +kernel)
set_option maxRecDepth 20000 in
theorem gX4_isPerson_X4_isIn : GoodIn wsX4_isPerson (va_wsS RX4 96 yX4_isIn wsX4_isIn) := goodIn_app (goodIn_of _ (by decide +kernel)) ggX4_isPerson_X4_isIn
theorem dX4_isPerson_0 : decode cX4_isPerson 0 = .ok (.iload_n 0, 1) := by decide +kernel
theorem dX4_isPerson_1 : decode cX4_isPerson 1 = .ok (.iconst 0, 1) := by decide +kernel
theorem dX4_isPerson_2 : decode cX4_isPerson 2 = .ok (.iconst 5, 1) := by decide +kernel
theorem dX4_isPerson_3 : decode cX4_isPerson 3 = .ok (.invokestatic 96, 3) := by decide +kernel
theorem dX4_isPerson_6 : decode cX4_isPerson 6 = .ok (.ireturn, 1) := by decide +kernel
set_option maxRecDepth 20000 in
theorem ggX4_isPaper_X4_isIn : GoodIn wsX4_isPaper wsX4_isIn := goodIn_r _ [5] (by decide +kernel) (by decide +kernel)
set_option maxRecDepth 20000 in
theorem gX4_isPaper_X4_isIn : GoodIn wsX4_isPaper (va_wsS RX4 96 yX4_isIn wsX4_isIn) := goodIn_app (goodIn_of _ (by decide +kernel)) ggX4_isPaper_X4_isIn
theorem dX4_isPaper_0 : decode cX4_isPaper 0 = .ok (.iload_n 1, 1) := by decide +kernel
theorem dX4_isPaper_1 : decode cX4_isPaper 1 = .ok (.iconst 0, 1) := by decide +kernel
theorem dX4_isPaper_2 : decode cX4_isPaper 2 = .ok (.aload_n 0, 1) := by decide +kernel
theorem dX4_isPaper_3 : decode cX4_isPaper 3 = .ok (.getfield 100, 3) := by decide +kernel
theorem dX4_isPaper_6 : decode cX4_isPaper 6 = .ok (.iconst 1, 1) := by decide +kernel
theorem dX4_isPaper_7 : decode cX4_isPaper 7 = .ok (.isub, 1) := by decide +kernel
theorem dX4_isPaper_8 : decode cX4_isPaper 8 = .ok (.invokestatic 96, 3) := by decide +kernel
theorem dX4_isPaper_11 : decode cX4_isPaper 11 = .ok (.ireturn, 1) := by decide +kernel
set_option maxRecDepth 20000 in
theorem ggX4_setRoles_X4_isPerson : GoodIn wsX4_setRoles wsX4_isPerson := goodIn_r _ [6, 7, 8, 5, 9] (by decide +kernel) (by decide +kernel)
set_option maxRecDepth 20000 in
theorem gX4_setRoles_X4_isPerson : GoodIn wsX4_setRoles (va_wsS RX4 103 yX4_isPerson wsX4_isPerson) := goodIn_app (goodIn_of _ (by decide +kernel)) ggX4_setRoles_X4_isPerson
set_option maxRecDepth 20000 in
theorem ggX4_setRoles_X4_can : GoodIn wsX4_setRoles wsX4_can := goodIn_r _ [13, 14, 15, 16, 17, 18, 19, 20, 21, 22, 23, 24, 25, 26, 27, 28, 29, 30, 31, 32, 33, 34, 35, 36, 37, 38, 39, 40, 41, 42, 43, 44, 45] (by decide +kernel) (by decide +kernel)
set_option maxRecDepth 20000 in
theorem gX4_setRoles_X4_can : GoodIn wsX4_setRoles (wsV RX4 107 RX4 yX4_can wsX4_can) := goodIn_app (goodIn_of _ (by decide +kernel)) ggX4_setRoles_X4_can
theorem dX4_setRoles_0 : decode cX4_setRoles 0 = .ok (.aload_n 0, 1) := by decide +kernel
theorem dX4_setRoles_1 : decode cX4_setRoles 1 = .ok (.iload_n 1, 1) := by decide +kernel
theorem dX4_setRoles_2 : decode cX4_setRoles 2 = .ok (.invokestatic 103, 3) := by decide +kernel
theorem dX4_setRoles_5 : decode cX4_setRoles 5 = .ok (.ifCond .eq 7, 3) := by decide +kernel
theorem dX4_setRoles_8 : decode cX4_setRoles 8 = .ok (.iconst 0, 1) := by decide +kernel
theorem dX4_setRoles_9 : decode cX4_setRoles 9 = .ok (.goto 4, 3) := by decide +kernel
theorem dX4_setRoles_12 : decode cX4_setRoles 12 = .ok (.iconst 1, 1) := by decide +kernel
theorem dX4_setRoles_13 : decode cX4_setRoles 13 = .ok (.invokevirtual 107, 3) := by decide +kernel
theorem dX4_setRoles_16 : decode cX4_setRoles 16 = .ok (.ifCond .eq 17, 3) := by decide +kernel
theorem dX4_setRoles_19 : decode cX4_setRoles 19 = .ok (.aload_n 0, 1) := by decide +kernel
theorem dX4_setRoles_20 : decode cX4_setRoles 20 = .ok (.getfield 13, 3) := by decide +kernel
theorem dX4_setRoles_23 : decode cX4_setRoles 23 = .ok (.iload_n 1, 1) := by decide +kernel
theorem dX4_setRoles_24 : decode cX4_setRoles 24 = .ok (.iload_n 2, 1) := by decide +kernel
theorem dX4_setRoles_25 : decode cX4_setRoles 25 = .ok (.bastore, 1) := by decide +kernel
theorem dX4_setRoles_26 : decode cX4_setRoles 26 = .ok (.aload_n 0, 1) := by decide +kernel
theorem dX4_setRoles_27 : decode cX4_setRoles 27 = .ok (.getfield 17, 3) := by decide +kernel
theorem dX4_setRoles_30 : decode cX4_setRoles 30 = .ok (.iload_n 1, 1) := by decide +kernel
theorem dX4_setRoles_31 : decode cX4_setRoles 31 = .ok (.iload_n 3, 1) := by decide +kernel
theorem dX4_setRoles_32 : decode cX4_setRoles 32 = .ok (.bastore, 1) := by decide +kernel
theorem dX4_setRoles_33 : decode cX4_setRoles 33 = .ok (.return_, 1) := by decide +kernel
set_option maxRecDepth 20000 in
theorem ggX4_setDeputy_X4_isPerson : GoodIn wsX4_setDeputy wsX4_isPerson := goodIn_r _ [5, 6, 7, 4, 8] (by decide +kernel) (by decide +kernel)
set_option maxRecDepth 20000 in
theorem gX4_setDeputy_X4_isPerson : GoodIn wsX4_setDeputy (va_wsS RX4 103 yX4_isPerson wsX4_isPerson) := goodIn_app (goodIn_of _ (by decide +kernel)) ggX4_setDeputy_X4_isPerson
set_option maxRecDepth 20000 in
theorem ggX4_setDeputy_X4_isIn : GoodIn wsX4_setDeputy wsX4_isIn := goodIn_r _ [8] (by decide +kernel) (by decide +kernel)
set_option maxRecDepth 20000 in
theorem gX4_setDeputy_X4_isIn : GoodIn wsX4_setDeputy (va_wsS RX4 96 yX4_isIn wsX4_isIn) := goodIn_app (goodIn_of _ (by decide +kernel)) ggX4_setDeputy_X4_isIn
set_option maxRecDepth 20000 in
theorem ggX4_setDeputy_X4_can : GoodIn wsX4_setDeputy wsX4_can := goodIn_r _ [12, 13, 14, 15, 16, 17, 18, 19, 20, 21, 22, 23, 24, 25, 26, 27, 28, 29, 30, 31, 32, 33, 34, 35, 36, 37, 38, 39, 40, 41, 42, 43, 44] (by decide +kernel) (by decide +kernel)
set_option maxRecDepth 20000 in
theorem gX4_setDeputy_X4_can : GoodIn wsX4_setDeputy (wsV RX4 107 RX4 yX4_can wsX4_can) := goodIn_app (goodIn_of _ (by decide +kernel)) ggX4_setDeputy_X4_can
theorem dX4_setDeputy_0 : decode cX4_setDeputy 0 = .ok (.aload_n 0, 1) := by decide +kernel
theorem dX4_setDeputy_1 : decode cX4_setDeputy 1 = .ok (.iload_n 1, 1) := by decide +kernel
theorem dX4_setDeputy_2 : decode cX4_setDeputy 2 = .ok (.invokestatic 103, 3) := by decide +kernel
theorem dX4_setDeputy_5 : decode cX4_setDeputy 5 = .ok (.ifCond .eq 21, 3) := by decide +kernel
theorem dX4_setDeputy_8 : decode cX4_setDeputy 8 = .ok (.iload_n 2, 1) := by decide +kernel
theorem dX4_setDeputy_9 : decode cX4_setDeputy 9 = .ok (.iconst (-1), 1) := by decide +kernel
theorem dX4_setDeputy_10 : decode cX4_setDeputy 10 = .ok (.iconst 5, 1) := by decide +kernel
theorem dX4_setDeputy_11 : decode cX4_setDeputy 11 = .ok (.invokestatic 96, 3) := by decide +kernel
theorem dX4_setDeputy_14 : decode cX4_setDeputy 14 = .ok (.ifCond .eq 12, 3) := by decide +kernel
theorem dX4_setDeputy_17 : decode cX4_setDeputy 17 = .ok (.iload_n 1, 1) := by decide +kernel
theorem dX4_setDeputy_18 : decode cX4_setDeputy 18 = .ok (.iload_n 2, 1) := by decide +kernel
theorem dX4_setDeputy_19 : decode cX4_setDeputy 19 = .ok (.if_icmp .eq 7, 3) := by decide +kernel
theorem dX4_setDeputy_22 : decode cX4_setDeputy 22 = .ok (.iconst 0, 1) := by decide +kernel
theorem dX4_setDeputy_23 : decode cX4_setDeputy 23 = .ok (.goto 4, 3) := by decide +kernel
theorem dX4_setDeputy_26 : decode cX4_setDeputy 26 = .ok (.iconst 1, 1) := by decide +kernel
theorem dX4_setDeputy_27 : decode cX4_setDeputy 27 = .ok (.invokevirtual 107, 3) := by decide +kernel
theorem dX4_setDeputy_30 : decode cX4_setDeputy 30 = .ok (.ifCond .ne 5, 3) := by decide +kernel
theorem dX4_setDeputy_33 : decode cX4_setDeputy 33 = .ok (.iconst 0, 1) := by decide +kernel
theorem dX4_setDeputy_34 : decode cX4_setDeputy 34 = .ok (.ireturn, 1) := by decide +kernel
theorem dX4_setDeputy_35 : decode cX4_setDeputy 35 = .ok (.aload_n 0, 1) := by decide +kernel
theorem dX4_setDeputy_36 : decode cX4_setDeputy 36 = .ok (.getfield 20, 3) := by decide +kernel
theorem dX4_setDeputy_39 : decode cX4_setDeputy 39 = .ok (.iload_n 1, 1) := by decide +kernel
theorem dX4_setDeputy_40 : decode cX4_setDeputy 40 = .ok (.iaload, 1) := by decide +kernel
theorem dX4_setDeputy_41 : decode cX4_setDeputy 41 = .ok (.istore_n 3, 1) := by decide +kernel
theorem dX4_setDeputy_42 : decode cX4_setDeputy 42 = .ok (.aload_n 0, 1) := by decide +kernel
theorem dX4_setDeputy_43 : decode cX4_setDeputy 43 = .ok (.getfield 20, 3) := by decide +kernel
theorem dX4_setDeputy_46 : decode cX4_setDeputy 46 = .ok (.iload_n 1, 1) := by decide +kernel
theorem dX4_setDeputy_47 : decode cX4_setDeputy 47 = .ok (.iload_n 2, 1) := by decide +kernel
theorem dX4_setDeputy_48 : decode cX4_setDeputy 48 = .ok (.iastore, 1) := by decide +kernel
theorem dX4_setDeputy_49 : decode cX4_setDeputy 49 = .ok (.iload_n 3, 1) := by decide +kernel
theorem dX4_setDeputy_50 : decode cX4_setDeputy 50 = .ok (.ireturn, 1) := by decide +kernel
set_option maxRecDepth 20000 in
theorem ggX4_open_X4_can : GoodIn wsX4_open wsX4_can := goodIn_r _ [7, 8, 9, 10, 11, 12, 13, 14, 15, 16, 17, 18, 19, 20, 21, 22, 23, 24, 25, 26, 27, 28, 29, 30, 31, 32, 33, 34, 35, 36, 37, 38, 39] (by decide +kernel) (by decide +kernel)
set_option maxRecDepth 20000 in
theorem gX4_open_X4_can : GoodIn wsX4_open (wsV RX4 107 RX4 yX4_can wsX4_can) := goodIn_app (goodIn_of _ (by decide +kernel)) ggX4_open_X4_can
theorem dX4_open_0 : decode cX4_open 0 = .ok (.aload_n 0, 1) := by decide +kernel
theorem dX4_open_1 : decode cX4_open 1 = .ok (.aload_n 0, 1) := by decide +kernel
theorem dX4_open_2 : decode cX4_open 2 = .ok (.getfield 100, 3) := by decide +kernel
theorem dX4_open_5 : decode cX4_open 5 = .ok (.bipush 8, 2) := by decide +kernel
theorem dX4_open_7 : decode cX4_open 7 = .ok (.if_icmp .ne 7, 3) := by decide +kernel
theorem dX4_open_10 : decode cX4_open 10 = .ok (.iconst 1, 1) := by decide +kernel
theorem dX4_open_11 : decode cX4_open 11 = .ok (.goto 4, 3) := by decide +kernel
theorem dX4_open_14 : decode cX4_open 14 = .ok (.iconst 0, 1) := by decide +kernel
theorem dX4_open_15 : decode cX4_open 15 = .ok (.invokevirtual 107, 3) := by decide +kernel
theorem dX4_open_18 : decode cX4_open 18 = .ok (.ifCond .ne 5, 3) := by decide +kernel
theorem dX4_open_21 : decode cX4_open 21 = .ok (.iconst 0, 1) := by decide +kernel
theorem dX4_open_22 : decode cX4_open 22 = .ok (.ireturn, 1) := by decide +kernel
theorem dX4_open_23 : decode cX4_open 23 = .ok (.aload_n 0, 1) := by decide +kernel
theorem dX4_open_24 : decode cX4_open 24 = .ok (.getfield 24, 3) := by decide +kernel
theorem dX4_open_27 : decode cX4_open 27 = .ok (.aload_n 0, 1) := by decide +kernel
theorem dX4_open_28 : decode cX4_open 28 = .ok (.getfield 100, 3) := by decide +kernel
theorem dX4_open_31 : decode cX4_open 31 = .ok (.iload_n 1, 1) := by decide +kernel
theorem dX4_open_32 : decode cX4_open 32 = .ok (.bastore, 1) := by decide +kernel
theorem dX4_open_33 : decode cX4_open 33 = .ok (.aload_n 0, 1) := by decide +kernel
theorem dX4_open_34 : decode cX4_open 34 = .ok (.dup, 1) := by decide +kernel
theorem dX4_open_35 : decode cX4_open 35 = .ok (.getfield 100, 3) := by decide +kernel
theorem dX4_open_38 : decode cX4_open 38 = .ok (.iconst 1, 1) := by decide +kernel
theorem dX4_open_39 : decode cX4_open 39 = .ok (.iadd, 1) := by decide +kernel
theorem dX4_open_40 : decode cX4_open 40 = .ok (.putfield 100, 3) := by decide +kernel
theorem dX4_open_43 : decode cX4_open 43 = .ok (.aload_n 0, 1) := by decide +kernel
theorem dX4_open_44 : decode cX4_open 44 = .ok (.getfield 100, 3) := by decide +kernel
theorem dX4_open_47 : decode cX4_open 47 = .ok (.iconst 1, 1) := by decide +kernel
theorem dX4_open_48 : decode cX4_open 48 = .ok (.isub, 1) := by decide +kernel
theorem dX4_open_49 : decode cX4_open 49 = .ok (.ireturn, 1) := by decide +kernel
set_option maxRecDepth 20000 in
theorem ggX4_hang_X4_isPaper : GoodIn wsX4_hang wsX4_isPaper := goodIn_r _ [7, 2, 8, 9, 6, 10, 16, 17, 18, 19, 20, 21, 22, 23, 24, 25, 26, 27, 28, 29, 30, 31, 32, 33, 34, 35, 36, 37, 38, 39, 40, 41, 42, 43, 44, 45, 46] (by decide +kernel) (by decide +kernel)
set_option maxRecDepth 20000 in
theorem gX4_hang_X4_isPaper : GoodIn wsX4_hang (wsV RX4 110 RX4 yX4_isPaper wsX4_isPaper) := goodIn_app (goodIn_of _ (by decide +kernel)) ggX4_hang_X4_isPaper
set_option maxRecDepth 20000 in
theorem ggX4_hang_X4_can : GoodIn wsX4_hang wsX4_can := goodIn_r _ [14, 15, 16, 17, 18, 19, 20, 21, 22, 23, 24, 25, 26, 27, 28, 29, 30, 31, 32, 33, 34, 35, 36, 37, 38, 39, 40, 41, 42, 43, 44, 45, 46] (by decide +kernel) (by decide +kernel)
set_option maxRecDepth 20000 in
theorem gX4_hang_X4_can : GoodIn wsX4_hang (wsV RX4 107 RX4 yX4_can wsX4_can) := goodIn_app (goodIn_of _ (by decide +kernel)) ggX4_hang_X4_can
theorem dX4_hang_0 : decode cX4_hang 0 = .ok (.aload_n 0, 1) := by decide +kernel
theorem dX4_hang_1 : decode cX4_hang 1 = .ok (.aload_n 0, 1) := by decide +kernel
theorem dX4_hang_2 : decode cX4_hang 2 = .ok (.iload_n 1, 1) := by decide +kernel
theorem dX4_hang_3 : decode cX4_hang 3 = .ok (.invokevirtual 110, 3) := by decide +kernel
theorem dX4_hang_6 : decode cX4_hang 6 = .ok (.ifCond .eq 11, 3) := by decide +kernel
theorem dX4_hang_9 : decode cX4_hang 9 = .ok (.aload_n 0, 1) := by decide +kernel
theorem dX4_hang_10 : decode cX4_hang 10 = .ok (.iload_n 2, 1) := by decide +kernel
theorem dX4_hang_11 : decode cX4_hang 11 = .ok (.invokevirtual 110, 3) := by decide +kernel
theorem dX4_hang_14 : decode cX4_hang 14 = .ok (.ifCond .ne 7, 3) := by decide +kernel
theorem dX4_hang_17 : decode cX4_hang 17 = .ok (.iconst 1, 1) := by decide +kernel
theorem dX4_hang_18 : decode cX4_hang 18 = .ok (.goto 13, 3) := by decide +kernel
theorem dX4_hang_21 : decode cX4_hang 21 = .ok (.iload_n 1, 1) := by decide +kernel
theorem dX4_hang_22 : decode cX4_hang 22 = .ok (.iload_n 2, 1) := by decide +kernel
theorem dX4_hang_23 : decode cX4_hang 23 = .ok (.if_icmp .ne 7, 3) := by decide +kernel
theorem dX4_hang_26 : decode cX4_hang 26 = .ok (.iconst 2, 1) := by decide +kernel
theorem dX4_hang_27 : decode cX4_hang 27 = .ok (.goto 4, 3) := by decide +kernel
theorem dX4_hang_30 : decode cX4_hang 30 = .ok (.iconst 0, 1) := by decide +kernel
theorem dX4_hang_31 : decode cX4_hang 31 = .ok (.invokevirtual 107, 3) := by decide +kernel
theorem dX4_hang_34 : decode cX4_hang 34 = .ok (.ifCond .ne 5, 3) := by decide +kernel
theorem dX4_hang_37 : decode cX4_hang 37 = .ok (.iconst 0, 1) := by decide +kernel
theorem dX4_hang_38 : decode cX4_hang 38 = .ok (.ireturn, 1) := by decide +kernel
theorem dX4_hang_39 : decode cX4_hang 39 = .ok (.aload_n 0, 1) := by decide +kernel
theorem dX4_hang_40 : decode cX4_hang 40 = .ok (.getfield 27, 3) := by decide +kernel
theorem dX4_hang_43 : decode cX4_hang 43 = .ok (.bipush 8, 2) := by decide +kernel
theorem dX4_hang_45 : decode cX4_hang 45 = .ok (.iload_n 1, 1) := by decide +kernel
theorem dX4_hang_46 : decode cX4_hang 46 = .ok (.imul, 1) := by decide +kernel
theorem dX4_hang_47 : decode cX4_hang 47 = .ok (.iload_n 2, 1) := by decide +kernel
theorem dX4_hang_48 : decode cX4_hang 48 = .ok (.iadd, 1) := by decide +kernel
theorem dX4_hang_49 : decode cX4_hang 49 = .ok (.iconst 1, 1) := by decide +kernel
theorem dX4_hang_50 : decode cX4_hang 50 = .ok (.bastore, 1) := by decide +kernel
theorem dX4_hang_51 : decode cX4_hang 51 = .ok (.iconst 0, 1) := by decide +kernel
theorem dX4_hang_52 : decode cX4_hang 52 = .ok (.istore_n 3, 1) := by decide +kernel
theorem dX4_hang_53 : decode cX4_hang 53 = .ok (.iconst 0, 1) := by decide +kernel
theorem dX4_hang_54 : decode cX4_hang 54 = .ok (.istore 4, 2) := by decide +kernel
theorem dX4_hang_56 : decode cX4_hang 56 = .ok (.iload 4, 2) := by decide +kernel
theorem dX4_hang_58 : decode cX4_hang 58 = .ok (.aload_n 0, 1) := by decide +kernel
theorem dX4_hang_59 : decode cX4_hang 59 = .ok (.getfield 100, 3) := by decide +kernel
theorem dX4_hang_62 : decode cX4_hang 62 = .ok (.if_icmp .ge 32, 3) := by decide +kernel
theorem dX4_hang_65 : decode cX4_hang 65 = .ok (.iload_n 3, 1) := by decide +kernel
theorem dX4_hang_66 : decode cX4_hang 66 = .ok (.aload_n 0, 1) := by decide +kernel
theorem dX4_hang_67 : decode cX4_hang 67 = .ok (.getfield 27, 3) := by decide +kernel
theorem dX4_hang_70 : decode cX4_hang 70 = .ok (.bipush 8, 2) := by decide +kernel
theorem dX4_hang_72 : decode cX4_hang 72 = .ok (.iload_n 1, 1) := by decide +kernel
theorem dX4_hang_73 : decode cX4_hang 73 = .ok (.imul, 1) := by decide +kernel
theorem dX4_hang_74 : decode cX4_hang 74 = .ok (.iload 4, 2) := by decide +kernel
theorem dX4_hang_76 : decode cX4_hang 76 = .ok (.iadd, 1) := by decide +kernel
theorem dX4_hang_77 : decode cX4_hang 77 = .ok (.baload, 1) := by decide +kernel
theorem dX4_hang_78 : decode cX4_hang 78 = .ok (.ifCond .eq 7, 3) := by decide +kernel
theorem dX4_hang_81 : decode cX4_hang 81 = .ok (.iconst 1, 1) := by decide +kernel
theorem dX4_hang_82 : decode cX4_hang 82 = .ok (.goto 4, 3) := by decide +kernel
theorem dX4_hang_85 : decode cX4_hang 85 = .ok (.iconst 0, 1) := by decide +kernel
theorem dX4_hang_86 : decode cX4_hang 86 = .ok (.iadd, 1) := by decide +kernel
theorem dX4_hang_87 : decode cX4_hang 87 = .ok (.istore_n 3, 1) := by decide +kernel
theorem dX4_hang_88 : decode cX4_hang 88 = .ok (.iinc 4 1, 3) := by decide +kernel
theorem dX4_hang_91 : decode cX4_hang 91 = .ok (.goto (-35), 3) := by decide +kernel
theorem dX4_hang_94 : decode cX4_hang 94 = .ok (.iload_n 3, 1) := by decide +kernel
theorem dX4_hang_95 : decode cX4_hang 95 = .ok (.ireturn, 1) := by decide +kernel
set_option maxRecDepth 20000 in
theorem ggX4_setInterval_X4_isIn : GoodIn wsX4_setInterval wsX4_isIn := goodIn_r _ [5] (by decide +kernel) (by decide +kernel)
set_option maxRecDepth 20000 in
theorem gX4_setInterval_X4_isIn : GoodIn wsX4_setInterval (va_wsS RX4 96 yX4_isIn wsX4_isIn) := goodIn_app (goodIn_of _ (by decide +kernel)) ggX4_setInterval_X4_isIn
set_option maxRecDepth 20000 in
theorem ggX4_setInterval_X4_can : GoodIn wsX4_setInterval wsX4_can := goodIn_r _ [9, 10, 11, 12, 13, 14, 15, 16, 17, 18, 19, 20, 21, 22, 23, 24, 25, 26, 27, 28, 29, 30, 31, 32, 33, 34, 35, 36, 37, 38, 39, 40, 41] (by decide +kernel) (by decide +kernel)
set_option maxRecDepth 20000 in
theorem gX4_setInterval_X4_can : GoodIn wsX4_setInterval (wsV RX4 107 RX4 yX4_can wsX4_can) := goodIn_app (goodIn_of _ (by decide +kernel)) ggX4_setInterval_X4_can
theorem dX4_setInterval_0 : decode cX4_setInterval 0 = .ok (.aload_n 0, 1) := by decide +kernel
theorem dX4_setInterval_1 : decode cX4_setInterval 1 = .ok (.iload_n 1, 1) := by decide +kernel
theorem dX4_setInterval_2 : decode cX4_setInterval 2 = .ok (.iconst 1, 1) := by decide +kernel
theorem dX4_setInterval_3 : decode cX4_setInterval 3 = .ok (.bipush 100, 2) := by decide +kernel
theorem dX4_setInterval_5 : decode cX4_setInterval 5 = .ok (.invokestatic 96, 3) := by decide +kernel
theorem dX4_setInterval_8 : decode cX4_setInterval 8 = .ok (.ifCond .eq 7, 3) := by decide +kernel
theorem dX4_setInterval_11 : decode cX4_setInterval 11 = .ok (.iconst 0, 1) := by decide +kernel
theorem dX4_setInterval_12 : decode cX4_setInterval 12 = .ok (.goto 4, 3) := by decide +kernel
theorem dX4_setInterval_15 : decode cX4_setInterval 15 = .ok (.iconst 1, 1) := by decide +kernel
theorem dX4_setInterval_16 : decode cX4_setInterval 16 = .ok (.invokevirtual 107, 3) := by decide +kernel
theorem dX4_setInterval_19 : decode cX4_setInterval 19 = .ok (.ifCond .ne 5, 3) := by decide +kernel
theorem dX4_setInterval_22 : decode cX4_setInterval 22 = .ok (.iconst 0, 1) := by decide +kernel
theorem dX4_setInterval_23 : decode cX4_setInterval 23 = .ok (.ireturn, 1) := by decide +kernel
theorem dX4_setInterval_24 : decode cX4_setInterval 24 = .ok (.aload_n 0, 1) := by decide +kernel
theorem dX4_setInterval_25 : decode cX4_setInterval 25 = .ok (.getfield 7, 3) := by decide +kernel
theorem dX4_setInterval_28 : decode cX4_setInterval 28 = .ok (.istore_n 2, 1) := by decide +kernel
theorem dX4_setInterval_29 : decode cX4_setInterval 29 = .ok (.aload_n 0, 1) := by decide +kernel
theorem dX4_setInterval_30 : decode cX4_setInterval 30 = .ok (.iload_n 1, 1) := by decide +kernel
theorem dX4_setInterval_31 : decode cX4_setInterval 31 = .ok (.putfield 7, 3) := by decide +kernel
theorem dX4_setInterval_34 : decode cX4_setInterval 34 = .ok (.iload_n 2, 1) := by decide +kernel
theorem dX4_setInterval_35 : decode cX4_setInterval 35 = .ok (.ireturn, 1) := by decide +kernel
theorem dX4_beginsRound_0 : decode cX4_beginsRound 0 = .ok (.iconst 4, 1) := by decide +kernel
theorem dX4_beginsRound_1 : decode cX4_beginsRound 1 = .ok (.iload_n 1, 1) := by decide +kernel
theorem dX4_beginsRound_2 : decode cX4_beginsRound 2 = .ok (.imul, 1) := by decide +kernel
theorem dX4_beginsRound_3 : decode cX4_beginsRound 3 = .ok (.istore_n 2, 1) := by decide +kernel
theorem dX4_beginsRound_4 : decode cX4_beginsRound 4 = .ok (.iload_n 2, 1) := by decide +kernel
theorem dX4_beginsRound_5 : decode cX4_beginsRound 5 = .ok (.iconst 4, 1) := by decide +kernel
theorem dX4_beginsRound_6 : decode cX4_beginsRound 6 = .ok (.iload_n 1, 1) := by decide +kernel
theorem dX4_beginsRound_7 : decode cX4_beginsRound 7 = .ok (.imul, 1) := by decide +kernel
theorem dX4_beginsRound_8 : decode cX4_beginsRound 8 = .ok (.iconst 4, 1) := by decide +kernel
theorem dX4_beginsRound_9 : decode cX4_beginsRound 9 = .ok (.iadd, 1) := by decide +kernel
theorem dX4_beginsRound_10 : decode cX4_beginsRound 10 = .ok (.if_icmp .ge 23, 3) := by decide +kernel
theorem dX4_beginsRound_13 : decode cX4_beginsRound 13 = .ok (.aload_n 0, 1) := by decide +kernel
theorem dX4_beginsRound_14 : decode cX4_beginsRound 14 = .ok (.getfield 48, 3) := by decide +kernel
theorem dX4_beginsRound_17 : decode cX4_beginsRound 17 = .ok (.iload_n 2, 1) := by decide +kernel
theorem dX4_beginsRound_18 : decode cX4_beginsRound 18 = .ok (.iconst 0, 1) := by decide +kernel
theorem dX4_beginsRound_19 : decode cX4_beginsRound 19 = .ok (.bastore, 1) := by decide +kernel
theorem dX4_beginsRound_20 : decode cX4_beginsRound 20 = .ok (.aload_n 0, 1) := by decide +kernel
theorem dX4_beginsRound_21 : decode cX4_beginsRound 21 = .ok (.getfield 54, 3) := by decide +kernel
theorem dX4_beginsRound_24 : decode cX4_beginsRound 24 = .ok (.iload_n 2, 1) := by decide +kernel
theorem dX4_beginsRound_25 : decode cX4_beginsRound 25 = .ok (.iconst 0, 1) := by decide +kernel
theorem dX4_beginsRound_26 : decode cX4_beginsRound 26 = .ok (.bastore, 1) := by decide +kernel
theorem dX4_beginsRound_27 : decode cX4_beginsRound 27 = .ok (.iinc 2 1, 3) := by decide +kernel
theorem dX4_beginsRound_30 : decode cX4_beginsRound 30 = .ok (.goto (-26), 3) := by decide +kernel
theorem dX4_beginsRound_33 : decode cX4_beginsRound 33 = .ok (.bipush 6, 2) := by decide +kernel
theorem dX4_beginsRound_35 : decode cX4_beginsRound 35 = .ok (.iload_n 1, 1) := by decide +kernel
theorem dX4_beginsRound_36 : decode cX4_beginsRound 36 = .ok (.imul, 1) := by decide +kernel
theorem dX4_beginsRound_37 : decode cX4_beginsRound 37 = .ok (.istore_n 2, 1) := by decide +kernel
theorem dX4_beginsRound_38 : decode cX4_beginsRound 38 = .ok (.iload_n 2, 1) := by decide +kernel
theorem dX4_beginsRound_39 : decode cX4_beginsRound 39 = .ok (.bipush 6, 2) := by decide +kernel
theorem dX4_beginsRound_41 : decode cX4_beginsRound 41 = .ok (.iload_n 1, 1) := by decide +kernel
theorem dX4_beginsRound_42 : decode cX4_beginsRound 42 = .ok (.imul, 1) := by decide +kernel
theorem dX4_beginsRound_43 : decode cX4_beginsRound 43 = .ok (.bipush 6, 2) := by decide +kernel
theorem dX4_beginsRound_45 : decode cX4_beginsRound 45 = .ok (.iadd, 1) := by decide +kernel
theorem dX4_beginsRound_46 : decode cX4_beginsRound 46 = .ok (.if_icmp .ge 16, 3) := by decide +kernel
theorem dX4_beginsRound_49 : decode cX4_beginsRound 49 = .ok (.aload_n 0, 1) := by decide +kernel
theorem dX4_beginsRound_50 : decode cX4_beginsRound 50 = .ok (.getfield 66, 3) := by decide +kernel
theorem dX4_beginsRound_53 : decode cX4_beginsRound 53 = .ok (.iload_n 2, 1) := by decide +kernel
theorem dX4_beginsRound_54 : decode cX4_beginsRound 54 = .ok (.iconst 0, 1) := by decide +kernel
theorem dX4_beginsRound_55 : decode cX4_beginsRound 55 = .ok (.bastore, 1) := by decide +kernel
theorem dX4_beginsRound_56 : decode cX4_beginsRound 56 = .ok (.iinc 2 1, 3) := by decide +kernel
theorem dX4_beginsRound_59 : decode cX4_beginsRound 59 = .ok (.goto (-21), 3) := by decide +kernel
theorem dX4_beginsRound_62 : decode cX4_beginsRound 62 = .ok (.aload_n 0, 1) := by decide +kernel
theorem dX4_beginsRound_63 : decode cX4_beginsRound 63 = .ok (.getfield 51, 3) := by decide +kernel
theorem dX4_beginsRound_66 : decode cX4_beginsRound 66 = .ok (.iload_n 1, 1) := by decide +kernel
theorem dX4_beginsRound_67 : decode cX4_beginsRound 67 = .ok (.iconst 0, 1) := by decide +kernel
theorem dX4_beginsRound_68 : decode cX4_beginsRound 68 = .ok (.iastore, 1) := by decide +kernel
theorem dX4_beginsRound_69 : decode cX4_beginsRound 69 = .ok (.aload_n 0, 1) := by decide +kernel
theorem dX4_beginsRound_70 : decode cX4_beginsRound 70 = .ok (.getfield 57, 3) := by decide +kernel
theorem dX4_beginsRound_73 : decode cX4_beginsRound 73 = .ok (.iload_n 1, 1) := by decide +kernel
theorem dX4_beginsRound_74 : decode cX4_beginsRound 74 = .ok (.iconst 0, 1) := by decide +kernel
theorem dX4_beginsRound_75 : decode cX4_beginsRound 75 = .ok (.bastore, 1) := by decide +kernel
theorem dX4_beginsRound_76 : decode cX4_beginsRound 76 = .ok (.return_, 1) := by decide +kernel
set_option maxRecDepth 20000 in
theorem ggX4_draft_X4_isPerson : GoodIn wsX4_draft wsX4_isPerson := goodIn_r _ [10, 11, 12, 9, 13] (by decide +kernel) (by decide +kernel)
set_option maxRecDepth 20000 in
theorem gX4_draft_X4_isPerson : GoodIn wsX4_draft (va_wsS RX4 103 yX4_isPerson wsX4_isPerson) := goodIn_app (goodIn_of _ (by decide +kernel)) ggX4_draft_X4_isPerson
set_option maxRecDepth 20000 in
theorem ggX4_draft_X4_isIn : GoodIn wsX4_draft wsX4_isIn := goodIn_r _ [13] (by decide +kernel) (by decide +kernel)
set_option maxRecDepth 20000 in
theorem gX4_draft_X4_isIn : GoodIn wsX4_draft (va_wsS RX4 96 yX4_isIn wsX4_isIn) := goodIn_app (goodIn_of _ (by decide +kernel)) ggX4_draft_X4_isIn
set_option maxRecDepth 20000 in
theorem ggX4_draft_X4_isPaper : GoodIn wsX4_draft wsX4_isPaper := goodIn_r _ [17, 18, 11, 12, 9, 13, 33, 34, 35, 36, 37, 38, 39, 40, 41, 42, 43, 44, 45, 46, 47, 48, 49, 50, 51, 52, 53, 54, 55, 56, 57, 58, 59, 60, 61, 62, 63] (by decide +kernel) (by decide +kernel)
set_option maxRecDepth 20000 in
theorem gX4_draft_X4_isPaper : GoodIn wsX4_draft (wsV RX4 110 RX4 yX4_isPaper wsX4_isPaper) := goodIn_app (goodIn_of _ (by decide +kernel)) ggX4_draft_X4_isPaper
set_option maxRecDepth 20000 in
theorem ggX4_draft_X4_can : GoodIn wsX4_draft wsX4_can := goodIn_r _ [22, 23, 33, 34, 35, 36, 37, 38, 39, 40, 41, 42, 43, 44, 45, 46, 47, 48, 49, 50, 51, 52, 53, 54, 55, 56, 57, 58, 59, 60, 61, 62, 63] (by decide +kernel) (by decide +kernel)
set_option maxRecDepth 20000 in
theorem gX4_draft_X4_can : GoodIn wsX4_draft (wsV RX4 107 RX4 yX4_can wsX4_can) := goodIn_app (goodIn_of _ (by decide +kernel)) ggX4_draft_X4_can
set_option maxRecDepth 20000 in
theorem ggX4_draft_X4_beginsRound : GoodIn wsX4_draft wsX4_beginsRound := goodIn_r _ [27, 28, 29, 30, 31, 32, 33, 34, 35, 36, 37, 38, 39, 40, 41, 42, 43, 44, 45, 46, 47, 48, 49, 50, 51, 52, 53, 54, 55, 56, 57, 58, 59, 60, 61, 62, 63] (by decide +kernel) (by decide +kernel)
set_option maxRecDepth 20000 in
theorem gX4_draft_X4_beginsRound : GoodIn wsX4_draft (wsV RX4 113 RX4 yX4_beginsRound wsX4_beginsRound) := goodIn_app (goodIn_of _ (by decide +kernel)) ggX4_draft_X4_beginsRound
theorem dX4_draft_0 : decode cX4_draft 0 = .ok (.iload_n 2, 1) := by decide +kernel
theorem dX4_draft_1 : decode cX4_draft 1 = .ok (.invokestatic 103, 3) := by decide +kernel
theorem dX4_draft_4 : decode cX4_draft 4 = .ok (.ifCond .eq 18, 3) := by decide +kernel
theorem dX4_draft_7 : decode cX4_draft 7 = .ok (.iload_n 3, 1) := by decide +kernel
theorem dX4_draft_8 : decode cX4_draft 8 = .ok (.iconst 0, 1) := by decide +kernel
theorem dX4_draft_9 : decode cX4_draft 9 = .ok (.sipush 9999, 3) := by decide +kernel
theorem dX4_draft_12 : decode cX4_draft 12 = .ok (.invokestatic 96, 3) := by decide +kernel
theorem dX4_draft_15 : decode cX4_draft 15 = .ok (.ifCond .eq 7, 3) := by decide +kernel
theorem dX4_draft_18 : decode cX4_draft 18 = .ok (.iconst 1, 1) := by decide +kernel
theorem dX4_draft_19 : decode cX4_draft 19 = .ok (.goto 4, 3) := by decide +kernel
theorem dX4_draft_22 : decode cX4_draft 22 = .ok (.iconst 0, 1) := by decide +kernel
theorem dX4_draft_23 : decode cX4_draft 23 = .ok (.istore 4, 2) := by decide +kernel
theorem dX4_draft_25 : decode cX4_draft 25 = .ok (.aload_n 0, 1) := by decide +kernel
theorem dX4_draft_26 : decode cX4_draft 26 = .ok (.aload_n 0, 1) := by decide +kernel
theorem dX4_draft_27 : decode cX4_draft 27 = .ok (.iload_n 1, 1) := by decide +kernel
theorem dX4_draft_28 : decode cX4_draft 28 = .ok (.invokevirtual 110, 3) := by decide +kernel
theorem dX4_draft_31 : decode cX4_draft 31 = .ok (.ifCond .ne 7, 3) := by decide +kernel
theorem dX4_draft_34 : decode cX4_draft 34 = .ok (.iconst 1, 1) := by decide +kernel
theorem dX4_draft_35 : decode cX4_draft 35 = .ok (.goto 26, 3) := by decide +kernel
theorem dX4_draft_38 : decode cX4_draft 38 = .ok (.iload 4, 2) := by decide +kernel
theorem dX4_draft_40 : decode cX4_draft 40 = .ok (.ifCond .ne 7, 3) := by decide +kernel
theorem dX4_draft_43 : decode cX4_draft 43 = .ok (.iconst 2, 1) := by decide +kernel
theorem dX4_draft_44 : decode cX4_draft 44 = .ok (.goto 17, 3) := by decide +kernel
theorem dX4_draft_47 : decode cX4_draft 47 = .ok (.aload_n 0, 1) := by decide +kernel
theorem dX4_draft_48 : decode cX4_draft 48 = .ok (.getfield 30, 3) := by decide +kernel
theorem dX4_draft_51 : decode cX4_draft 51 = .ok (.iload_n 1, 1) := by decide +kernel
theorem dX4_draft_52 : decode cX4_draft 52 = .ok (.baload, 1) := by decide +kernel
theorem dX4_draft_53 : decode cX4_draft 53 = .ok (.ifCond .eq 7, 3) := by decide +kernel
theorem dX4_draft_56 : decode cX4_draft 56 = .ok (.iconst 3, 1) := by decide +kernel
theorem dX4_draft_57 : decode cX4_draft 57 = .ok (.goto 4, 3) := by decide +kernel
theorem dX4_draft_60 : decode cX4_draft 60 = .ok (.iconst 0, 1) := by decide +kernel
theorem dX4_draft_61 : decode cX4_draft 61 = .ok (.invokevirtual 107, 3) := by decide +kernel
theorem dX4_draft_64 : decode cX4_draft 64 = .ok (.ifCond .eq 75, 3) := by decide +kernel
theorem dX4_draft_67 : decode cX4_draft 67 = .ok (.aload_n 0, 1) := by decide +kernel
theorem dX4_draft_68 : decode cX4_draft 68 = .ok (.getfield 30, 3) := by decide +kernel
theorem dX4_draft_71 : decode cX4_draft 71 = .ok (.iload_n 1, 1) := by decide +kernel
theorem dX4_draft_72 : decode cX4_draft 72 = .ok (.iconst 1, 1) := by decide +kernel
theorem dX4_draft_73 : decode cX4_draft 73 = .ok (.bastore, 1) := by decide +kernel
theorem dX4_draft_74 : decode cX4_draft 74 = .ok (.aload_n 0, 1) := by decide +kernel
theorem dX4_draft_75 : decode cX4_draft 75 = .ok (.getfield 33, 3) := by decide +kernel
theorem dX4_draft_78 : decode cX4_draft 78 = .ok (.iload_n 1, 1) := by decide +kernel
theorem dX4_draft_79 : decode cX4_draft 79 = .ok (.iload_n 2, 1) := by decide +kernel
theorem dX4_draft_80 : decode cX4_draft 80 = .ok (.iastore, 1) := by decide +kernel
theorem dX4_draft_81 : decode cX4_draft 81 = .ok (.aload_n 0, 1) := by decide +kernel
theorem dX4_draft_82 : decode cX4_draft 82 = .ok (.getfield 36, 3) := by decide +kernel
theorem dX4_draft_85 : decode cX4_draft 85 = .ok (.iload_n 1, 1) := by decide +kernel
theorem dX4_draft_86 : decode cX4_draft 86 = .ok (.iload_n 3, 1) := by decide +kernel
theorem dX4_draft_87 : decode cX4_draft 87 = .ok (.iastore, 1) := by decide +kernel
theorem dX4_draft_88 : decode cX4_draft 88 = .ok (.aload_n 0, 1) := by decide +kernel
theorem dX4_draft_89 : decode cX4_draft 89 = .ok (.getfield 39, 3) := by decide +kernel
theorem dX4_draft_92 : decode cX4_draft 92 = .ok (.iload_n 1, 1) := by decide +kernel
theorem dX4_draft_93 : decode cX4_draft 93 = .ok (.iconst 1, 1) := by decide +kernel
theorem dX4_draft_94 : decode cX4_draft 94 = .ok (.iastore, 1) := by decide +kernel
theorem dX4_draft_95 : decode cX4_draft 95 = .ok (.aload_n 0, 1) := by decide +kernel
theorem dX4_draft_96 : decode cX4_draft 96 = .ok (.getfield 42, 3) := by decide +kernel
theorem dX4_draft_99 : decode cX4_draft 99 = .ok (.iload_n 1, 1) := by decide +kernel
theorem dX4_draft_100 : decode cX4_draft 100 = .ok (.iconst 0, 1) := by decide +kernel
theorem dX4_draft_101 : decode cX4_draft 101 = .ok (.iastore, 1) := by decide +kernel
theorem dX4_draft_102 : decode cX4_draft 102 = .ok (.bipush 6, 2) := by decide +kernel
theorem dX4_draft_104 : decode cX4_draft 104 = .ok (.iload_n 1, 1) := by decide +kernel
theorem dX4_draft_105 : decode cX4_draft 105 = .ok (.imul, 1) := by decide +kernel
theorem dX4_draft_106 : decode cX4_draft 106 = .ok (.istore 5, 2) := by decide +kernel
theorem dX4_draft_108 : decode cX4_draft 108 = .ok (.iload 5, 2) := by decide +kernel
theorem dX4_draft_110 : decode cX4_draft 110 = .ok (.bipush 6, 2) := by decide +kernel
theorem dX4_draft_112 : decode cX4_draft 112 = .ok (.iload_n 1, 1) := by decide +kernel
theorem dX4_draft_113 : decode cX4_draft 113 = .ok (.imul, 1) := by decide +kernel
theorem dX4_draft_114 : decode cX4_draft 114 = .ok (.bipush 6, 2) := by decide +kernel
theorem dX4_draft_116 : decode cX4_draft 116 = .ok (.iadd, 1) := by decide +kernel
theorem dX4_draft_117 : decode cX4_draft 117 = .ok (.if_icmp .ge 17, 3) := by decide +kernel
theorem dX4_draft_120 : decode cX4_draft 120 = .ok (.aload_n 0, 1) := by decide +kernel
theorem dX4_draft_121 : decode cX4_draft 121 = .ok (.getfield 63, 3) := by decide +kernel
theorem dX4_draft_124 : decode cX4_draft 124 = .ok (.iload 5, 2) := by decide +kernel
theorem dX4_draft_126 : decode cX4_draft 126 = .ok (.iconst 0, 1) := by decide +kernel
theorem dX4_draft_127 : decode cX4_draft 127 = .ok (.bastore, 1) := by decide +kernel
theorem dX4_draft_128 : decode cX4_draft 128 = .ok (.iinc 5 1, 3) := by decide +kernel
theorem dX4_draft_131 : decode cX4_draft 131 = .ok (.goto (-23), 3) := by decide +kernel
theorem dX4_draft_134 : decode cX4_draft 134 = .ok (.aload_n 0, 1) := by decide +kernel
theorem dX4_draft_135 : decode cX4_draft 135 = .ok (.iload_n 1, 1) := by decide +kernel
theorem dX4_draft_136 : decode cX4_draft 136 = .ok (.invokevirtual 113, 3) := by decide +kernel
theorem dX4_draft_139 : decode cX4_draft 139 = .ok (.return_, 1) := by decide +kernel
set_option maxRecDepth 20000 in
theorem ggX4_change_X4_isPaper : GoodIn wsX4_change wsX4_isPaper := goodIn_r _ [8, 9, 10, 11, 7, 12, 27, 28, 29, 30, 31, 32, 33, 34, 35, 36, 37, 38, 39, 40, 41, 42, 43, 44, 45, 46, 47, 48, 49, 50, 51, 52, 53, 54, 55, 56, 57] (by decide +kernel) (by decide +kernel)
set_option maxRecDepth 20000 in
theorem gX4_change_X4_isPaper : GoodIn wsX4_change (wsV RX4 110 RX4 yX4_isPaper wsX4_isPaper) := goodIn_app (goodIn_of _ (by decide +kernel)) ggX4_change_X4_isPaper
set_option maxRecDepth 20000 in
theorem ggX4_change_X4_isIn : GoodIn wsX4_change wsX4_isIn := goodIn_r _ [12] (by decide +kernel) (by decide +kernel)
set_option maxRecDepth 20000 in
theorem gX4_change_X4_isIn : GoodIn wsX4_change (va_wsS RX4 96 yX4_isIn wsX4_isIn) := goodIn_app (goodIn_of _ (by decide +kernel)) ggX4_change_X4_isIn
set_option maxRecDepth 20000 in
theorem ggX4_change_X4_can : GoodIn wsX4_change wsX4_can := goodIn_r _ [16, 17, 27, 28, 29, 30, 31, 32, 33, 34, 35, 36, 37, 38, 39, 40, 41, 42, 43, 44, 45, 46, 47, 48, 49, 50, 51, 52, 53, 54, 55, 56, 57] (by decide +kernel) (by decide +kernel)
set_option maxRecDepth 20000 in
theorem gX4_change_X4_can : GoodIn wsX4_change (wsV RX4 107 RX4 yX4_can wsX4_can) := goodIn_app (goodIn_of _ (by decide +kernel)) ggX4_change_X4_can
set_option maxRecDepth 20000 in
theorem ggX4_change_X4_beginsRound : GoodIn wsX4_change wsX4_beginsRound := goodIn_r _ [21, 22, 23, 24, 25, 26, 27, 28, 29, 30, 31, 32, 33, 34, 35, 36, 37, 38, 39, 40, 41, 42, 43, 44, 45, 46, 47, 48, 49, 50, 51, 52, 53, 54, 55, 56, 57] (by decide +kernel) (by decide +kernel)
set_option maxRecDepth 20000 in
theorem gX4_change_X4_beginsRound : GoodIn wsX4_change (wsV RX4 113 RX4 yX4_beginsRound wsX4_beginsRound) := goodIn_app (goodIn_of _ (by decide +kernel)) ggX4_change_X4_beginsRound
theorem dX4_change_0 : decode cX4_change 0 = .ok (.aload_n 0, 1) := by decide +kernel
theorem dX4_change_1 : decode cX4_change 1 = .ok (.aload_n 0, 1) := by decide +kernel
theorem dX4_change_2 : decode cX4_change 2 = .ok (.iload_n 1, 1) := by decide +kernel
theorem dX4_change_3 : decode cX4_change 3 = .ok (.invokevirtual 110, 3) := by decide +kernel
theorem dX4_change_6 : decode cX4_change 6 = .ok (.ifCond .ne 7, 3) := by decide +kernel
theorem dX4_change_9 : decode cX4_change 9 = .ok (.iconst 1, 1) := by decide +kernel
theorem dX4_change_10 : decode cX4_change 10 = .ok (.goto 42, 3) := by decide +kernel
theorem dX4_change_13 : decode cX4_change 13 = .ok (.iload_n 2, 1) := by decide +kernel
theorem dX4_change_14 : decode cX4_change 14 = .ok (.iconst 0, 1) := by decide +kernel
theorem dX4_change_15 : decode cX4_change 15 = .ok (.sipush 9999, 3) := by decide +kernel
theorem dX4_change_18 : decode cX4_change 18 = .ok (.invokestatic 96, 3) := by decide +kernel
theorem dX4_change_21 : decode cX4_change 21 = .ok (.ifCond .ne 7, 3) := by decide +kernel
theorem dX4_change_24 : decode cX4_change 24 = .ok (.iconst 2, 1) := by decide +kernel
theorem dX4_change_25 : decode cX4_change 25 = .ok (.goto 27, 3) := by decide +kernel
theorem dX4_change_28 : decode cX4_change 28 = .ok (.aload_n 0, 1) := by decide +kernel
theorem dX4_change_29 : decode cX4_change 29 = .ok (.getfield 30, 3) := by decide +kernel
theorem dX4_change_32 : decode cX4_change 32 = .ok (.iload_n 1, 1) := by decide +kernel
theorem dX4_change_33 : decode cX4_change 33 = .ok (.baload, 1) := by decide +kernel
theorem dX4_change_34 : decode cX4_change 34 = .ok (.ifCond .eq 13, 3) := by decide +kernel
theorem dX4_change_37 : decode cX4_change 37 = .ok (.aload_n 0, 1) := by decide +kernel
theorem dX4_change_38 : decode cX4_change 38 = .ok (.getfield 36, 3) := by decide +kernel
theorem dX4_change_41 : decode cX4_change 41 = .ok (.iload_n 1, 1) := by decide +kernel
theorem dX4_change_42 : decode cX4_change 42 = .ok (.iaload, 1) := by decide +kernel
theorem dX4_change_43 : decode cX4_change 43 = .ok (.iload_n 2, 1) := by decide +kernel
theorem dX4_change_44 : decode cX4_change 44 = .ok (.if_icmp .ne 7, 3) := by decide +kernel
theorem dX4_change_47 : decode cX4_change 47 = .ok (.iconst 3, 1) := by decide +kernel
theorem dX4_change_48 : decode cX4_change 48 = .ok (.goto 4, 3) := by decide +kernel
theorem dX4_change_51 : decode cX4_change 51 = .ok (.iconst 0, 1) := by decide +kernel
theorem dX4_change_52 : decode cX4_change 52 = .ok (.invokevirtual 107, 3) := by decide +kernel
theorem dX4_change_55 : decode cX4_change 55 = .ok (.ifCond .ne 5, 3) := by decide +kernel
theorem dX4_change_58 : decode cX4_change 58 = .ok (.iconst 0, 1) := by decide +kernel
theorem dX4_change_59 : decode cX4_change 59 = .ok (.ireturn, 1) := by decide +kernel
theorem dX4_change_60 : decode cX4_change 60 = .ok (.aload_n 0, 1) := by decide +kernel
theorem dX4_change_61 : decode cX4_change 61 = .ok (.getfield 36, 3) := by decide +kernel
theorem dX4_change_64 : decode cX4_change 64 = .ok (.iload_n 1, 1) := by decide +kernel
theorem dX4_change_65 : decode cX4_change 65 = .ok (.iload_n 2, 1) := by decide +kernel
theorem dX4_change_66 : decode cX4_change 66 = .ok (.iastore, 1) := by decide +kernel
theorem dX4_change_67 : decode cX4_change 67 = .ok (.aload_n 0, 1) := by decide +kernel
theorem dX4_change_68 : decode cX4_change 68 = .ok (.getfield 39, 3) := by decide +kernel
theorem dX4_change_71 : decode cX4_change 71 = .ok (.iload_n 1, 1) := by decide +kernel
theorem dX4_change_72 : decode cX4_change 72 = .ok (.dup2, 1) := by decide +kernel
theorem dX4_change_73 : decode cX4_change 73 = .ok (.iaload, 1) := by decide +kernel
theorem dX4_change_74 : decode cX4_change 74 = .ok (.iconst 1, 1) := by decide +kernel
theorem dX4_change_75 : decode cX4_change 75 = .ok (.iadd, 1) := by decide +kernel
theorem dX4_change_76 : decode cX4_change 76 = .ok (.iastore, 1) := by decide +kernel
theorem dX4_change_77 : decode cX4_change 77 = .ok (.aload_n 0, 1) := by decide +kernel
theorem dX4_change_78 : decode cX4_change 78 = .ok (.iload_n 1, 1) := by decide +kernel
theorem dX4_change_79 : decode cX4_change 79 = .ok (.invokevirtual 113, 3) := by decide +kernel
theorem dX4_change_82 : decode cX4_change 82 = .ok (.aload_n 0, 1) := by decide +kernel
theorem dX4_change_83 : decode cX4_change 83 = .ok (.getfield 39, 3) := by decide +kernel
theorem dX4_change_86 : decode cX4_change 86 = .ok (.iload_n 1, 1) := by decide +kernel
theorem dX4_change_87 : decode cX4_change 87 = .ok (.iaload, 1) := by decide +kernel
theorem dX4_change_88 : decode cX4_change 88 = .ok (.ireturn, 1) := by decide +kernel
set_option maxRecDepth 20000 in
theorem ggX4_drop_X4_isPaper : GoodIn wsX4_drop wsX4_isPaper := goodIn_r _ [7, 8, 9, 10, 6, 11, 17, 18, 19, 20, 21, 22, 23, 24, 25, 26, 27, 28, 29, 30, 31, 32, 33, 34, 35, 36, 37, 38, 39, 40, 41, 42, 43, 44, 45, 46, 47] (by decide +kernel) (by decide +kernel)
set_option maxRecDepth 20000 in
theorem gX4_drop_X4_isPaper : GoodIn wsX4_drop (wsV RX4 110 RX4 yX4_isPaper wsX4_isPaper) := goodIn_app (goodIn_of _ (by decide +kernel)) ggX4_drop_X4_isPaper
set_option maxRecDepth 20000 in
theorem ggX4_drop_X4_can : GoodIn wsX4_drop wsX4_can := goodIn_r _ [15, 16, 17, 18, 19, 20, 21, 22, 23, 24, 25, 26, 27, 28, 29, 30, 31, 32, 33, 34, 35, 36, 37, 38, 39, 40, 41, 42, 43, 44, 45, 46, 47] (by decide +kernel) (by decide +kernel)
set_option maxRecDepth 20000 in
theorem gX4_drop_X4_can : GoodIn wsX4_drop (wsV RX4 107 RX4 yX4_can wsX4_can) := goodIn_app (goodIn_of _ (by decide +kernel)) ggX4_drop_X4_can
theorem dX4_drop_0 : decode cX4_drop 0 = .ok (.aload_n 0, 1) := by decide +kernel
theorem dX4_drop_1 : decode cX4_drop 1 = .ok (.aload_n 0, 1) := by decide +kernel
theorem dX4_drop_2 : decode cX4_drop 2 = .ok (.iload_n 1, 1) := by decide +kernel
theorem dX4_drop_3 : decode cX4_drop 3 = .ok (.invokevirtual 110, 3) := by decide +kernel
theorem dX4_drop_6 : decode cX4_drop 6 = .ok (.ifCond .ne 7, 3) := by decide +kernel
theorem dX4_drop_9 : decode cX4_drop 9 = .ok (.iconst 1, 1) := by decide +kernel
theorem dX4_drop_10 : decode cX4_drop 10 = .ok (.goto 17, 3) := by decide +kernel
theorem dX4_drop_13 : decode cX4_drop 13 = .ok (.aload_n 0, 1) := by decide +kernel
theorem dX4_drop_14 : decode cX4_drop 14 = .ok (.getfield 30, 3) := by decide +kernel
theorem dX4_drop_17 : decode cX4_drop 17 = .ok (.iload_n 1, 1) := by decide +kernel
theorem dX4_drop_18 : decode cX4_drop 18 = .ok (.baload, 1) := by decide +kernel
theorem dX4_drop_19 : decode cX4_drop 19 = .ok (.ifCond .eq 7, 3) := by decide +kernel
theorem dX4_drop_22 : decode cX4_drop 22 = .ok (.iconst 0, 1) := by decide +kernel
theorem dX4_drop_23 : decode cX4_drop 23 = .ok (.goto 4, 3) := by decide +kernel
theorem dX4_drop_26 : decode cX4_drop 26 = .ok (.iconst 2, 1) := by decide +kernel
theorem dX4_drop_27 : decode cX4_drop 27 = .ok (.invokevirtual 107, 3) := by decide +kernel
theorem dX4_drop_30 : decode cX4_drop 30 = .ok (.ifCond .ne 5, 3) := by decide +kernel
theorem dX4_drop_33 : decode cX4_drop 33 = .ok (.iconst 0, 1) := by decide +kernel
theorem dX4_drop_34 : decode cX4_drop 34 = .ok (.ireturn, 1) := by decide +kernel
theorem dX4_drop_35 : decode cX4_drop 35 = .ok (.aload_n 0, 1) := by decide +kernel
theorem dX4_drop_36 : decode cX4_drop 36 = .ok (.getfield 30, 3) := by decide +kernel
theorem dX4_drop_39 : decode cX4_drop 39 = .ok (.iload_n 1, 1) := by decide +kernel
theorem dX4_drop_40 : decode cX4_drop 40 = .ok (.iconst 0, 1) := by decide +kernel
theorem dX4_drop_41 : decode cX4_drop 41 = .ok (.bastore, 1) := by decide +kernel
theorem dX4_drop_42 : decode cX4_drop 42 = .ok (.aload_n 0, 1) := by decide +kernel
theorem dX4_drop_43 : decode cX4_drop 43 = .ok (.getfield 36, 3) := by decide +kernel
theorem dX4_drop_46 : decode cX4_drop 46 = .ok (.iload_n 1, 1) := by decide +kernel
theorem dX4_drop_47 : decode cX4_drop 47 = .ok (.iaload, 1) := by decide +kernel
theorem dX4_drop_48 : decode cX4_drop 48 = .ok (.ireturn, 1) := by decide +kernel
theorem dX4_placeOf_0 : decode cX4_placeOf 0 = .ok (.iconst (-1), 1) := by decide +kernel
theorem dX4_placeOf_1 : decode cX4_placeOf 1 = .ok (.istore_n 3, 1) := by decide +kernel
theorem dX4_placeOf_2 : decode cX4_placeOf 2 = .ok (.iconst 4, 1) := by decide +kernel
theorem dX4_placeOf_3 : decode cX4_placeOf 3 = .ok (.iload_n 1, 1) := by decide +kernel
theorem dX4_placeOf_4 : decode cX4_placeOf 4 = .ok (.imul, 1) := by decide +kernel
theorem dX4_placeOf_5 : decode cX4_placeOf 5 = .ok (.istore 4, 2) := by decide +kernel
theorem dX4_placeOf_7 : decode cX4_placeOf 7 = .ok (.iload 4, 2) := by decide +kernel
theorem dX4_placeOf_9 : decode cX4_placeOf 9 = .ok (.iconst 4, 1) := by decide +kernel
theorem dX4_placeOf_10 : decode cX4_placeOf 10 = .ok (.iload_n 1, 1) := by decide +kernel
theorem dX4_placeOf_11 : decode cX4_placeOf 11 = .ok (.imul, 1) := by decide +kernel
theorem dX4_placeOf_12 : decode cX4_placeOf 12 = .ok (.aload_n 0, 1) := by decide +kernel
theorem dX4_placeOf_13 : decode cX4_placeOf 13 = .ok (.getfield 42, 3) := by decide +kernel
theorem dX4_placeOf_16 : decode cX4_placeOf 16 = .ok (.iload_n 1, 1) := by decide +kernel
theorem dX4_placeOf_17 : decode cX4_placeOf 17 = .ok (.iaload, 1) := by decide +kernel
theorem dX4_placeOf_18 : decode cX4_placeOf 18 = .ok (.iadd, 1) := by decide +kernel
theorem dX4_placeOf_19 : decode cX4_placeOf 19 = .ok (.if_icmp .ge 27, 3) := by decide +kernel
theorem dX4_placeOf_22 : decode cX4_placeOf 22 = .ok (.aload_n 0, 1) := by decide +kernel
theorem dX4_placeOf_23 : decode cX4_placeOf 23 = .ok (.getfield 45, 3) := by decide +kernel
theorem dX4_placeOf_26 : decode cX4_placeOf 26 = .ok (.iload 4, 2) := by decide +kernel
theorem dX4_placeOf_28 : decode cX4_placeOf 28 = .ok (.iaload, 1) := by decide +kernel
theorem dX4_placeOf_29 : decode cX4_placeOf 29 = .ok (.iload_n 2, 1) := by decide +kernel
theorem dX4_placeOf_30 : decode cX4_placeOf 30 = .ok (.if_icmp .ne 8, 3) := by decide +kernel
theorem dX4_placeOf_33 : decode cX4_placeOf 33 = .ok (.iload 4, 2) := by decide +kernel
theorem dX4_placeOf_35 : decode cX4_placeOf 35 = .ok (.goto 4, 3) := by decide +kernel
theorem dX4_placeOf_38 : decode cX4_placeOf 38 = .ok (.iload_n 3, 1) := by decide +kernel
theorem dX4_placeOf_39 : decode cX4_placeOf 39 = .ok (.istore_n 3, 1) := by decide +kernel
theorem dX4_placeOf_40 : decode cX4_placeOf 40 = .ok (.iinc 4 1, 3) := by decide +kernel
theorem dX4_placeOf_43 : decode cX4_placeOf 43 = .ok (.goto (-36), 3) := by decide +kernel
theorem dX4_placeOf_46 : decode cX4_placeOf 46 = .ok (.iload_n 3, 1) := by decide +kernel
theorem dX4_placeOf_47 : decode cX4_placeOf 47 = .ok (.ireturn, 1) := by decide +kernel
set_option maxRecDepth 20000 in
theorem ggX4_reviewer_X4_isPaper : GoodIn wsX4_reviewer wsX4_isPaper := goodIn_r _ [12, 13, 14, 15, 11, 16, 29, 30, 31, 32, 33, 34, 35, 36, 37, 38, 39, 40, 41, 42, 43, 44, 45, 46, 47, 48, 49, 50, 51, 52, 53, 54, 55, 56, 57, 58, 59] (by decide +kernel) (by decide +kernel)
set_option maxRecDepth 20000 in
theorem gX4_reviewer_X4_isPaper : GoodIn wsX4_reviewer (wsV RX4 110 RX4 yX4_isPaper wsX4_isPaper) := goodIn_app (goodIn_of _ (by decide +kernel)) ggX4_reviewer_X4_isPaper
set_option maxRecDepth 20000 in
theorem ggX4_reviewer_X4_isPerson : GoodIn wsX4_reviewer wsX4_isPerson := goodIn_r _ [19, 14, 15, 11, 16] (by decide +kernel) (by decide +kernel)
set_option maxRecDepth 20000 in
theorem gX4_reviewer_X4_isPerson : GoodIn wsX4_reviewer (va_wsS RX4 103 yX4_isPerson wsX4_isPerson) := goodIn_app (goodIn_of _ (by decide +kernel)) ggX4_reviewer_X4_isPerson
set_option maxRecDepth 20000 in
theorem ggX4_reviewer_X4_placeOf : GoodIn wsX4_reviewer wsX4_placeOf := goodIn_r _ [23, 5, 6, 29, 30, 31, 32, 33, 34, 35, 36, 37, 38, 39, 40, 41, 42, 43, 44, 45, 46, 47, 48, 49, 50, 51, 52, 53, 54, 55, 56, 57, 58, 59] (by decide +kernel) (by decide +kernel)
set_option maxRecDepth 20000 in
theorem gX4_reviewer_X4_placeOf : GoodIn wsX4_reviewer (wsV RX4 117 RX4 yX4_placeOf wsX4_placeOf) := goodIn_app (goodIn_of _ (by decide +kernel)) ggX4_reviewer_X4_placeOf
set_option maxRecDepth 20000 in
theorem ggX4_reviewer_X4_can : GoodIn wsX4_reviewer wsX4_can := goodIn_r _ [27, 28, 29, 30, 31, 32, 33, 34, 35, 36, 37, 38, 39, 40, 41, 42, 43, 44, 45, 46, 47, 48, 49, 50, 51, 52, 53, 54, 55, 56, 57, 58, 59] (by decide +kernel) (by decide +kernel)
set_option maxRecDepth 20000 in
theorem gX4_reviewer_X4_can : GoodIn wsX4_reviewer (wsV RX4 107 RX4 yX4_can wsX4_can) := goodIn_app (goodIn_of _ (by decide +kernel)) ggX4_reviewer_X4_can
theorem dX4_reviewer_0 : decode cX4_reviewer 0 = .ok (.aload_n 0, 1) := by decide +kernel
theorem dX4_reviewer_1 : decode cX4_reviewer 1 = .ok (.iload_n 1, 1) := by decide +kernel
theorem dX4_reviewer_2 : decode cX4_reviewer 2 = .ok (.invokevirtual 110, 3) := by decide +kernel
theorem dX4_reviewer_5 : decode cX4_reviewer 5 = .ok (.istore_n 3, 1) := by decide +kernel
theorem dX4_reviewer_6 : decode cX4_reviewer 6 = .ok (.iload_n 2, 1) := by decide +kernel
theorem dX4_reviewer_7 : decode cX4_reviewer 7 = .ok (.invokestatic 103, 3) := by decide +kernel
theorem dX4_reviewer_10 : decode cX4_reviewer 10 = .ok (.istore 4, 2) := by decide +kernel
theorem dX4_reviewer_12 : decode cX4_reviewer 12 = .ok (.iload_n 3, 1) := by decide +kernel
theorem dX4_reviewer_13 : decode cX4_reviewer 13 = .ok (.ifCond .eq 69, 3) := by decide +kernel
theorem dX4_reviewer_16 : decode cX4_reviewer 16 = .ok (.iload 4, 2) := by decide +kernel
theorem dX4_reviewer_18 : decode cX4_reviewer 18 = .ok (.ifCond .eq 64, 3) := by decide +kernel
theorem dX4_reviewer_21 : decode cX4_reviewer 21 = .ok (.aload_n 0, 1) := by decide +kernel
theorem dX4_reviewer_22 : decode cX4_reviewer 22 = .ok (.getfield 30, 3) := by decide +kernel
theorem dX4_reviewer_25 : decode cX4_reviewer 25 = .ok (.iload_n 1, 1) := by decide +kernel
theorem dX4_reviewer_26 : decode cX4_reviewer 26 = .ok (.baload, 1) := by decide +kernel
theorem dX4_reviewer_27 : decode cX4_reviewer 27 = .ok (.ifCond .eq 55, 3) := by decide +kernel
theorem dX4_reviewer_30 : decode cX4_reviewer 30 = .ok (.aload_n 0, 1) := by decide +kernel
theorem dX4_reviewer_31 : decode cX4_reviewer 31 = .ok (.getfield 57, 3) := by decide +kernel
theorem dX4_reviewer_34 : decode cX4_reviewer 34 = .ok (.iload_n 1, 1) := by decide +kernel
theorem dX4_reviewer_35 : decode cX4_reviewer 35 = .ok (.baload, 1) := by decide +kernel
theorem dX4_reviewer_36 : decode cX4_reviewer 36 = .ok (.ifCond .ne 46, 3) := by decide +kernel
theorem dX4_reviewer_39 : decode cX4_reviewer 39 = .ok (.iload_n 2, 1) := by decide +kernel
theorem dX4_reviewer_40 : decode cX4_reviewer 40 = .ok (.aload_n 0, 1) := by decide +kernel
theorem dX4_reviewer_41 : decode cX4_reviewer 41 = .ok (.getfield 33, 3) := by decide +kernel
theorem dX4_reviewer_44 : decode cX4_reviewer 44 = .ok (.iload_n 1, 1) := by decide +kernel
theorem dX4_reviewer_45 : decode cX4_reviewer 45 = .ok (.iaload, 1) := by decide +kernel
theorem dX4_reviewer_46 : decode cX4_reviewer 46 = .ok (.if_icmp .eq 36, 3) := by decide +kernel
theorem dX4_reviewer_49 : decode cX4_reviewer 49 = .ok (.aload_n 0, 1) := by decide +kernel
theorem dX4_reviewer_50 : decode cX4_reviewer 50 = .ok (.getfield 13, 3) := by decide +kernel
theorem dX4_reviewer_53 : decode cX4_reviewer 53 = .ok (.iload_n 2, 1) := by decide +kernel
theorem dX4_reviewer_54 : decode cX4_reviewer 54 = .ok (.baload, 1) := by decide +kernel
theorem dX4_reviewer_55 : decode cX4_reviewer 55 = .ok (.ifCond .eq 27, 3) := by decide +kernel
theorem dX4_reviewer_58 : decode cX4_reviewer 58 = .ok (.aload_n 0, 1) := by decide +kernel
theorem dX4_reviewer_59 : decode cX4_reviewer 59 = .ok (.iload_n 1, 1) := by decide +kernel
theorem dX4_reviewer_60 : decode cX4_reviewer 60 = .ok (.iload_n 2, 1) := by decide +kernel
theorem dX4_reviewer_61 : decode cX4_reviewer 61 = .ok (.invokevirtual 117, 3) := by decide +kernel
theorem dX4_reviewer_64 : decode cX4_reviewer 64 = .ok (.iconst (-1), 1) := by decide +kernel
theorem dX4_reviewer_65 : decode cX4_reviewer 65 = .ok (.if_icmp .ne 17, 3) := by decide +kernel
theorem dX4_reviewer_68 : decode cX4_reviewer 68 = .ok (.aload_n 0, 1) := by decide +kernel
theorem dX4_reviewer_69 : decode cX4_reviewer 69 = .ok (.getfield 42, 3) := by decide +kernel
theorem dX4_reviewer_72 : decode cX4_reviewer 72 = .ok (.iload_n 1, 1) := by decide +kernel
theorem dX4_reviewer_73 : decode cX4_reviewer 73 = .ok (.iaload, 1) := by decide +kernel
theorem dX4_reviewer_74 : decode cX4_reviewer 74 = .ok (.iconst 4, 1) := by decide +kernel
theorem dX4_reviewer_75 : decode cX4_reviewer 75 = .ok (.if_icmp .ge 7, 3) := by decide +kernel
theorem dX4_reviewer_78 : decode cX4_reviewer 78 = .ok (.iconst 1, 1) := by decide +kernel
theorem dX4_reviewer_79 : decode cX4_reviewer 79 = .ok (.goto 4, 3) := by decide +kernel
theorem dX4_reviewer_82 : decode cX4_reviewer 82 = .ok (.iconst 0, 1) := by decide +kernel
theorem dX4_reviewer_83 : decode cX4_reviewer 83 = .ok (.istore 5, 2) := by decide +kernel
theorem dX4_reviewer_85 : decode cX4_reviewer 85 = .ok (.aload_n 0, 1) := by decide +kernel
theorem dX4_reviewer_86 : decode cX4_reviewer 86 = .ok (.iload_n 3, 1) := by decide +kernel
theorem dX4_reviewer_87 : decode cX4_reviewer 87 = .ok (.ifCond .ne 7, 3) := by decide +kernel
theorem dX4_reviewer_90 : decode cX4_reviewer 90 = .ok (.iconst 1, 1) := by decide +kernel
theorem dX4_reviewer_91 : decode cX4_reviewer 91 = .ok (.goto 22, 3) := by decide +kernel
theorem dX4_reviewer_94 : decode cX4_reviewer 94 = .ok (.iload 4, 2) := by decide +kernel
theorem dX4_reviewer_96 : decode cX4_reviewer 96 = .ok (.ifCond .ne 7, 3) := by decide +kernel
theorem dX4_reviewer_99 : decode cX4_reviewer 99 = .ok (.iconst 2, 1) := by decide +kernel
theorem dX4_reviewer_100 : decode cX4_reviewer 100 = .ok (.goto 13, 3) := by decide +kernel
theorem dX4_reviewer_103 : decode cX4_reviewer 103 = .ok (.iload 5, 2) := by decide +kernel
theorem dX4_reviewer_105 : decode cX4_reviewer 105 = .ok (.ifCond .eq 7, 3) := by decide +kernel
theorem dX4_reviewer_108 : decode cX4_reviewer 108 = .ok (.iconst 0, 1) := by decide +kernel
theorem dX4_reviewer_109 : decode cX4_reviewer 109 = .ok (.goto 4, 3) := by decide +kernel
theorem dX4_reviewer_112 : decode cX4_reviewer 112 = .ok (.iconst 3, 1) := by decide +kernel
theorem dX4_reviewer_113 : decode cX4_reviewer 113 = .ok (.invokevirtual 107, 3) := by decide +kernel
theorem dX4_reviewer_116 : decode cX4_reviewer 116 = .ok (.ifCond .ne 5, 3) := by decide +kernel
theorem dX4_reviewer_119 : decode cX4_reviewer 119 = .ok (.iconst 0, 1) := by decide +kernel
theorem dX4_reviewer_120 : decode cX4_reviewer 120 = .ok (.ireturn, 1) := by decide +kernel
theorem dX4_reviewer_121 : decode cX4_reviewer 121 = .ok (.aload_n 0, 1) := by decide +kernel
theorem dX4_reviewer_122 : decode cX4_reviewer 122 = .ok (.getfield 45, 3) := by decide +kernel
theorem dX4_reviewer_125 : decode cX4_reviewer 125 = .ok (.iconst 4, 1) := by decide +kernel
theorem dX4_reviewer_126 : decode cX4_reviewer 126 = .ok (.iload_n 1, 1) := by decide +kernel
theorem dX4_reviewer_127 : decode cX4_reviewer 127 = .ok (.imul, 1) := by decide +kernel
theorem dX4_reviewer_128 : decode cX4_reviewer 128 = .ok (.aload_n 0, 1) := by decide +kernel
theorem dX4_reviewer_129 : decode cX4_reviewer 129 = .ok (.getfield 42, 3) := by decide +kernel
theorem dX4_reviewer_132 : decode cX4_reviewer 132 = .ok (.iload_n 1, 1) := by decide +kernel
theorem dX4_reviewer_133 : decode cX4_reviewer 133 = .ok (.iaload, 1) := by decide +kernel
theorem dX4_reviewer_134 : decode cX4_reviewer 134 = .ok (.iadd, 1) := by decide +kernel
theorem dX4_reviewer_135 : decode cX4_reviewer 135 = .ok (.iload_n 2, 1) := by decide +kernel
theorem dX4_reviewer_136 : decode cX4_reviewer 136 = .ok (.iastore, 1) := by decide +kernel
theorem dX4_reviewer_137 : decode cX4_reviewer 137 = .ok (.aload_n 0, 1) := by decide +kernel
theorem dX4_reviewer_138 : decode cX4_reviewer 138 = .ok (.getfield 48, 3) := by decide +kernel
theorem dX4_reviewer_141 : decode cX4_reviewer 141 = .ok (.iconst 4, 1) := by decide +kernel
theorem dX4_reviewer_142 : decode cX4_reviewer 142 = .ok (.iload_n 1, 1) := by decide +kernel
theorem dX4_reviewer_143 : decode cX4_reviewer 143 = .ok (.imul, 1) := by decide +kernel
theorem dX4_reviewer_144 : decode cX4_reviewer 144 = .ok (.aload_n 0, 1) := by decide +kernel
theorem dX4_reviewer_145 : decode cX4_reviewer 145 = .ok (.getfield 42, 3) := by decide +kernel
theorem dX4_reviewer_148 : decode cX4_reviewer 148 = .ok (.iload_n 1, 1) := by decide +kernel
theorem dX4_reviewer_149 : decode cX4_reviewer 149 = .ok (.iaload, 1) := by decide +kernel
theorem dX4_reviewer_150 : decode cX4_reviewer 150 = .ok (.iadd, 1) := by decide +kernel
theorem dX4_reviewer_151 : decode cX4_reviewer 151 = .ok (.iconst 0, 1) := by decide +kernel
theorem dX4_reviewer_152 : decode cX4_reviewer 152 = .ok (.bastore, 1) := by decide +kernel
theorem dX4_reviewer_153 : decode cX4_reviewer 153 = .ok (.aload_n 0, 1) := by decide +kernel
theorem dX4_reviewer_154 : decode cX4_reviewer 154 = .ok (.getfield 42, 3) := by decide +kernel
theorem dX4_reviewer_157 : decode cX4_reviewer 157 = .ok (.iload_n 1, 1) := by decide +kernel
theorem dX4_reviewer_158 : decode cX4_reviewer 158 = .ok (.dup2, 1) := by decide +kernel
theorem dX4_reviewer_159 : decode cX4_reviewer 159 = .ok (.iaload, 1) := by decide +kernel
theorem dX4_reviewer_160 : decode cX4_reviewer 160 = .ok (.iconst 1, 1) := by decide +kernel
theorem dX4_reviewer_161 : decode cX4_reviewer 161 = .ok (.iadd, 1) := by decide +kernel
theorem dX4_reviewer_162 : decode cX4_reviewer 162 = .ok (.iastore, 1) := by decide +kernel
theorem dX4_reviewer_163 : decode cX4_reviewer 163 = .ok (.aload_n 0, 1) := by decide +kernel
theorem dX4_reviewer_164 : decode cX4_reviewer 164 = .ok (.getfield 42, 3) := by decide +kernel
theorem dX4_reviewer_167 : decode cX4_reviewer 167 = .ok (.iload_n 1, 1) := by decide +kernel
theorem dX4_reviewer_168 : decode cX4_reviewer 168 = .ok (.iaload, 1) := by decide +kernel
theorem dX4_reviewer_169 : decode cX4_reviewer 169 = .ok (.ireturn, 1) := by decide +kernel
theorem dX4_count_0 : decode cX4_count 0 = .ok (.iconst 0, 1) := by decide +kernel
theorem dX4_count_1 : decode cX4_count 1 = .ok (.istore 4, 2) := by decide +kernel
theorem dX4_count_3 : decode cX4_count 3 = .ok (.iload_n 2, 1) := by decide +kernel
theorem dX4_count_4 : decode cX4_count 4 = .ok (.istore 5, 2) := by decide +kernel
theorem dX4_count_6 : decode cX4_count 6 = .ok (.iload 5, 2) := by decide +kernel
theorem dX4_count_8 : decode cX4_count 8 = .ok (.iload_n 2, 1) := by decide +kernel
theorem dX4_count_9 : decode cX4_count 9 = .ok (.iload_n 3, 1) := by decide +kernel
theorem dX4_count_10 : decode cX4_count 10 = .ok (.iadd, 1) := by decide +kernel
theorem dX4_count_11 : decode cX4_count 11 = .ok (.if_icmp .ge 26, 3) := by decide +kernel
theorem dX4_count_14 : decode cX4_count 14 = .ok (.iload 4, 2) := by decide +kernel
theorem dX4_count_16 : decode cX4_count 16 = .ok (.aload_n 1, 1) := by decide +kernel
theorem dX4_count_17 : decode cX4_count 17 = .ok (.iload 5, 2) := by decide +kernel
theorem dX4_count_19 : decode cX4_count 19 = .ok (.baload, 1) := by decide +kernel
theorem dX4_count_20 : decode cX4_count 20 = .ok (.ifCond .eq 7, 3) := by decide +kernel
theorem dX4_count_23 : decode cX4_count 23 = .ok (.iconst 1, 1) := by decide +kernel
theorem dX4_count_24 : decode cX4_count 24 = .ok (.goto 4, 3) := by decide +kernel
theorem dX4_count_27 : decode cX4_count 27 = .ok (.iconst 0, 1) := by decide +kernel
theorem dX4_count_28 : decode cX4_count 28 = .ok (.iadd, 1) := by decide +kernel
theorem dX4_count_29 : decode cX4_count 29 = .ok (.istore 4, 2) := by decide +kernel
theorem dX4_count_31 : decode cX4_count 31 = .ok (.iinc 5 1, 3) := by decide +kernel
theorem dX4_count_34 : decode cX4_count 34 = .ok (.goto (-28), 3) := by decide +kernel
theorem dX4_count_37 : decode cX4_count 37 = .ok (.iload 4, 2) := by decide +kernel
theorem dX4_count_39 : decode cX4_count 39 = .ok (.ireturn, 1) := by decide +kernel
set_option maxRecDepth 20000 in
theorem ggX4_reader_X4_isPaper : GoodIn wsX4_reader wsX4_isPaper := goodIn_r _ [7, 8, 9, 10, 6, 11, 24, 25, 26, 27, 28, 29, 30, 31, 32, 33, 34, 35, 36, 37, 38, 39, 40, 41, 42, 43, 44, 45, 46, 47, 48, 49, 50, 51, 52, 53, 54] (by decide +kernel) (by decide +kernel)
set_option maxRecDepth 20000 in
theorem gX4_reader_X4_isPaper : GoodIn wsX4_reader (wsV RX4 110 RX4 yX4_isPaper wsX4_isPaper) := goodIn_app (goodIn_of _ (by decide +kernel)) ggX4_reader_X4_isPaper
set_option maxRecDepth 20000 in
theorem ggX4_reader_X4_isPerson : GoodIn wsX4_reader wsX4_isPerson := goodIn_r _ [14, 9, 10, 6, 11] (by decide +kernel) (by decide +kernel)
set_option maxRecDepth 20000 in
theorem gX4_reader_X4_isPerson : GoodIn wsX4_reader (va_wsS RX4 103 yX4_isPerson wsX4_isPerson) := goodIn_app (goodIn_of _ (by decide +kernel)) ggX4_reader_X4_isPerson
set_option maxRecDepth 20000 in
theorem ggX4_reader_X4_can : GoodIn wsX4_reader wsX4_can := goodIn_r _ [18, 19, 24, 25, 26, 27, 28, 29, 30, 31, 32, 33, 34, 35, 36, 37, 38, 39, 40, 41, 42, 43, 44, 45, 46, 47, 48, 49, 50, 51, 52, 53, 54] (by decide +kernel) (by decide +kernel)
set_option maxRecDepth 20000 in
theorem gX4_reader_X4_can : GoodIn wsX4_reader (wsV RX4 107 RX4 yX4_can wsX4_can) := goodIn_app (goodIn_of _ (by decide +kernel)) ggX4_reader_X4_can
set_option maxRecDepth 20000 in
theorem ggX4_reader_X4_count : GoodIn wsX4_reader wsX4_count := goodIn_r _ [23] (by decide +kernel) (by decide +kernel)
set_option maxRecDepth 20000 in
theorem gX4_reader_X4_count : GoodIn wsX4_reader (wsV RX4 121 RX4 yX4_count wsX4_count) := goodIn_app (goodIn_of _ (by decide +kernel)) ggX4_reader_X4_count
theorem dX4_reader_0 : decode cX4_reader 0 = .ok (.aload_n 0, 1) := by decide +kernel
theorem dX4_reader_1 : decode cX4_reader 1 = .ok (.iload_n 1, 1) := by decide +kernel
theorem dX4_reader_2 : decode cX4_reader 2 = .ok (.invokevirtual 110, 3) := by decide +kernel
theorem dX4_reader_5 : decode cX4_reader 5 = .ok (.istore_n 3, 1) := by decide +kernel
theorem dX4_reader_6 : decode cX4_reader 6 = .ok (.aload_n 0, 1) := by decide +kernel
theorem dX4_reader_7 : decode cX4_reader 7 = .ok (.iload_n 3, 1) := by decide +kernel
theorem dX4_reader_8 : decode cX4_reader 8 = .ok (.ifCond .ne 7, 3) := by decide +kernel
theorem dX4_reader_11 : decode cX4_reader 11 = .ok (.iconst 1, 1) := by decide +kernel
theorem dX4_reader_12 : decode cX4_reader 12 = .ok (.goto 42, 3) := by decide +kernel
theorem dX4_reader_15 : decode cX4_reader 15 = .ok (.iload_n 2, 1) := by decide +kernel
theorem dX4_reader_16 : decode cX4_reader 16 = .ok (.invokestatic 103, 3) := by decide +kernel
theorem dX4_reader_19 : decode cX4_reader 19 = .ok (.ifCond .ne 7, 3) := by decide +kernel
theorem dX4_reader_22 : decode cX4_reader 22 = .ok (.iconst 2, 1) := by decide +kernel
theorem dX4_reader_23 : decode cX4_reader 23 = .ok (.goto 31, 3) := by decide +kernel
theorem dX4_reader_26 : decode cX4_reader 26 = .ok (.aload_n 0, 1) := by decide +kernel
theorem dX4_reader_27 : decode cX4_reader 27 = .ok (.getfield 30, 3) := by decide +kernel
theorem dX4_reader_30 : decode cX4_reader 30 = .ok (.iload_n 1, 1) := by decide +kernel
theorem dX4_reader_31 : decode cX4_reader 31 = .ok (.baload, 1) := by decide +kernel
theorem dX4_reader_32 : decode cX4_reader 32 = .ok (.ifCond .eq 17, 3) := by decide +kernel
theorem dX4_reader_35 : decode cX4_reader 35 = .ok (.aload_n 0, 1) := by decide +kernel
theorem dX4_reader_36 : decode cX4_reader 36 = .ok (.getfield 63, 3) := by decide +kernel
theorem dX4_reader_39 : decode cX4_reader 39 = .ok (.bipush 6, 2) := by decide +kernel
theorem dX4_reader_41 : decode cX4_reader 41 = .ok (.iload_n 1, 1) := by decide +kernel
theorem dX4_reader_42 : decode cX4_reader 42 = .ok (.imul, 1) := by decide +kernel
theorem dX4_reader_43 : decode cX4_reader 43 = .ok (.iload_n 2, 1) := by decide +kernel
theorem dX4_reader_44 : decode cX4_reader 44 = .ok (.iadd, 1) := by decide +kernel
theorem dX4_reader_45 : decode cX4_reader 45 = .ok (.baload, 1) := by decide +kernel
theorem dX4_reader_46 : decode cX4_reader 46 = .ok (.ifCond .eq 7, 3) := by decide +kernel
theorem dX4_reader_49 : decode cX4_reader 49 = .ok (.iconst 3, 1) := by decide +kernel
theorem dX4_reader_50 : decode cX4_reader 50 = .ok (.goto 4, 3) := by decide +kernel
theorem dX4_reader_53 : decode cX4_reader 53 = .ok (.iconst 0, 1) := by decide +kernel
theorem dX4_reader_54 : decode cX4_reader 54 = .ok (.invokevirtual 107, 3) := by decide +kernel
theorem dX4_reader_57 : decode cX4_reader 57 = .ok (.ifCond .ne 5, 3) := by decide +kernel
theorem dX4_reader_60 : decode cX4_reader 60 = .ok (.iconst 0, 1) := by decide +kernel
theorem dX4_reader_61 : decode cX4_reader 61 = .ok (.ireturn, 1) := by decide +kernel
theorem dX4_reader_62 : decode cX4_reader 62 = .ok (.aload_n 0, 1) := by decide +kernel
theorem dX4_reader_63 : decode cX4_reader 63 = .ok (.getfield 63, 3) := by decide +kernel
theorem dX4_reader_66 : decode cX4_reader 66 = .ok (.bipush 6, 2) := by decide +kernel
theorem dX4_reader_68 : decode cX4_reader 68 = .ok (.iload_n 1, 1) := by decide +kernel
theorem dX4_reader_69 : decode cX4_reader 69 = .ok (.imul, 1) := by decide +kernel
theorem dX4_reader_70 : decode cX4_reader 70 = .ok (.iload_n 2, 1) := by decide +kernel
theorem dX4_reader_71 : decode cX4_reader 71 = .ok (.iadd, 1) := by decide +kernel
theorem dX4_reader_72 : decode cX4_reader 72 = .ok (.iconst 1, 1) := by decide +kernel
theorem dX4_reader_73 : decode cX4_reader 73 = .ok (.bastore, 1) := by decide +kernel
theorem dX4_reader_74 : decode cX4_reader 74 = .ok (.aload_n 0, 1) := by decide +kernel
theorem dX4_reader_75 : decode cX4_reader 75 = .ok (.aload_n 0, 1) := by decide +kernel
theorem dX4_reader_76 : decode cX4_reader 76 = .ok (.getfield 63, 3) := by decide +kernel
theorem dX4_reader_79 : decode cX4_reader 79 = .ok (.bipush 6, 2) := by decide +kernel
theorem dX4_reader_81 : decode cX4_reader 81 = .ok (.iload_n 1, 1) := by decide +kernel
theorem dX4_reader_82 : decode cX4_reader 82 = .ok (.imul, 1) := by decide +kernel
theorem dX4_reader_83 : decode cX4_reader 83 = .ok (.bipush 6, 2) := by decide +kernel
theorem dX4_reader_85 : decode cX4_reader 85 = .ok (.invokevirtual 121, 3) := by decide +kernel
theorem dX4_reader_88 : decode cX4_reader 88 = .ok (.ireturn, 1) := by decide +kernel
theorem dX4_nextReviewer_0 : decode cX4_nextReviewer 0 = .ok (.iconst (-1), 1) := by decide +kernel
theorem dX4_nextReviewer_1 : decode cX4_nextReviewer 1 = .ok (.istore_n 2, 1) := by decide +kernel
theorem dX4_nextReviewer_2 : decode cX4_nextReviewer 2 = .ok (.iconst 4, 1) := by decide +kernel
theorem dX4_nextReviewer_3 : decode cX4_nextReviewer 3 = .ok (.iload_n 1, 1) := by decide +kernel
theorem dX4_nextReviewer_4 : decode cX4_nextReviewer 4 = .ok (.imul, 1) := by decide +kernel
theorem dX4_nextReviewer_5 : decode cX4_nextReviewer 5 = .ok (.aload_n 0, 1) := by decide +kernel
theorem dX4_nextReviewer_6 : decode cX4_nextReviewer 6 = .ok (.getfield 42, 3) := by decide +kernel
theorem dX4_nextReviewer_9 : decode cX4_nextReviewer 9 = .ok (.iload_n 1, 1) := by decide +kernel
theorem dX4_nextReviewer_10 : decode cX4_nextReviewer 10 = .ok (.iaload, 1) := by decide +kernel
theorem dX4_nextReviewer_11 : decode cX4_nextReviewer 11 = .ok (.iadd, 1) := by decide +kernel
theorem dX4_nextReviewer_12 : decode cX4_nextReviewer 12 = .ok (.iconst 1, 1) := by decide +kernel
theorem dX4_nextReviewer_13 : decode cX4_nextReviewer 13 = .ok (.isub, 1) := by decide +kernel
theorem dX4_nextReviewer_14 : decode cX4_nextReviewer 14 = .ok (.istore_n 3, 1) := by decide +kernel
theorem dX4_nextReviewer_15 : decode cX4_nextReviewer 15 = .ok (.iload_n 3, 1) := by decide +kernel
theorem dX4_nextReviewer_16 : decode cX4_nextReviewer 16 = .ok (.iconst 4, 1) := by decide +kernel
theorem dX4_nextReviewer_17 : decode cX4_nextReviewer 17 = .ok (.iload_n 1, 1) := by decide +kernel
theorem dX4_nextReviewer_18 : decode cX4_nextReviewer 18 = .ok (.imul, 1) := by decide +kernel
theorem dX4_nextReviewer_19 : decode cX4_nextReviewer 19 = .ok (.if_icmp .lt 29, 3) := by decide +kernel
theorem dX4_nextReviewer_22 : decode cX4_nextReviewer 22 = .ok (.aload_n 0, 1) := by decide +kernel
theorem dX4_nextReviewer_23 : decode cX4_nextReviewer 23 = .ok (.getfield 48, 3) := by decide +kernel
theorem dX4_nextReviewer_26 : decode cX4_nextReviewer 26 = .ok (.iload_n 3, 1) := by decide +kernel
theorem dX4_nextReviewer_27 : decode cX4_nextReviewer 27 = .ok (.baload, 1) := by decide +kernel
theorem dX4_nextReviewer_28 : decode cX4_nextReviewer 28 = .ok (.ifCond .eq 7, 3) := by decide +kernel
theorem dX4_nextReviewer_31 : decode cX4_nextReviewer 31 = .ok (.iload_n 2, 1) := by decide +kernel
theorem dX4_nextReviewer_32 : decode cX4_nextReviewer 32 = .ok (.goto 9, 3) := by decide +kernel
theorem dX4_nextReviewer_35 : decode cX4_nextReviewer 35 = .ok (.aload_n 0, 1) := by decide +kernel
theorem dX4_nextReviewer_36 : decode cX4_nextReviewer 36 = .ok (.getfield 45, 3) := by decide +kernel
theorem dX4_nextReviewer_39 : decode cX4_nextReviewer 39 = .ok (.iload_n 3, 1) := by decide +kernel
theorem dX4_nextReviewer_40 : decode cX4_nextReviewer 40 = .ok (.iaload, 1) := by decide +kernel
theorem dX4_nextReviewer_41 : decode cX4_nextReviewer 41 = .ok (.istore_n 2, 1) := by decide +kernel
theorem dX4_nextReviewer_42 : decode cX4_nextReviewer 42 = .ok (.iinc 3 (-1), 3) := by decide +kernel
theorem dX4_nextReviewer_45 : decode cX4_nextReviewer 45 = .ok (.goto (-30), 3) := by decide +kernel
theorem dX4_nextReviewer_48 : decode cX4_nextReviewer 48 = .ok (.iload_n 2, 1) := by decide +kernel
theorem dX4_nextReviewer_49 : decode cX4_nextReviewer 49 = .ok (.ireturn, 1) := by decide +kernel
set_option maxRecDepth 20000 in
theorem ggX4_review_X4_isPaper : GoodIn wsX4_review wsX4_isPaper := goodIn_r _ [9, 10, 11, 12, 8, 13, 32, 33, 34, 35, 36, 37, 38, 39, 40, 41, 42, 43, 44, 45, 46, 47, 48, 49, 50, 51, 52, 53, 54, 55, 56, 57, 58, 59, 60, 61, 62] (by decide +kernel) (by decide +kernel)
set_option maxRecDepth 20000 in
theorem gX4_review_X4_isPaper : GoodIn wsX4_review (wsV RX4 110 RX4 yX4_isPaper wsX4_isPaper) := goodIn_app (goodIn_of _ (by decide +kernel)) ggX4_review_X4_isPaper
set_option maxRecDepth 20000 in
theorem ggX4_review_X4_isPerson : GoodIn wsX4_review wsX4_isPerson := goodIn_r _ [16, 11, 12, 8, 13] (by decide +kernel) (by decide +kernel)
set_option maxRecDepth 20000 in
theorem gX4_review_X4_isPerson : GoodIn wsX4_review (va_wsS RX4 103 yX4_isPerson wsX4_isPerson) := goodIn_app (goodIn_of _ (by decide +kernel)) ggX4_review_X4_isPerson
set_option maxRecDepth 20000 in
theorem ggX4_review_X4_placeOf : GoodIn wsX4_review wsX4_placeOf := goodIn_r _ [20, 21, 22, 32, 33, 34, 35, 36, 37, 38, 39, 40, 41, 42, 43, 44, 45, 46, 47, 48, 49, 50, 51, 52, 53, 54, 55, 56, 57, 58, 59, 60, 61, 62] (by decide +kernel) (by decide +kernel)
set_option maxRecDepth 20000 in
theorem gX4_review_X4_placeOf : GoodIn wsX4_review (wsV RX4 117 RX4 yX4_placeOf wsX4_placeOf) := goodIn_app (goodIn_of _ (by decide +kernel)) ggX4_review_X4_placeOf
set_option maxRecDepth 20000 in
theorem ggX4_review_X4_nextReviewer : GoodIn wsX4_review wsX4_nextReviewer := goodIn_r _ [26, 21, 2, 22, 32, 33, 34, 35, 36, 37, 38, 39, 40, 41, 42, 43, 44, 45, 46, 47, 48, 49, 50, 51, 52, 53, 54, 55, 56, 57, 58, 59, 60, 61, 62] (by decide +kernel) (by decide +kernel)
set_option maxRecDepth 20000 in
theorem gX4_review_X4_nextReviewer : GoodIn wsX4_review (wsV RX4 125 RX4 yX4_nextReviewer wsX4_nextReviewer) := goodIn_app (goodIn_of _ (by decide +kernel)) ggX4_review_X4_nextReviewer
set_option maxRecDepth 20000 in
theorem ggX4_review_X4_can : GoodIn wsX4_review wsX4_can := goodIn_r _ [30, 31, 32, 33, 34, 35, 36, 37, 38, 39, 40, 41, 42, 43, 44, 45, 46, 47, 48, 49, 50, 51, 52, 53, 54, 55, 56, 57, 58, 59, 60, 61, 62] (by decide +kernel) (by decide +kernel)
set_option maxRecDepth 20000 in
theorem gX4_review_X4_can : GoodIn wsX4_review (wsV RX4 107 RX4 yX4_can wsX4_can) := goodIn_app (goodIn_of _ (by decide +kernel)) ggX4_review_X4_can
theorem dX4_review_0 : decode cX4_review 0 = .ok (.aload_n 0, 1) := by decide +kernel
theorem dX4_review_1 : decode cX4_review 1 = .ok (.iload_n 1, 1) := by decide +kernel
theorem dX4_review_2 : decode cX4_review 2 = .ok (.invokevirtual 110, 3) := by decide +kernel
theorem dX4_review_5 : decode cX4_review 5 = .ok (.istore 4, 2) := by decide +kernel
theorem dX4_review_7 : decode cX4_review 7 = .ok (.iload_n 2, 1) := by decide +kernel
theorem dX4_review_8 : decode cX4_review 8 = .ok (.invokestatic 103, 3) := by decide +kernel
theorem dX4_review_11 : decode cX4_review 11 = .ok (.istore 5, 2) := by decide +kernel
theorem dX4_review_13 : decode cX4_review 13 = .ok (.iload 4, 2) := by decide +kernel
theorem dX4_review_15 : decode cX4_review 15 = .ok (.ifCond .eq 26, 3) := by decide +kernel
theorem dX4_review_18 : decode cX4_review 18 = .ok (.iload 5, 2) := by decide +kernel
theorem dX4_review_20 : decode cX4_review 20 = .ok (.ifCond .eq 21, 3) := by decide +kernel
theorem dX4_review_23 : decode cX4_review 23 = .ok (.aload_n 0, 1) := by decide +kernel
theorem dX4_review_24 : decode cX4_review 24 = .ok (.getfield 30, 3) := by decide +kernel
theorem dX4_review_27 : decode cX4_review 27 = .ok (.iload_n 1, 1) := by decide +kernel
theorem dX4_review_28 : decode cX4_review 28 = .ok (.baload, 1) := by decide +kernel
theorem dX4_review_29 : decode cX4_review 29 = .ok (.ifCond .eq 12, 3) := by decide +kernel
theorem dX4_review_32 : decode cX4_review 32 = .ok (.aload_n 0, 1) := by decide +kernel
theorem dX4_review_33 : decode cX4_review 33 = .ok (.iload_n 1, 1) := by decide +kernel
theorem dX4_review_34 : decode cX4_review 34 = .ok (.iload_n 2, 1) := by decide +kernel
theorem dX4_review_35 : decode cX4_review 35 = .ok (.invokevirtual 117, 3) := by decide +kernel
theorem dX4_review_38 : decode cX4_review 38 = .ok (.goto 4, 3) := by decide +kernel
theorem dX4_review_41 : decode cX4_review 41 = .ok (.iconst (-1), 1) := by decide +kernel
theorem dX4_review_42 : decode cX4_review 42 = .ok (.istore 6, 2) := by decide +kernel
theorem dX4_review_44 : decode cX4_review 44 = .ok (.iload 6, 2) := by decide +kernel
theorem dX4_review_46 : decode cX4_review 46 = .ok (.iconst (-1), 1) := by decide +kernel
theorem dX4_review_47 : decode cX4_review 47 = .ok (.if_icmp .eq 35, 3) := by decide +kernel
theorem dX4_review_50 : decode cX4_review 50 = .ok (.aload_n 0, 1) := by decide +kernel
theorem dX4_review_51 : decode cX4_review 51 = .ok (.getfield 48, 3) := by decide +kernel
theorem dX4_review_54 : decode cX4_review 54 = .ok (.iload 6, 2) := by decide +kernel
theorem dX4_review_56 : decode cX4_review 56 = .ok (.baload, 1) := by decide +kernel
theorem dX4_review_57 : decode cX4_review 57 = .ok (.ifCond .ne 25, 3) := by decide +kernel
theorem dX4_review_60 : decode cX4_review 60 = .ok (.aload_n 0, 1) := by decide +kernel
theorem dX4_review_61 : decode cX4_review 61 = .ok (.getfield 24, 3) := by decide +kernel
theorem dX4_review_64 : decode cX4_review 64 = .ok (.iload_n 1, 1) := by decide +kernel
theorem dX4_review_65 : decode cX4_review 65 = .ok (.baload, 1) := by decide +kernel
theorem dX4_review_66 : decode cX4_review 66 = .ok (.ifCond .eq 12, 3) := by decide +kernel
theorem dX4_review_69 : decode cX4_review 69 = .ok (.aload_n 0, 1) := by decide +kernel
theorem dX4_review_70 : decode cX4_review 70 = .ok (.iload_n 1, 1) := by decide +kernel
theorem dX4_review_71 : decode cX4_review 71 = .ok (.invokevirtual 125, 3) := by decide +kernel
theorem dX4_review_74 : decode cX4_review 74 = .ok (.iload_n 2, 1) := by decide +kernel
theorem dX4_review_75 : decode cX4_review 75 = .ok (.if_icmp .ne 7, 3) := by decide +kernel
theorem dX4_review_78 : decode cX4_review 78 = .ok (.iconst 1, 1) := by decide +kernel
theorem dX4_review_79 : decode cX4_review 79 = .ok (.goto 4, 3) := by decide +kernel
theorem dX4_review_82 : decode cX4_review 82 = .ok (.iconst 0, 1) := by decide +kernel
theorem dX4_review_83 : decode cX4_review 83 = .ok (.istore 7, 2) := by decide +kernel
theorem dX4_review_85 : decode cX4_review 85 = .ok (.aload_n 0, 1) := by decide +kernel
theorem dX4_review_86 : decode cX4_review 86 = .ok (.iload 4, 2) := by decide +kernel
theorem dX4_review_88 : decode cX4_review 88 = .ok (.ifCond .ne 7, 3) := by decide +kernel
theorem dX4_review_91 : decode cX4_review 91 = .ok (.iconst 1, 1) := by decide +kernel
theorem dX4_review_92 : decode cX4_review 92 = .ok (.goto 22, 3) := by decide +kernel
theorem dX4_review_95 : decode cX4_review 95 = .ok (.iload 5, 2) := by decide +kernel
theorem dX4_review_97 : decode cX4_review 97 = .ok (.ifCond .ne 7, 3) := by decide +kernel
theorem dX4_review_100 : decode cX4_review 100 = .ok (.iconst 2, 1) := by decide +kernel
theorem dX4_review_101 : decode cX4_review 101 = .ok (.goto 13, 3) := by decide +kernel
theorem dX4_review_104 : decode cX4_review 104 = .ok (.iload 7, 2) := by decide +kernel
theorem dX4_review_106 : decode cX4_review 106 = .ok (.ifCond .eq 7, 3) := by decide +kernel
theorem dX4_review_109 : decode cX4_review 109 = .ok (.iconst 0, 1) := by decide +kernel
theorem dX4_review_110 : decode cX4_review 110 = .ok (.goto 4, 3) := by decide +kernel
theorem dX4_review_113 : decode cX4_review 113 = .ok (.iconst 3, 1) := by decide +kernel
theorem dX4_review_114 : decode cX4_review 114 = .ok (.invokevirtual 107, 3) := by decide +kernel
theorem dX4_review_117 : decode cX4_review 117 = .ok (.ifCond .ne 5, 3) := by decide +kernel
theorem dX4_review_120 : decode cX4_review 120 = .ok (.iconst 0, 1) := by decide +kernel
theorem dX4_review_121 : decode cX4_review 121 = .ok (.ireturn, 1) := by decide +kernel
theorem dX4_review_122 : decode cX4_review 122 = .ok (.aload_n 0, 1) := by decide +kernel
theorem dX4_review_123 : decode cX4_review 123 = .ok (.getfield 48, 3) := by decide +kernel
theorem dX4_review_126 : decode cX4_review 126 = .ok (.iload 6, 2) := by decide +kernel
theorem dX4_review_128 : decode cX4_review 128 = .ok (.iconst 1, 1) := by decide +kernel
theorem dX4_review_129 : decode cX4_review 129 = .ok (.bastore, 1) := by decide +kernel
theorem dX4_review_130 : decode cX4_review 130 = .ok (.iload_n 3, 1) := by decide +kernel
theorem dX4_review_131 : decode cX4_review 131 = .ok (.ifCond .ne 5, 3) := by decide +kernel
theorem dX4_review_134 : decode cX4_review 134 = .ok (.iconst (-1), 1) := by decide +kernel
theorem dX4_review_135 : decode cX4_review 135 = .ok (.ireturn, 1) := by decide +kernel
theorem dX4_review_136 : decode cX4_review 136 = .ok (.aload_n 0, 1) := by decide +kernel
theorem dX4_review_137 : decode cX4_review 137 = .ok (.getfield 51, 3) := by decide +kernel
theorem dX4_review_140 : decode cX4_review 140 = .ok (.iload_n 1, 1) := by decide +kernel
theorem dX4_review_141 : decode cX4_review 141 = .ok (.dup2, 1) := by decide +kernel
theorem dX4_review_142 : decode cX4_review 142 = .ok (.iaload, 1) := by decide +kernel
theorem dX4_review_143 : decode cX4_review 143 = .ok (.iconst 1, 1) := by decide +kernel
theorem dX4_review_144 : decode cX4_review 144 = .ok (.iadd, 1) := by decide +kernel
theorem dX4_review_145 : decode cX4_review 145 = .ok (.iastore, 1) := by decide +kernel
theorem dX4_review_146 : decode cX4_review 146 = .ok (.aload_n 0, 1) := by decide +kernel
theorem dX4_review_147 : decode cX4_review 147 = .ok (.getfield 51, 3) := by decide +kernel
theorem dX4_review_150 : decode cX4_review 150 = .ok (.iload_n 1, 1) := by decide +kernel
theorem dX4_review_151 : decode cX4_review 151 = .ok (.iaload, 1) := by decide +kernel

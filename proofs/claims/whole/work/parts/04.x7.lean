theorem dX7_init_0 : decode cX7_init 0 = .ok (.aload_n 0, 1) := by decide +kernel
theorem dX7_init_1 : decode cX7_init 1 = .ok (.invokespecial 1, 3) := by decide +kernel
theorem dX7_init_4 : decode cX7_init 4 = .ok (.aload_n 0, 1) := by decide +kernel
theorem dX7_init_5 : decode cX7_init 5 = .ok (.bipush 8, 2) := by decide +kernel
theorem dX7_init_7 : decode cX7_init 7 = .ok (.newarray .boolean, 2) := by decide +kernel
theorem dX7_init_9 : decode cX7_init 9 = .ok (.putfield 7, 3) := by decide +kernel
theorem dX7_init_12 : decode cX7_init 12 = .ok (.aload_n 0, 1) := by decide +kernel
theorem dX7_init_13 : decode cX7_init 13 = .ok (.bipush 8, 2) := by decide +kernel
theorem dX7_init_15 : decode cX7_init 15 = .ok (.newarray .boolean, 2) := by decide +kernel
theorem dX7_init_17 : decode cX7_init 17 = .ok (.putfield 13, 3) := by decide +kernel
theorem dX7_init_20 : decode cX7_init 20 = .ok (.aload_n 0, 1) := by decide +kernel
theorem dX7_init_21 : decode cX7_init 21 = .ok (.bipush 8, 2) := by decide +kernel
theorem dX7_init_23 : decode cX7_init 23 = .ok (.newarray .int, 2) := by decide +kernel
theorem dX7_init_25 : decode cX7_init 25 = .ok (.putfield 16, 3) := by decide +kernel
theorem dX7_init_28 : decode cX7_init 28 = .ok (.aload_n 0, 1) := by decide +kernel
theorem dX7_init_29 : decode cX7_init 29 = .ok (.bipush 8, 2) := by decide +kernel
theorem dX7_init_31 : decode cX7_init 31 = .ok (.newarray .int, 2) := by decide +kernel
theorem dX7_init_33 : decode cX7_init 33 = .ok (.putfield 20, 3) := by decide +kernel
theorem dX7_init_36 : decode cX7_init 36 = .ok (.aload_n 0, 1) := by decide +kernel
theorem dX7_init_37 : decode cX7_init 37 = .ok (.bipush 8, 2) := by decide +kernel
theorem dX7_init_39 : decode cX7_init 39 = .ok (.newarray .int, 2) := by decide +kernel
theorem dX7_init_41 : decode cX7_init 41 = .ok (.putfield 23, 3) := by decide +kernel
theorem dX7_init_44 : decode cX7_init 44 = .ok (.aload_n 0, 1) := by decide +kernel
theorem dX7_init_45 : decode cX7_init 45 = .ok (.bipush 8, 2) := by decide +kernel
theorem dX7_init_47 : decode cX7_init 47 = .ok (.newarray .int, 2) := by decide +kernel
theorem dX7_init_49 : decode cX7_init 49 = .ok (.putfield 26, 3) := by decide +kernel
theorem dX7_init_52 : decode cX7_init 52 = .ok (.aload_n 0, 1) := by decide +kernel
theorem dX7_init_53 : decode cX7_init 53 = .ok (.bipush 8, 2) := by decide +kernel
theorem dX7_init_55 : decode cX7_init 55 = .ok (.newarray .int, 2) := by decide +kernel
theorem dX7_init_57 : decode cX7_init 57 = .ok (.putfield 29, 3) := by decide +kernel
theorem dX7_init_60 : decode cX7_init 60 = .ok (.aload_n 0, 1) := by decide +kernel
theorem dX7_init_61 : decode cX7_init 61 = .ok (.bipush 8, 2) := by decide +kernel
theorem dX7_init_63 : decode cX7_init 63 = .ok (.newarray .int, 2) := by decide +kernel
theorem dX7_init_65 : decode cX7_init 65 = .ok (.putfield 32, 3) := by decide +kernel
theorem dX7_init_68 : decode cX7_init 68 = .ok (.aload_n 0, 1) := by decide +kernel
theorem dX7_init_69 : decode cX7_init 69 = .ok (.bipush 8, 2) := by decide +kernel
theorem dX7_init_71 : decode cX7_init 71 = .ok (.newarray .int, 2) := by decide +kernel
theorem dX7_init_73 : decode cX7_init 73 = .ok (.putfield 35, 3) := by decide +kernel
theorem dX7_init_76 : decode cX7_init 76 = .ok (.aload_n 0, 1) := by decide +kernel
theorem dX7_init_77 : decode cX7_init 77 = .ok (.bipush 8, 2) := by decide +kernel
theorem dX7_init_79 : decode cX7_init 79 = .ok (.newarray .int, 2) := by decide +kernel
theorem dX7_init_81 : decode cX7_init 81 = .ok (.putfield 38, 3) := by decide +kernel
theorem dX7_init_84 : decode cX7_init 84 = .ok (.aload_n 0, 1) := by decide +kernel
theorem dX7_init_85 : decode cX7_init 85 = .ok (.bipush 8, 2) := by decide +kernel
theorem dX7_init_87 : decode cX7_init 87 = .ok (.newarray .int, 2) := by decide +kernel
theorem dX7_init_89 : decode cX7_init 89 = .ok (.putfield 41, 3) := by decide +kernel
theorem dX7_init_92 : decode cX7_init 92 = .ok (.aload_n 0, 1) := by decide +kernel
theorem dX7_init_93 : decode cX7_init 93 = .ok (.bipush 8, 2) := by decide +kernel
theorem dX7_init_95 : decode cX7_init 95 = .ok (.newarray .char, 2) := by decide +kernel
theorem dX7_init_97 : decode cX7_init 97 = .ok (.putfield 44, 3) := by decide +kernel
theorem dX7_init_100 : decode cX7_init 100 = .ok (.aload_n 0, 1) := by decide +kernel
theorem dX7_init_101 : decode cX7_init 101 = .ok (.bipush 16, 2) := by decide +kernel
theorem dX7_init_103 : decode cX7_init 103 = .ok (.newarray .int, 2) := by decide +kernel
theorem dX7_init_105 : decode cX7_init 105 = .ok (.putfield 48, 3) := by decide +kernel
theorem dX7_init_108 : decode cX7_init 108 = .ok (.aload_n 0, 1) := by decide +kernel
theorem dX7_init_109 : decode cX7_init 109 = .ok (.bipush 16, 2) := by decide +kernel
theorem dX7_init_111 : decode cX7_init 111 = .ok (.newarray .int, 2) := by decide +kernel
theorem dX7_init_113 : decode cX7_init 113 = .ok (.putfield 51, 3) := by decide +kernel
theorem dX7_init_116 : decode cX7_init 116 = .ok (.aload_n 0, 1) := by decide +kernel
theorem dX7_init_117 : decode cX7_init 117 = .ok (.bipush 16, 2) := by decide +kernel
theorem dX7_init_119 : decode cX7_init 119 = .ok (.newarray .int, 2) := by decide +kernel
theorem dX7_init_121 : decode cX7_init 121 = .ok (.putfield 54, 3) := by decide +kernel
theorem dX7_init_124 : decode cX7_init 124 = .ok (.aload_n 0, 1) := by decide +kernel
theorem dX7_init_125 : decode cX7_init 125 = .ok (.bipush 16, 2) := by decide +kernel
theorem dX7_init_127 : decode cX7_init 127 = .ok (.newarray .int, 2) := by decide +kernel
theorem dX7_init_129 : decode cX7_init 129 = .ok (.putfield 57, 3) := by decide +kernel
theorem dX7_init_132 : decode cX7_init 132 = .ok (.aload_n 0, 1) := by decide +kernel
theorem dX7_init_133 : decode cX7_init 133 = .ok (.bipush 16, 2) := by decide +kernel
theorem dX7_init_135 : decode cX7_init 135 = .ok (.newarray .int, 2) := by decide +kernel
theorem dX7_init_137 : decode cX7_init 137 = .ok (.putfield 60, 3) := by decide +kernel
theorem dX7_init_140 : decode cX7_init 140 = .ok (.aload_n 0, 1) := by decide +kernel
theorem dX7_init_141 : decode cX7_init 141 = .ok (.bipush 16, 2) := by decide +kernel
theorem dX7_init_143 : decode cX7_init 143 = .ok (.newarray .int, 2) := by decide +kernel
theorem dX7_init_145 : decode cX7_init 145 = .ok (.putfield 63, 3) := by decide +kernel
theorem dX7_init_148 : decode cX7_init 148 = .ok (.aload_n 0, 1) := by decide +kernel
theorem dX7_init_149 : decode cX7_init 149 = .ok (.bipush 64, 2) := by decide +kernel
theorem dX7_init_151 : decode cX7_init 151 = .ok (.newarray .int, 2) := by decide +kernel
theorem dX7_init_153 : decode cX7_init 153 = .ok (.putfield 66, 3) := by decide +kernel
theorem dX7_init_156 : decode cX7_init 156 = .ok (.aload_n 0, 1) := by decide +kernel
theorem dX7_init_157 : decode cX7_init 157 = .ok (.iconst 4, 1) := by decide +kernel
theorem dX7_init_158 : decode cX7_init 158 = .ok (.newarray .int, 2) := by decide +kernel
theorem dX7_init_160 : decode cX7_init 160 = .ok (.putfield 69, 3) := by decide +kernel
theorem dX7_init_163 : decode cX7_init 163 = .ok (.aload_n 0, 1) := by decide +kernel
theorem dX7_init_164 : decode cX7_init 164 = .ok (.iconst 4, 1) := by decide +kernel
theorem dX7_init_165 : decode cX7_init 165 = .ok (.newarray .int, 2) := by decide +kernel
theorem dX7_init_167 : decode cX7_init 167 = .ok (.putfield 72, 3) := by decide +kernel
theorem dX7_init_170 : decode cX7_init 170 = .ok (.aload_n 0, 1) := by decide +kernel
theorem dX7_init_171 : decode cX7_init 171 = .ok (.iconst 4, 1) := by decide +kernel
theorem dX7_init_172 : decode cX7_init 172 = .ok (.newarray .int, 2) := by decide +kernel
theorem dX7_init_174 : decode cX7_init 174 = .ok (.putfield 75, 3) := by decide +kernel
theorem dX7_init_177 : decode cX7_init 177 = .ok (.aload_n 0, 1) := by decide +kernel
theorem dX7_init_178 : decode cX7_init 178 = .ok (.iconst 4, 1) := by decide +kernel
theorem dX7_init_179 : decode cX7_init 179 = .ok (.newarray .int, 2) := by decide +kernel
theorem dX7_init_181 : decode cX7_init 181 = .ok (.putfield 78, 3) := by decide +kernel
theorem dX7_init_184 : decode cX7_init 184 = .ok (.aload_n 0, 1) := by decide +kernel
theorem dX7_init_185 : decode cX7_init 185 = .ok (.iconst 4, 1) := by decide +kernel
theorem dX7_init_186 : decode cX7_init 186 = .ok (.newarray .int, 2) := by decide +kernel
theorem dX7_init_188 : decode cX7_init 188 = .ok (.putfield 81, 3) := by decide +kernel
theorem dX7_init_191 : decode cX7_init 191 = .ok (.aload_n 0, 1) := by decide +kernel
theorem dX7_init_192 : decode cX7_init 192 = .ok (.bipush 72, 2) := by decide +kernel
theorem dX7_init_194 : decode cX7_init 194 = .ok (.newarray .int, 2) := by decide +kernel
theorem dX7_init_196 : decode cX7_init 196 = .ok (.putfield 84, 3) := by decide +kernel
theorem dX7_init_199 : decode cX7_init 199 = .ok (.aload_n 0, 1) := by decide +kernel
theorem dX7_init_200 : decode cX7_init 200 = .ok (.bipush 8, 2) := by decide +kernel
theorem dX7_init_202 : decode cX7_init 202 = .ok (.newarray .int, 2) := by decide +kernel
theorem dX7_init_204 : decode cX7_init 204 = .ok (.putfield 87, 3) := by decide +kernel
theorem dX7_init_207 : decode cX7_init 207 = .ok (.aload_n 0, 1) := by decide +kernel
theorem dX7_init_208 : decode cX7_init 208 = .ok (.bipush 8, 2) := by decide +kernel
theorem dX7_init_210 : decode cX7_init 210 = .ok (.newarray .int, 2) := by decide +kernel
theorem dX7_init_212 : decode cX7_init 212 = .ok (.putfield 90, 3) := by decide +kernel
theorem dX7_init_215 : decode cX7_init 215 = .ok (.iconst 0, 1) := by decide +kernel
theorem dX7_init_216 : decode cX7_init 216 = .ok (.istore_n 1, 1) := by decide +kernel
theorem dX7_init_217 : decode cX7_init 217 = .ok (.iload_n 1, 1) := by decide +kernel
theorem dX7_init_218 : decode cX7_init 218 = .ok (.iconst 4, 1) := by decide +kernel
theorem dX7_init_219 : decode cX7_init 219 = .ok (.if_icmp .ge 16, 3) := by decide +kernel
theorem dX7_init_222 : decode cX7_init 222 = .ok (.aload_n 0, 1) := by decide +kernel
theorem dX7_init_223 : decode cX7_init 223 = .ok (.getfield 81, 3) := by decide +kernel
theorem dX7_init_226 : decode cX7_init 226 = .ok (.iload_n 1, 1) := by decide +kernel
theorem dX7_init_227 : decode cX7_init 227 = .ok (.iconst (-1), 1) := by decide +kernel
theorem dX7_init_228 : decode cX7_init 228 = .ok (.iastore, 1) := by decide +kernel
theorem dX7_init_229 : decode cX7_init 229 = .ok (.iinc 1 1, 3) := by decide +kernel
theorem dX7_init_232 : decode cX7_init 232 = .ok (.goto (-15), 3) := by decide +kernel
theorem dX7_init_235 : decode cX7_init 235 = .ok (.return_, 1) := by decide +kernel
theorem dX7_thrown_0 : decode cX7_thrown 0 = .ok (.aload_n 0, 1) := by decide +kernel
theorem dX7_thrown_1 : decode cX7_thrown 1 = .ok (.getfield 93, 3) := by decide +kernel
theorem dX7_thrown_4 : decode cX7_thrown 4 = .ok (.ireturn, 1) := by decide +kernel
theorem dX7_fail_0 : decode cX7_fail 0 = .ok (.aload_n 0, 1) := by decide +kernel
theorem dX7_fail_1 : decode cX7_fail 1 = .ok (.iload_n 1, 1) := by decide +kernel
theorem dX7_fail_2 : decode cX7_fail 2 = .ok (.putfield 93, 3) := by decide +kernel
theorem dX7_fail_5 : decode cX7_fail 5 = .ok (.iconst 0, 1) := by decide +kernel
theorem dX7_fail_6 : decode cX7_fail 6 = .ok (.ireturn, 1) := by decide +kernel
theorem dX7_isIn_0 : decode cX7_isIn 0 = .ok (.iload_n 0, 1) := by decide +kernel
theorem dX7_isIn_1 : decode cX7_isIn 1 = .ok (.iload_n 1, 1) := by decide +kernel
theorem dX7_isIn_2 : decode cX7_isIn 2 = .ok (.if_icmp .lt 12, 3) := by decide +kernel
theorem dX7_isIn_5 : decode cX7_isIn 5 = .ok (.iload_n 0, 1) := by decide +kernel
theorem dX7_isIn_6 : decode cX7_isIn 6 = .ok (.iload_n 2, 1) := by decide +kernel
theorem dX7_isIn_7 : decode cX7_isIn 7 = .ok (.if_icmp .gt 7, 3) := by decide +kernel
theorem dX7_isIn_10 : decode cX7_isIn 10 = .ok (.iconst 1, 1) := by decide +kernel
theorem dX7_isIn_11 : decode cX7_isIn 11 = .ok (.goto 4, 3) := by decide +kernel
theorem dX7_isIn_14 : decode cX7_isIn 14 = .ok (.iconst 0, 1) := by decide +kernel
theorem dX7_isIn_15 : decode cX7_isIn 15 = .ok (.ireturn, 1) := by decide +kernel
set_option maxRecDepth 20000 in
theorem ggX7_noLorry_X7_isIn : GoodIn wsX7_noLorry wsX7_isIn := goodIn_r _ [6] (by decide +kernel) (by decide +kernel)
set_option maxRecDepth 20000 in
theorem gX7_noLorry_X7_isIn : GoodIn wsX7_noLorry (va_wsS RX7 100 yX7_isIn wsX7_isIn) := goodIn_app (goodIn_of _ (by decide +kernel)) ggX7_noLorry_X7_isIn
theorem dX7_noLorry_0 : decode cX7_noLorry 0 = .ok (.aload_n 0, 1) := by decide +kernel
theorem dX7_noLorry_1 : decode cX7_noLorry 1 = .ok (.iload_n 1, 1) := by decide +kernel
theorem dX7_noLorry_2 : decode cX7_noLorry 2 = .ok (.iconst 0, 1) := by decide +kernel
theorem dX7_noLorry_3 : decode cX7_noLorry 3 = .ok (.aload_n 0, 1) := by decide +kernel
theorem dX7_noLorry_4 : decode cX7_noLorry 4 = .ok (.getfield 97, 3) := by decide +kernel
theorem dX7_noLorry_7 : decode cX7_noLorry 7 = .ok (.iconst 1, 1) := by decide +kernel
theorem dX7_noLorry_8 : decode cX7_noLorry 8 = .ok (.isub, 1) := by decide +kernel
theorem dX7_noLorry_9 : decode cX7_noLorry 9 = .ok (.invokestatic 100, 3) := by decide +kernel
theorem dX7_noLorry_12 : decode cX7_noLorry 12 = .ok (.ifCond .eq 7, 3) := by decide +kernel
theorem dX7_noLorry_15 : decode cX7_noLorry 15 = .ok (.iconst 0, 1) := by decide +kernel
theorem dX7_noLorry_16 : decode cX7_noLorry 16 = .ok (.goto 4, 3) := by decide +kernel
theorem dX7_noLorry_19 : decode cX7_noLorry 19 = .ok (.iconst 1, 1) := by decide +kernel
theorem dX7_noLorry_20 : decode cX7_noLorry 20 = .ok (.putfield 93, 3) := by decide +kernel
theorem dX7_noLorry_23 : decode cX7_noLorry 23 = .ok (.aload_n 0, 1) := by decide +kernel
theorem dX7_noLorry_24 : decode cX7_noLorry 24 = .ok (.getfield 93, 3) := by decide +kernel
theorem dX7_noLorry_27 : decode cX7_noLorry 27 = .ok (.ifCond .eq 7, 3) := by decide +kernel
theorem dX7_noLorry_30 : decode cX7_noLorry 30 = .ok (.iconst 1, 1) := by decide +kernel
theorem dX7_noLorry_31 : decode cX7_noLorry 31 = .ok (.goto 4, 3) := by decide +kernel
theorem dX7_noLorry_34 : decode cX7_noLorry 34 = .ok (.iconst 0, 1) := by decide +kernel
theorem dX7_noLorry_35 : decode cX7_noLorry 35 = .ok (.ireturn, 1) := by decide +kernel
set_option maxRecDepth 20000 in
theorem ggX7_noDoor_X7_isIn : GoodIn wsX7_noDoor wsX7_isIn := goodIn_r _ [5] (by decide +kernel) (by decide +kernel)
set_option maxRecDepth 20000 in
theorem gX7_noDoor_X7_isIn : GoodIn wsX7_noDoor (va_wsS RX7 100 yX7_isIn wsX7_isIn) := goodIn_app (goodIn_of _ (by decide +kernel)) ggX7_noDoor_X7_isIn
theorem dX7_noDoor_0 : decode cX7_noDoor 0 = .ok (.aload_n 0, 1) := by decide +kernel
theorem dX7_noDoor_1 : decode cX7_noDoor 1 = .ok (.iload_n 1, 1) := by decide +kernel
theorem dX7_noDoor_2 : decode cX7_noDoor 2 = .ok (.iconst 0, 1) := by decide +kernel
theorem dX7_noDoor_3 : decode cX7_noDoor 3 = .ok (.iconst 3, 1) := by decide +kernel
theorem dX7_noDoor_4 : decode cX7_noDoor 4 = .ok (.invokestatic 100, 3) := by decide +kernel
theorem dX7_noDoor_7 : decode cX7_noDoor 7 = .ok (.ifCond .eq 7, 3) := by decide +kernel
theorem dX7_noDoor_10 : decode cX7_noDoor 10 = .ok (.iconst 0, 1) := by decide +kernel
theorem dX7_noDoor_11 : decode cX7_noDoor 11 = .ok (.goto 4, 3) := by decide +kernel
theorem dX7_noDoor_14 : decode cX7_noDoor 14 = .ok (.iconst 1, 1) := by decide +kernel
theorem dX7_noDoor_15 : decode cX7_noDoor 15 = .ok (.putfield 93, 3) := by decide +kernel
theorem dX7_noDoor_18 : decode cX7_noDoor 18 = .ok (.aload_n 0, 1) := by decide +kernel
theorem dX7_noDoor_19 : decode cX7_noDoor 19 = .ok (.getfield 93, 3) := by decide +kernel
theorem dX7_noDoor_22 : decode cX7_noDoor 22 = .ok (.ifCond .eq 7, 3) := by decide +kernel
theorem dX7_noDoor_25 : decode cX7_noDoor 25 = .ok (.iconst 1, 1) := by decide +kernel
theorem dX7_noDoor_26 : decode cX7_noDoor 26 = .ok (.goto 4, 3) := by decide +kernel
theorem dX7_noDoor_29 : decode cX7_noDoor 29 = .ok (.iconst 0, 1) := by decide +kernel
theorem dX7_noDoor_30 : decode cX7_noDoor 30 = .ok (.ireturn, 1) := by decide +kernel
set_option maxRecDepth 20000 in
theorem ggX7_addLorry_X7_isIn : GoodIn wsX7_addLorry wsX7_isIn := goodIn_r _ [12] (by decide +kernel) (by decide +kernel)
set_option maxRecDepth 20000 in
theorem gX7_addLorry_X7_isIn : GoodIn wsX7_addLorry (va_wsS RX7 100 yX7_isIn wsX7_isIn) := goodIn_app (goodIn_of _ (by decide +kernel)) ggX7_addLorry_X7_isIn
set_option maxRecDepth 20000 in
theorem ggX7_addLorry_X7_fail : GoodIn wsX7_addLorry wsX7_fail := goodIn_r _ [16, 2, 17, 18, 19, 20, 21, 22, 23, 24, 25, 26, 27, 28, 29, 30, 31, 32, 33, 34, 35, 36, 37, 38, 39, 40, 41, 42, 43, 44, 45, 46, 47, 48, 49, 50] (by decide +kernel) (by decide +kernel)
set_option maxRecDepth 20000 in
theorem gX7_addLorry_X7_fail : GoodIn wsX7_addLorry (wsV RX7 104 RX7 yX7_fail wsX7_fail) := goodIn_app (goodIn_of _ (by decide +kernel)) ggX7_addLorry_X7_fail
theorem dX7_addLorry_0 : decode cX7_addLorry 0 = .ok (.iload_n 2, 1) := by decide +kernel
theorem dX7_addLorry_1 : decode cX7_addLorry 1 = .ok (.iconst 0, 1) := by decide +kernel
theorem dX7_addLorry_2 : decode cX7_addLorry 2 = .ok (.sipush 1999, 3) := by decide +kernel
theorem dX7_addLorry_5 : decode cX7_addLorry 5 = .ok (.invokestatic 100, 3) := by decide +kernel
theorem dX7_addLorry_8 : decode cX7_addLorry 8 = .ok (.ifCond .eq 13, 3) := by decide +kernel
theorem dX7_addLorry_11 : decode cX7_addLorry 11 = .ok (.iload_n 3, 1) := by decide +kernel
theorem dX7_addLorry_12 : decode cX7_addLorry 12 = .ok (.iconst 1, 1) := by decide +kernel
theorem dX7_addLorry_13 : decode cX7_addLorry 13 = .ok (.bipush 99, 2) := by decide +kernel
theorem dX7_addLorry_15 : decode cX7_addLorry 15 = .ok (.invokestatic 100, 3) := by decide +kernel
theorem dX7_addLorry_18 : decode cX7_addLorry 18 = .ok (.ifCond .ne 9, 3) := by decide +kernel
theorem dX7_addLorry_21 : decode cX7_addLorry 21 = .ok (.aload_n 0, 1) := by decide +kernel
theorem dX7_addLorry_22 : decode cX7_addLorry 22 = .ok (.iconst 1, 1) := by decide +kernel
theorem dX7_addLorry_23 : decode cX7_addLorry 23 = .ok (.invokevirtual 104, 3) := by decide +kernel
theorem dX7_addLorry_26 : decode cX7_addLorry 26 = .ok (.ireturn, 1) := by decide +kernel
theorem dX7_addLorry_27 : decode cX7_addLorry 27 = .ok (.aload_n 0, 1) := by decide +kernel
theorem dX7_addLorry_28 : decode cX7_addLorry 28 = .ok (.getfield 97, 3) := by decide +kernel
theorem dX7_addLorry_31 : decode cX7_addLorry 31 = .ok (.bipush 8, 2) := by decide +kernel
theorem dX7_addLorry_33 : decode cX7_addLorry 33 = .ok (.if_icmp .ne 9, 3) := by decide +kernel
theorem dX7_addLorry_36 : decode cX7_addLorry 36 = .ok (.aload_n 0, 1) := by decide +kernel
theorem dX7_addLorry_37 : decode cX7_addLorry 37 = .ok (.iconst 2, 1) := by decide +kernel
theorem dX7_addLorry_38 : decode cX7_addLorry 38 = .ok (.invokevirtual 104, 3) := by decide +kernel
theorem dX7_addLorry_41 : decode cX7_addLorry 41 = .ok (.ireturn, 1) := by decide +kernel
theorem dX7_addLorry_42 : decode cX7_addLorry 42 = .ok (.aload_n 0, 1) := by decide +kernel
theorem dX7_addLorry_43 : decode cX7_addLorry 43 = .ok (.iconst 0, 1) := by decide +kernel
theorem dX7_addLorry_44 : decode cX7_addLorry 44 = .ok (.putfield 93, 3) := by decide +kernel
theorem dX7_addLorry_47 : decode cX7_addLorry 47 = .ok (.aload_n 0, 1) := by decide +kernel
theorem dX7_addLorry_48 : decode cX7_addLorry 48 = .ok (.getfield 7, 3) := by decide +kernel
theorem dX7_addLorry_51 : decode cX7_addLorry 51 = .ok (.aload_n 0, 1) := by decide +kernel
theorem dX7_addLorry_52 : decode cX7_addLorry 52 = .ok (.getfield 97, 3) := by decide +kernel
theorem dX7_addLorry_55 : decode cX7_addLorry 55 = .ok (.iload_n 1, 1) := by decide +kernel
theorem dX7_addLorry_56 : decode cX7_addLorry 56 = .ok (.bastore, 1) := by decide +kernel
theorem dX7_addLorry_57 : decode cX7_addLorry 57 = .ok (.aload_n 0, 1) := by decide +kernel
theorem dX7_addLorry_58 : decode cX7_addLorry 58 = .ok (.getfield 16, 3) := by decide +kernel
theorem dX7_addLorry_61 : decode cX7_addLorry 61 = .ok (.aload_n 0, 1) := by decide +kernel
theorem dX7_addLorry_62 : decode cX7_addLorry 62 = .ok (.getfield 97, 3) := by decide +kernel
theorem dX7_addLorry_65 : decode cX7_addLorry 65 = .ok (.iload_n 2, 1) := by decide +kernel
theorem dX7_addLorry_66 : decode cX7_addLorry 66 = .ok (.iastore, 1) := by decide +kernel
theorem dX7_addLorry_67 : decode cX7_addLorry 67 = .ok (.aload_n 0, 1) := by decide +kernel
theorem dX7_addLorry_68 : decode cX7_addLorry 68 = .ok (.getfield 20, 3) := by decide +kernel
theorem dX7_addLorry_71 : decode cX7_addLorry 71 = .ok (.aload_n 0, 1) := by decide +kernel
theorem dX7_addLorry_72 : decode cX7_addLorry 72 = .ok (.getfield 97, 3) := by decide +kernel
theorem dX7_addLorry_75 : decode cX7_addLorry 75 = .ok (.iload_n 3, 1) := by decide +kernel
theorem dX7_addLorry_76 : decode cX7_addLorry 76 = .ok (.iastore, 1) := by decide +kernel
theorem dX7_addLorry_77 : decode cX7_addLorry 77 = .ok (.aload_n 0, 1) := by decide +kernel
theorem dX7_addLorry_78 : decode cX7_addLorry 78 = .ok (.getfield 23, 3) := by decide +kernel
theorem dX7_addLorry_81 : decode cX7_addLorry 81 = .ok (.aload_n 0, 1) := by decide +kernel
theorem dX7_addLorry_82 : decode cX7_addLorry 82 = .ok (.getfield 97, 3) := by decide +kernel
theorem dX7_addLorry_85 : decode cX7_addLorry 85 = .ok (.iconst (-1), 1) := by decide +kernel
theorem dX7_addLorry_86 : decode cX7_addLorry 86 = .ok (.iastore, 1) := by decide +kernel
theorem dX7_addLorry_87 : decode cX7_addLorry 87 = .ok (.aload_n 0, 1) := by decide +kernel
theorem dX7_addLorry_88 : decode cX7_addLorry 88 = .ok (.getfield 44, 3) := by decide +kernel
theorem dX7_addLorry_91 : decode cX7_addLorry 91 = .ok (.aload_n 0, 1) := by decide +kernel
theorem dX7_addLorry_92 : decode cX7_addLorry 92 = .ok (.getfield 97, 3) := by decide +kernel
theorem dX7_addLorry_95 : decode cX7_addLorry 95 = .ok (.bipush 101, 2) := by decide +kernel
theorem dX7_addLorry_97 : decode cX7_addLorry 97 = .ok (.castore, 1) := by decide +kernel
theorem dX7_addLorry_98 : decode cX7_addLorry 98 = .ok (.aload_n 0, 1) := by decide +kernel
theorem dX7_addLorry_99 : decode cX7_addLorry 99 = .ok (.getfield 41, 3) := by decide +kernel
theorem dX7_addLorry_102 : decode cX7_addLorry 102 = .ok (.aload_n 0, 1) := by decide +kernel
theorem dX7_addLorry_103 : decode cX7_addLorry 103 = .ok (.getfield 97, 3) := by decide +kernel
theorem dX7_addLorry_106 : decode cX7_addLorry 106 = .ok (.iconst (-1), 1) := by decide +kernel
theorem dX7_addLorry_107 : decode cX7_addLorry 107 = .ok (.iastore, 1) := by decide +kernel
theorem dX7_addLorry_108 : decode cX7_addLorry 108 = .ok (.aload_n 0, 1) := by decide +kernel
theorem dX7_addLorry_109 : decode cX7_addLorry 109 = .ok (.dup, 1) := by decide +kernel
theorem dX7_addLorry_110 : decode cX7_addLorry 110 = .ok (.getfield 97, 3) := by decide +kernel
theorem dX7_addLorry_113 : decode cX7_addLorry 113 = .ok (.dup_x1, 1) := by decide +kernel
theorem dX7_addLorry_114 : decode cX7_addLorry 114 = .ok (.iconst 1, 1) := by decide +kernel
theorem dX7_addLorry_115 : decode cX7_addLorry 115 = .ok (.iadd, 1) := by decide +kernel
theorem dX7_addLorry_116 : decode cX7_addLorry 116 = .ok (.putfield 97, 3) := by decide +kernel
theorem dX7_addLorry_119 : decode cX7_addLorry 119 = .ok (.ireturn, 1) := by decide +kernel
theorem dX7_isGone_0 : decode cX7_isGone 0 = .ok (.aload_n 0, 1) := by decide +kernel
theorem dX7_isGone_1 : decode cX7_isGone 1 = .ok (.getfield 44, 3) := by decide +kernel
theorem dX7_isGone_4 : decode cX7_isGone 4 = .ok (.iload_n 1, 1) := by decide +kernel
theorem dX7_isGone_5 : decode cX7_isGone 5 = .ok (.caload, 1) := by decide +kernel
theorem dX7_isGone_6 : decode cX7_isGone 6 = .ok (.bipush 100, 2) := by decide +kernel
theorem dX7_isGone_8 : decode cX7_isGone 8 = .ok (.if_icmp .eq 14, 3) := by decide +kernel
theorem dX7_isGone_11 : decode cX7_isGone 11 = .ok (.aload_n 0, 1) := by decide +kernel
theorem dX7_isGone_12 : decode cX7_isGone 12 = .ok (.getfield 44, 3) := by decide +kernel
theorem dX7_isGone_15 : decode cX7_isGone 15 = .ok (.iload_n 1, 1) := by decide +kernel
theorem dX7_isGone_16 : decode cX7_isGone 16 = .ok (.caload, 1) := by decide +kernel
theorem dX7_isGone_17 : decode cX7_isGone 17 = .ok (.bipush 108, 2) := by decide +kernel
theorem dX7_isGone_19 : decode cX7_isGone 19 = .ok (.if_icmp .ne 7, 3) := by decide +kernel
theorem dX7_isGone_22 : decode cX7_isGone 22 = .ok (.iconst 1, 1) := by decide +kernel
theorem dX7_isGone_23 : decode cX7_isGone 23 = .ok (.goto 4, 3) := by decide +kernel
theorem dX7_isGone_26 : decode cX7_isGone 26 = .ok (.iconst 0, 1) := by decide +kernel
theorem dX7_isGone_27 : decode cX7_isGone 27 = .ok (.ireturn, 1) := by decide +kernel
set_option maxRecDepth 20000 in
theorem ggX7_addTransfer_X7_noLorry : GoodIn wsX7_addTransfer wsX7_noLorry := goodIn_r _ [10, 11, 12, 13, 14, 9, 15, 25, 26, 27, 28, 29, 30, 31, 32, 33, 34, 35, 36, 37, 38, 39, 40, 41, 42, 43, 44, 45, 46, 47, 48, 49, 50, 51, 52, 53, 54, 55, 56, 57, 58] (by decide +kernel) (by decide +kernel)
set_option maxRecDepth 20000 in
theorem gX7_addTransfer_X7_noLorry : GoodIn wsX7_addTransfer (wsV RX7 108 RX7 yX7_noLorry wsX7_noLorry) := goodIn_app (goodIn_of _ (by decide +kernel)) ggX7_addTransfer_X7_noLorry
set_option maxRecDepth 20000 in
theorem ggX7_addTransfer_X7_isIn : GoodIn wsX7_addTransfer wsX7_isIn := goodIn_r _ [15] (by decide +kernel) (by decide +kernel)
set_option maxRecDepth 20000 in
theorem gX7_addTransfer_X7_isIn : GoodIn wsX7_addTransfer (va_wsS RX7 100 yX7_isIn wsX7_isIn) := goodIn_app (goodIn_of _ (by decide +kernel)) ggX7_addTransfer_X7_isIn
set_option maxRecDepth 20000 in
theorem ggX7_addTransfer_X7_fail : GoodIn wsX7_addTransfer wsX7_fail := goodIn_r _ [19, 12, 25, 26, 27, 28, 29, 30, 31, 32, 33, 34, 35, 36, 37, 38, 39, 40, 41, 42, 43, 44, 45, 46, 47, 48, 49, 50, 51, 52, 53, 54, 55, 56, 57, 58] (by decide +kernel) (by decide +kernel)
set_option maxRecDepth 20000 in
theorem gX7_addTransfer_X7_fail : GoodIn wsX7_addTransfer (wsV RX7 104 RX7 yX7_fail wsX7_fail) := goodIn_app (goodIn_of _ (by decide +kernel)) ggX7_addTransfer_X7_fail
set_option maxRecDepth 20000 in
theorem ggX7_addTransfer_X7_isGone : GoodIn wsX7_addTransfer wsX7_isGone := goodIn_ca (goodIn_r _ [23, 24, 25, 26, 27, 28, 29, 30, 31, 32, 33, 34, 35, 36, 37, 38, 39, 40, 41, 42, 43, 44, 45, 46, 47, 48, 49, 50, 51, 52, 53, 54, 55, 56, 57, 58] (by decide +kernel) (by decide +kernel)) (goodIn_sub (fun _ h => List.mem_cons_of_mem _ (List.mem_append_right _ h)) (by decide +kernel))
set_option maxRecDepth 20000 in
theorem gX7_addTransfer_X7_isGone : GoodIn wsX7_addTransfer (wsV RX7 112 RX7 yX7_isGone wsX7_isGone) := goodIn_app (goodIn_of _ (by decide +kernel)) ggX7_addTransfer_X7_isGone
theorem dX7_addTransfer_0 : decode cX7_addTransfer 0 = .ok (.aload_n 0, 1) := by decide +kernel
theorem dX7_addTransfer_1 : decode cX7_addTransfer 1 = .ok (.iload_n 1, 1) := by decide +kernel
theorem dX7_addTransfer_2 : decode cX7_addTransfer 2 = .ok (.invokevirtual 108, 3) := by decide +kernel
theorem dX7_addTransfer_5 : decode cX7_addTransfer 5 = .ok (.ifCond .ne 11, 3) := by decide +kernel
theorem dX7_addTransfer_8 : decode cX7_addTransfer 8 = .ok (.aload_n 0, 1) := by decide +kernel
theorem dX7_addTransfer_9 : decode cX7_addTransfer 9 = .ok (.iload_n 2, 1) := by decide +kernel
theorem dX7_addTransfer_10 : decode cX7_addTransfer 10 = .ok (.invokevirtual 108, 3) := by decide +kernel
theorem dX7_addTransfer_13 : decode cX7_addTransfer 13 = .ok (.ifCond .eq 5, 3) := by decide +kernel
theorem dX7_addTransfer_16 : decode cX7_addTransfer 16 = .ok (.iconst 0, 1) := by decide +kernel
theorem dX7_addTransfer_17 : decode cX7_addTransfer 17 = .ok (.ireturn, 1) := by decide +kernel
theorem dX7_addTransfer_18 : decode cX7_addTransfer 18 = .ok (.aload_n 0, 1) := by decide +kernel
theorem dX7_addTransfer_19 : decode cX7_addTransfer 19 = .ok (.getfield 7, 3) := by decide +kernel
theorem dX7_addTransfer_22 : decode cX7_addTransfer 22 = .ok (.iload_n 1, 1) := by decide +kernel
theorem dX7_addTransfer_23 : decode cX7_addTransfer 23 = .ok (.baload, 1) := by decide +kernel
theorem dX7_addTransfer_24 : decode cX7_addTransfer 24 = .ok (.ifCond .eq 22, 3) := by decide +kernel
theorem dX7_addTransfer_27 : decode cX7_addTransfer 27 = .ok (.aload_n 0, 1) := by decide +kernel
theorem dX7_addTransfer_28 : decode cX7_addTransfer 28 = .ok (.getfield 7, 3) := by decide +kernel
theorem dX7_addTransfer_31 : decode cX7_addTransfer 31 = .ok (.iload_n 2, 1) := by decide +kernel
theorem dX7_addTransfer_32 : decode cX7_addTransfer 32 = .ok (.baload, 1) := by decide +kernel
theorem dX7_addTransfer_33 : decode cX7_addTransfer 33 = .ok (.ifCond .ne 13, 3) := by decide +kernel
theorem dX7_addTransfer_36 : decode cX7_addTransfer 36 = .ok (.iload_n 3, 1) := by decide +kernel
theorem dX7_addTransfer_37 : decode cX7_addTransfer 37 = .ok (.iconst 1, 1) := by decide +kernel
theorem dX7_addTransfer_38 : decode cX7_addTransfer 38 = .ok (.bipush 99, 2) := by decide +kernel
theorem dX7_addTransfer_40 : decode cX7_addTransfer 40 = .ok (.invokestatic 100, 3) := by decide +kernel
theorem dX7_addTransfer_43 : decode cX7_addTransfer 43 = .ok (.ifCond .ne 9, 3) := by decide +kernel
theorem dX7_addTransfer_46 : decode cX7_addTransfer 46 = .ok (.aload_n 0, 1) := by decide +kernel
theorem dX7_addTransfer_47 : decode cX7_addTransfer 47 = .ok (.iconst 2, 1) := by decide +kernel
theorem dX7_addTransfer_48 : decode cX7_addTransfer 48 = .ok (.invokevirtual 104, 3) := by decide +kernel
theorem dX7_addTransfer_51 : decode cX7_addTransfer 51 = .ok (.ireturn, 1) := by decide +kernel
theorem dX7_addTransfer_52 : decode cX7_addTransfer 52 = .ok (.aload_n 0, 1) := by decide +kernel
theorem dX7_addTransfer_53 : decode cX7_addTransfer 53 = .ok (.iload_n 1, 1) := by decide +kernel
theorem dX7_addTransfer_54 : decode cX7_addTransfer 54 = .ok (.invokevirtual 112, 3) := by decide +kernel
theorem dX7_addTransfer_57 : decode cX7_addTransfer 57 = .ok (.ifCond .ne 20, 3) := by decide +kernel
theorem dX7_addTransfer_60 : decode cX7_addTransfer 60 = .ok (.aload_n 0, 1) := by decide +kernel
theorem dX7_addTransfer_61 : decode cX7_addTransfer 61 = .ok (.iload_n 2, 1) := by decide +kernel
theorem dX7_addTransfer_62 : decode cX7_addTransfer 62 = .ok (.invokevirtual 112, 3) := by decide +kernel
theorem dX7_addTransfer_65 : decode cX7_addTransfer 65 = .ok (.ifCond .ne 12, 3) := by decide +kernel
theorem dX7_addTransfer_68 : decode cX7_addTransfer 68 = .ok (.aload_n 0, 1) := by decide +kernel
theorem dX7_addTransfer_69 : decode cX7_addTransfer 69 = .ok (.getfield 115, 3) := by decide +kernel
theorem dX7_addTransfer_72 : decode cX7_addTransfer 72 = .ok (.bipush 16, 2) := by decide +kernel
theorem dX7_addTransfer_74 : decode cX7_addTransfer 74 = .ok (.if_icmp .ne 9, 3) := by decide +kernel
theorem dX7_addTransfer_77 : decode cX7_addTransfer 77 = .ok (.aload_n 0, 1) := by decide +kernel
theorem dX7_addTransfer_78 : decode cX7_addTransfer 78 = .ok (.iconst 3, 1) := by decide +kernel
theorem dX7_addTransfer_79 : decode cX7_addTransfer 79 = .ok (.invokevirtual 104, 3) := by decide +kernel
theorem dX7_addTransfer_82 : decode cX7_addTransfer 82 = .ok (.ireturn, 1) := by decide +kernel
theorem dX7_addTransfer_83 : decode cX7_addTransfer 83 = .ok (.aload_n 0, 1) := by decide +kernel
theorem dX7_addTransfer_84 : decode cX7_addTransfer 84 = .ok (.getfield 48, 3) := by decide +kernel
theorem dX7_addTransfer_87 : decode cX7_addTransfer 87 = .ok (.aload_n 0, 1) := by decide +kernel
theorem dX7_addTransfer_88 : decode cX7_addTransfer 88 = .ok (.getfield 115, 3) := by decide +kernel
theorem dX7_addTransfer_91 : decode cX7_addTransfer 91 = .ok (.iload_n 1, 1) := by decide +kernel
theorem dX7_addTransfer_92 : decode cX7_addTransfer 92 = .ok (.iastore, 1) := by decide +kernel
theorem dX7_addTransfer_93 : decode cX7_addTransfer 93 = .ok (.aload_n 0, 1) := by decide +kernel
theorem dX7_addTransfer_94 : decode cX7_addTransfer 94 = .ok (.getfield 51, 3) := by decide +kernel
theorem dX7_addTransfer_97 : decode cX7_addTransfer 97 = .ok (.aload_n 0, 1) := by decide +kernel
theorem dX7_addTransfer_98 : decode cX7_addTransfer 98 = .ok (.getfield 115, 3) := by decide +kernel
theorem dX7_addTransfer_101 : decode cX7_addTransfer 101 = .ok (.iload_n 2, 1) := by decide +kernel
theorem dX7_addTransfer_102 : decode cX7_addTransfer 102 = .ok (.iastore, 1) := by decide +kernel
theorem dX7_addTransfer_103 : decode cX7_addTransfer 103 = .ok (.aload_n 0, 1) := by decide +kernel
theorem dX7_addTransfer_104 : decode cX7_addTransfer 104 = .ok (.getfield 54, 3) := by decide +kernel
theorem dX7_addTransfer_107 : decode cX7_addTransfer 107 = .ok (.aload_n 0, 1) := by decide +kernel
theorem dX7_addTransfer_108 : decode cX7_addTransfer 108 = .ok (.getfield 115, 3) := by decide +kernel
theorem dX7_addTransfer_111 : decode cX7_addTransfer 111 = .ok (.iload_n 3, 1) := by decide +kernel
theorem dX7_addTransfer_112 : decode cX7_addTransfer 112 = .ok (.iastore, 1) := by decide +kernel
theorem dX7_addTransfer_113 : decode cX7_addTransfer 113 = .ok (.aload_n 0, 1) := by decide +kernel
theorem dX7_addTransfer_114 : decode cX7_addTransfer 114 = .ok (.dup, 1) := by decide +kernel
theorem dX7_addTransfer_115 : decode cX7_addTransfer 115 = .ok (.getfield 115, 3) := by decide +kernel
theorem dX7_addTransfer_118 : decode cX7_addTransfer 118 = .ok (.dup_x1, 1) := by decide +kernel
theorem dX7_addTransfer_119 : decode cX7_addTransfer 119 = .ok (.iconst 1, 1) := by decide +kernel
theorem dX7_addTransfer_120 : decode cX7_addTransfer 120 = .ok (.iadd, 1) := by decide +kernel
theorem dX7_addTransfer_121 : decode cX7_addTransfer 121 = .ok (.putfield 115, 3) := by decide +kernel
theorem dX7_addTransfer_124 : decode cX7_addTransfer 124 = .ok (.ireturn, 1) := by decide +kernel
set_option maxRecDepth 20000 in
theorem ggX7_planDoor_X7_noLorry : GoodIn wsX7_planDoor wsX7_noLorry := goodIn_r _ [6, 7, 8, 9, 10, 5, 11, 25, 26, 27, 28, 29, 30, 31, 32, 33, 34, 35, 36, 37, 38, 39, 40, 41, 42, 43, 44, 45, 46, 47, 48, 49, 50, 51, 52, 53, 54, 55, 56, 57, 58] (by decide +kernel) (by decide +kernel)
set_option maxRecDepth 20000 in
theorem gX7_planDoor_X7_noLorry : GoodIn wsX7_planDoor (wsV RX7 108 RX7 yX7_noLorry wsX7_noLorry) := goodIn_app (goodIn_of _ (by decide +kernel)) ggX7_planDoor_X7_noLorry
set_option maxRecDepth 20000 in
theorem ggX7_planDoor_X7_noDoor : GoodIn wsX7_planDoor wsX7_noDoor := goodIn_r _ [15, 8, 9, 10, 5, 11, 25, 26, 27, 28, 29, 30, 31, 32, 33, 34, 35, 36, 37, 38, 39, 40, 41, 42, 43, 44, 45, 46, 47, 48, 49, 50, 51, 52, 53, 54, 55, 56, 57, 58] (by decide +kernel) (by decide +kernel)
set_option maxRecDepth 20000 in
theorem gX7_planDoor_X7_noDoor : GoodIn wsX7_planDoor (wsV RX7 118 RX7 yX7_noDoor wsX7_noDoor) := goodIn_app (goodIn_of _ (by decide +kernel)) ggX7_planDoor_X7_noDoor
set_option maxRecDepth 20000 in
theorem ggX7_planDoor_X7_isGone : GoodIn wsX7_planDoor wsX7_isGone := goodIn_ca (goodIn_r _ [19, 20, 25, 26, 27, 28, 29, 30, 31, 32, 33, 34, 35, 36, 37, 38, 39, 40, 41, 42, 43, 44, 45, 46, 47, 48, 49, 50, 51, 52, 53, 54, 55, 56, 57, 58] (by decide +kernel) (by decide +kernel)) (goodIn_sub (fun _ h => List.mem_cons_of_mem _ (List.mem_append_right _ h)) (by decide +kernel))
set_option maxRecDepth 20000 in
theorem gX7_planDoor_X7_isGone : GoodIn wsX7_planDoor (wsV RX7 112 RX7 yX7_isGone wsX7_isGone) := goodIn_app (goodIn_of _ (by decide +kernel)) ggX7_planDoor_X7_isGone
set_option maxRecDepth 20000 in
theorem ggX7_planDoor_X7_fail : GoodIn wsX7_planDoor wsX7_fail := goodIn_r _ [24, 8, 25, 26, 27, 28, 29, 30, 31, 32, 33, 34, 35, 36, 37, 38, 39, 40, 41, 42, 43, 44, 45, 46, 47, 48, 49, 50, 51, 52, 53, 54, 55, 56, 57, 58] (by decide +kernel) (by decide +kernel)
set_option maxRecDepth 20000 in
theorem gX7_planDoor_X7_fail : GoodIn wsX7_planDoor (wsV RX7 104 RX7 yX7_fail wsX7_fail) := goodIn_app (goodIn_of _ (by decide +kernel)) ggX7_planDoor_X7_fail
theorem dX7_planDoor_0 : decode cX7_planDoor 0 = .ok (.aload_n 0, 1) := by decide +kernel
theorem dX7_planDoor_1 : decode cX7_planDoor 1 = .ok (.iload_n 1, 1) := by decide +kernel
theorem dX7_planDoor_2 : decode cX7_planDoor 2 = .ok (.invokevirtual 108, 3) := by decide +kernel
theorem dX7_planDoor_5 : decode cX7_planDoor 5 = .ok (.ifCond .ne 11, 3) := by decide +kernel
theorem dX7_planDoor_8 : decode cX7_planDoor 8 = .ok (.aload_n 0, 1) := by decide +kernel
theorem dX7_planDoor_9 : decode cX7_planDoor 9 = .ok (.iload_n 2, 1) := by decide +kernel
theorem dX7_planDoor_10 : decode cX7_planDoor 10 = .ok (.invokevirtual 118, 3) := by decide +kernel
theorem dX7_planDoor_13 : decode cX7_planDoor 13 = .ok (.ifCond .eq 5, 3) := by decide +kernel
theorem dX7_planDoor_16 : decode cX7_planDoor 16 = .ok (.iconst 0, 1) := by decide +kernel
theorem dX7_planDoor_17 : decode cX7_planDoor 17 = .ok (.ireturn, 1) := by decide +kernel
theorem dX7_planDoor_18 : decode cX7_planDoor 18 = .ok (.aload_n 0, 1) := by decide +kernel
theorem dX7_planDoor_19 : decode cX7_planDoor 19 = .ok (.iload_n 1, 1) := by decide +kernel
theorem dX7_planDoor_20 : decode cX7_planDoor 20 = .ok (.invokevirtual 112, 3) := by decide +kernel
theorem dX7_planDoor_23 : decode cX7_planDoor 23 = .ok (.ifCond .eq 9, 3) := by decide +kernel
theorem dX7_planDoor_26 : decode cX7_planDoor 26 = .ok (.aload_n 0, 1) := by decide +kernel
theorem dX7_planDoor_27 : decode cX7_planDoor 27 = .ok (.iconst 2, 1) := by decide +kernel
theorem dX7_planDoor_28 : decode cX7_planDoor 28 = .ok (.invokevirtual 104, 3) := by decide +kernel
theorem dX7_planDoor_31 : decode cX7_planDoor 31 = .ok (.ireturn, 1) := by decide +kernel
theorem dX7_planDoor_32 : decode cX7_planDoor 32 = .ok (.aload_n 0, 1) := by decide +kernel
theorem dX7_planDoor_33 : decode cX7_planDoor 33 = .ok (.getfield 23, 3) := by decide +kernel
theorem dX7_planDoor_36 : decode cX7_planDoor 36 = .ok (.iload_n 1, 1) := by decide +kernel
theorem dX7_planDoor_37 : decode cX7_planDoor 37 = .ok (.iaload, 1) := by decide +kernel
theorem dX7_planDoor_38 : decode cX7_planDoor 38 = .ok (.istore_n 3, 1) := by decide +kernel
theorem dX7_planDoor_39 : decode cX7_planDoor 39 = .ok (.aload_n 0, 1) := by decide +kernel
theorem dX7_planDoor_40 : decode cX7_planDoor 40 = .ok (.getfield 23, 3) := by decide +kernel
theorem dX7_planDoor_43 : decode cX7_planDoor 43 = .ok (.iload_n 1, 1) := by decide +kernel
theorem dX7_planDoor_44 : decode cX7_planDoor 44 = .ok (.iload_n 2, 1) := by decide +kernel
theorem dX7_planDoor_45 : decode cX7_planDoor 45 = .ok (.iastore, 1) := by decide +kernel
theorem dX7_planDoor_46 : decode cX7_planDoor 46 = .ok (.iload_n 3, 1) := by decide +kernel
theorem dX7_planDoor_47 : decode cX7_planDoor 47 = .ok (.ireturn, 1) := by decide +kernel
set_option maxRecDepth 20000 in
theorem ggX7_arrive_X7_noLorry : GoodIn wsX7_arrive wsX7_noLorry := goodIn_r _ [10, 5, 11, 12, 13, 9, 14, 19, 20, 21, 22, 23, 24, 25, 26, 27, 28, 29, 30, 31, 32, 33, 34, 35, 36, 37, 38, 39, 40, 41, 42, 43, 44, 45, 46, 47, 48, 49, 50, 51, 52] (by decide +kernel) (by decide +kernel)
set_option maxRecDepth 20000 in
theorem gX7_arrive_X7_noLorry : GoodIn wsX7_arrive (wsV RX7 108 RX7 yX7_noLorry wsX7_noLorry) := goodIn_app (goodIn_of _ (by decide +kernel)) ggX7_arrive_X7_noLorry
set_option maxRecDepth 20000 in
theorem ggX7_arrive_X7_fail : GoodIn wsX7_arrive wsX7_fail := goodIn_r _ [18, 11, 19, 20, 21, 22, 23, 24, 25, 26, 27, 28, 29, 30, 31, 32, 33, 34, 35, 36, 37, 38, 39, 40, 41, 42, 43, 44, 45, 46, 47, 48, 49, 50, 51, 52] (by decide +kernel) (by decide +kernel)
set_option maxRecDepth 20000 in
theorem gX7_arrive_X7_fail : GoodIn wsX7_arrive (wsV RX7 104 RX7 yX7_fail wsX7_fail) := goodIn_app (goodIn_of _ (by decide +kernel)) ggX7_arrive_X7_fail
theorem dX7_arrive_0 : decode cX7_arrive 0 = .ok (.aload_n 0, 1) := by decide +kernel
theorem dX7_arrive_1 : decode cX7_arrive 1 = .ok (.iload_n 1, 1) := by decide +kernel
theorem dX7_arrive_2 : decode cX7_arrive 2 = .ok (.invokevirtual 108, 3) := by decide +kernel
theorem dX7_arrive_5 : decode cX7_arrive 5 = .ok (.ifCond .eq 5, 3) := by decide +kernel
theorem dX7_arrive_8 : decode cX7_arrive 8 = .ok (.iconst 0, 1) := by decide +kernel
theorem dX7_arrive_9 : decode cX7_arrive 9 = .ok (.ireturn, 1) := by decide +kernel
theorem dX7_arrive_10 : decode cX7_arrive 10 = .ok (.aload_n 0, 1) := by decide +kernel
theorem dX7_arrive_11 : decode cX7_arrive 11 = .ok (.getfield 44, 3) := by decide +kernel
theorem dX7_arrive_14 : decode cX7_arrive 14 = .ok (.iload_n 1, 1) := by decide +kernel
theorem dX7_arrive_15 : decode cX7_arrive 15 = .ok (.caload, 1) := by decide +kernel
theorem dX7_arrive_16 : decode cX7_arrive 16 = .ok (.bipush 101, 2) := by decide +kernel
theorem dX7_arrive_18 : decode cX7_arrive 18 = .ok (.if_icmp .eq 9, 3) := by decide +kernel
theorem dX7_arrive_21 : decode cX7_arrive 21 = .ok (.aload_n 0, 1) := by decide +kernel
theorem dX7_arrive_22 : decode cX7_arrive 22 = .ok (.iconst 2, 1) := by decide +kernel
theorem dX7_arrive_23 : decode cX7_arrive 23 = .ok (.invokevirtual 104, 3) := by decide +kernel
theorem dX7_arrive_26 : decode cX7_arrive 26 = .ok (.ireturn, 1) := by decide +kernel
theorem dX7_arrive_27 : decode cX7_arrive 27 = .ok (.aload_n 0, 1) := by decide +kernel
theorem dX7_arrive_28 : decode cX7_arrive 28 = .ok (.getfield 23, 3) := by decide +kernel
theorem dX7_arrive_31 : decode cX7_arrive 31 = .ok (.iload_n 1, 1) := by decide +kernel
theorem dX7_arrive_32 : decode cX7_arrive 32 = .ok (.iaload, 1) := by decide +kernel
theorem dX7_arrive_33 : decode cX7_arrive 33 = .ok (.iconst (-1), 1) := by decide +kernel
theorem dX7_arrive_34 : decode cX7_arrive 34 = .ok (.if_icmp .ne 9, 3) := by decide +kernel
theorem dX7_arrive_37 : decode cX7_arrive 37 = .ok (.aload_n 0, 1) := by decide +kernel
theorem dX7_arrive_38 : decode cX7_arrive 38 = .ok (.iconst 3, 1) := by decide +kernel
theorem dX7_arrive_39 : decode cX7_arrive 39 = .ok (.invokevirtual 104, 3) := by decide +kernel
theorem dX7_arrive_42 : decode cX7_arrive 42 = .ok (.ireturn, 1) := by decide +kernel
theorem dX7_arrive_43 : decode cX7_arrive 43 = .ok (.aload_n 0, 1) := by decide +kernel
theorem dX7_arrive_44 : decode cX7_arrive 44 = .ok (.getfield 44, 3) := by decide +kernel
theorem dX7_arrive_47 : decode cX7_arrive 47 = .ok (.iload_n 1, 1) := by decide +kernel
theorem dX7_arrive_48 : decode cX7_arrive 48 = .ok (.bipush 121, 2) := by decide +kernel
theorem dX7_arrive_50 : decode cX7_arrive 50 = .ok (.castore, 1) := by decide +kernel
theorem dX7_arrive_51 : decode cX7_arrive 51 = .ok (.aload_n 0, 1) := by decide +kernel
theorem dX7_arrive_52 : decode cX7_arrive 52 = .ok (.getfield 26, 3) := by decide +kernel
theorem dX7_arrive_55 : decode cX7_arrive 55 = .ok (.iload_n 1, 1) := by decide +kernel
theorem dX7_arrive_56 : decode cX7_arrive 56 = .ok (.aload_n 0, 1) := by decide +kernel
theorem dX7_arrive_57 : decode cX7_arrive 57 = .ok (.getfield 121, 3) := by decide +kernel
theorem dX7_arrive_60 : decode cX7_arrive 60 = .ok (.iastore, 1) := by decide +kernel
theorem dX7_arrive_61 : decode cX7_arrive 61 = .ok (.iconst 0, 1) := by decide +kernel
theorem dX7_arrive_62 : decode cX7_arrive 62 = .ok (.istore_n 2, 1) := by decide +kernel
theorem dX7_arrive_63 : decode cX7_arrive 63 = .ok (.iconst 0, 1) := by decide +kernel
theorem dX7_arrive_64 : decode cX7_arrive 64 = .ok (.istore_n 3, 1) := by decide +kernel
theorem dX7_arrive_65 : decode cX7_arrive 65 = .ok (.iload_n 3, 1) := by decide +kernel
theorem dX7_arrive_66 : decode cX7_arrive 66 = .ok (.aload_n 0, 1) := by decide +kernel
theorem dX7_arrive_67 : decode cX7_arrive 67 = .ok (.getfield 97, 3) := by decide +kernel
theorem dX7_arrive_70 : decode cX7_arrive 70 = .ok (.if_icmp .ge 28, 3) := by decide +kernel
theorem dX7_arrive_73 : decode cX7_arrive 73 = .ok (.iload_n 2, 1) := by decide +kernel
theorem dX7_arrive_74 : decode cX7_arrive 74 = .ok (.aload_n 0, 1) := by decide +kernel
theorem dX7_arrive_75 : decode cX7_arrive 75 = .ok (.getfield 44, 3) := by decide +kernel
theorem dX7_arrive_78 : decode cX7_arrive 78 = .ok (.iload_n 3, 1) := by decide +kernel
theorem dX7_arrive_79 : decode cX7_arrive 79 = .ok (.caload, 1) := by decide +kernel
theorem dX7_arrive_80 : decode cX7_arrive 80 = .ok (.bipush 121, 2) := by decide +kernel
theorem dX7_arrive_82 : decode cX7_arrive 82 = .ok (.if_icmp .ne 7, 3) := by decide +kernel
theorem dX7_arrive_85 : decode cX7_arrive 85 = .ok (.iconst 1, 1) := by decide +kernel
theorem dX7_arrive_86 : decode cX7_arrive 86 = .ok (.goto 4, 3) := by decide +kernel
theorem dX7_arrive_89 : decode cX7_arrive 89 = .ok (.iconst 0, 1) := by decide +kernel
theorem dX7_arrive_90 : decode cX7_arrive 90 = .ok (.iadd, 1) := by decide +kernel
theorem dX7_arrive_91 : decode cX7_arrive 91 = .ok (.istore_n 2, 1) := by decide +kernel
theorem dX7_arrive_92 : decode cX7_arrive 92 = .ok (.iinc 3 1, 3) := by decide +kernel
theorem dX7_arrive_95 : decode cX7_arrive 95 = .ok (.goto (-30), 3) := by decide +kernel
theorem dX7_arrive_98 : decode cX7_arrive 98 = .ok (.iload_n 2, 1) := by decide +kernel
theorem dX7_arrive_99 : decode cX7_arrive 99 = .ok (.ireturn, 1) := by decide +kernel
theorem dX7_missing_0 : decode cX7_missing 0 = .ok (.iconst 0, 1) := by decide +kernel
theorem dX7_missing_1 : decode cX7_missing 1 = .ok (.istore_n 2, 1) := by decide +kernel
theorem dX7_missing_2 : decode cX7_missing 2 = .ok (.iconst 0, 1) := by decide +kernel
theorem dX7_missing_3 : decode cX7_missing 3 = .ok (.istore_n 3, 1) := by decide +kernel
theorem dX7_missing_4 : decode cX7_missing 4 = .ok (.iload_n 3, 1) := by decide +kernel
theorem dX7_missing_5 : decode cX7_missing 5 = .ok (.aload_n 0, 1) := by decide +kernel
theorem dX7_missing_6 : decode cX7_missing 6 = .ok (.getfield 115, 3) := by decide +kernel
theorem dX7_missing_9 : decode cX7_missing 9 = .ok (.if_icmp .ge 71, 3) := by decide +kernel
theorem dX7_missing_12 : decode cX7_missing 12 = .ok (.aload_n 0, 1) := by decide +kernel
theorem dX7_missing_13 : decode cX7_missing 13 = .ok (.getfield 7, 3) := by decide +kernel
theorem dX7_missing_16 : decode cX7_missing 16 = .ok (.iload_n 1, 1) := by decide +kernel
theorem dX7_missing_17 : decode cX7_missing 17 = .ok (.baload, 1) := by decide +kernel
theorem dX7_missing_18 : decode cX7_missing 18 = .ok (.ifCond .eq 12, 3) := by decide +kernel
theorem dX7_missing_21 : decode cX7_missing 21 = .ok (.aload_n 0, 1) := by decide +kernel
theorem dX7_missing_22 : decode cX7_missing 22 = .ok (.getfield 48, 3) := by decide +kernel
theorem dX7_missing_25 : decode cX7_missing 25 = .ok (.iload_n 3, 1) := by decide +kernel
theorem dX7_missing_26 : decode cX7_missing 26 = .ok (.iaload, 1) := by decide +kernel
theorem dX7_missing_27 : decode cX7_missing 27 = .ok (.goto 9, 3) := by decide +kernel
theorem dX7_missing_30 : decode cX7_missing 30 = .ok (.aload_n 0, 1) := by decide +kernel
theorem dX7_missing_31 : decode cX7_missing 31 = .ok (.getfield 51, 3) := by decide +kernel
theorem dX7_missing_34 : decode cX7_missing 34 = .ok (.iload_n 3, 1) := by decide +kernel
theorem dX7_missing_35 : decode cX7_missing 35 = .ok (.iaload, 1) := by decide +kernel
theorem dX7_missing_36 : decode cX7_missing 36 = .ok (.iload_n 1, 1) := by decide +kernel
theorem dX7_missing_37 : decode cX7_missing 37 = .ok (.if_icmp .ne 37, 3) := by decide +kernel
theorem dX7_missing_40 : decode cX7_missing 40 = .ok (.iload_n 2, 1) := by decide +kernel
theorem dX7_missing_41 : decode cX7_missing 41 = .ok (.aload_n 0, 1) := by decide +kernel
theorem dX7_missing_42 : decode cX7_missing 42 = .ok (.getfield 54, 3) := by decide +kernel
theorem dX7_missing_45 : decode cX7_missing 45 = .ok (.iload_n 3, 1) := by decide +kernel
theorem dX7_missing_46 : decode cX7_missing 46 = .ok (.iaload, 1) := by decide +kernel
theorem dX7_missing_47 : decode cX7_missing 47 = .ok (.aload_n 0, 1) := by decide +kernel
theorem dX7_missing_48 : decode cX7_missing 48 = .ok (.getfield 7, 3) := by decide +kernel
theorem dX7_missing_51 : decode cX7_missing 51 = .ok (.iload_n 1, 1) := by decide +kernel
theorem dX7_missing_52 : decode cX7_missing 52 = .ok (.baload, 1) := by decide +kernel
theorem dX7_missing_53 : decode cX7_missing 53 = .ok (.ifCond .eq 12, 3) := by decide +kernel
theorem dX7_missing_56 : decode cX7_missing 56 = .ok (.aload_n 0, 1) := by decide +kernel
theorem dX7_missing_57 : decode cX7_missing 57 = .ok (.getfield 57, 3) := by decide +kernel
theorem dX7_missing_60 : decode cX7_missing 60 = .ok (.iload_n 3, 1) := by decide +kernel
theorem dX7_missing_61 : decode cX7_missing 61 = .ok (.iaload, 1) := by decide +kernel
theorem dX7_missing_62 : decode cX7_missing 62 = .ok (.goto 9, 3) := by decide +kernel
theorem dX7_missing_65 : decode cX7_missing 65 = .ok (.aload_n 0, 1) := by decide +kernel
theorem dX7_missing_66 : decode cX7_missing 66 = .ok (.getfield 63, 3) := by decide +kernel
theorem dX7_missing_69 : decode cX7_missing 69 = .ok (.iload_n 3, 1) := by decide +kernel
theorem dX7_missing_70 : decode cX7_missing 70 = .ok (.iaload, 1) := by decide +kernel
theorem dX7_missing_71 : decode cX7_missing 71 = .ok (.isub, 1) := by decide +kernel
theorem dX7_missing_72 : decode cX7_missing 72 = .ok (.iadd, 1) := by decide +kernel
theorem dX7_missing_73 : decode cX7_missing 73 = .ok (.istore_n 2, 1) := by decide +kernel
theorem dX7_missing_74 : decode cX7_missing 74 = .ok (.iinc 3 1, 3) := by decide +kernel
theorem dX7_missing_77 : decode cX7_missing 77 = .ok (.goto (-73), 3) := by decide +kernel
theorem dX7_missing_80 : decode cX7_missing 80 = .ok (.iload_n 2, 1) := by decide +kernel
theorem dX7_missing_81 : decode cX7_missing 81 = .ok (.ireturn, 1) := by decide +kernel
theorem dX7_leaves_0 : decode cX7_leaves 0 = .ok (.aload_n 0, 1) := by decide +kernel
theorem dX7_leaves_1 : decode cX7_leaves 1 = .ok (.getfield 44, 3) := by decide +kernel
theorem dX7_leaves_4 : decode cX7_leaves 4 = .ok (.iload_n 1, 1) := by decide +kernel
theorem dX7_leaves_5 : decode cX7_leaves 5 = .ok (.caload, 1) := by decide +kernel
theorem dX7_leaves_6 : decode cX7_leaves 6 = .ok (.bipush 100, 2) := by decide +kernel
theorem dX7_leaves_8 : decode cX7_leaves 8 = .ok (.if_icmp .ne 15, 3) := by decide +kernel
theorem dX7_leaves_11 : decode cX7_leaves 11 = .ok (.aload_n 0, 1) := by decide +kernel
theorem dX7_leaves_12 : decode cX7_leaves 12 = .ok (.getfield 81, 3) := by decide +kernel
theorem dX7_leaves_15 : decode cX7_leaves 15 = .ok (.aload_n 0, 1) := by decide +kernel
theorem dX7_leaves_16 : decode cX7_leaves 16 = .ok (.getfield 23, 3) := by decide +kernel
theorem dX7_leaves_19 : decode cX7_leaves 19 = .ok (.iload_n 1, 1) := by decide +kernel
theorem dX7_leaves_20 : decode cX7_leaves 20 = .ok (.iaload, 1) := by decide +kernel
theorem dX7_leaves_21 : decode cX7_leaves 21 = .ok (.iconst (-1), 1) := by decide +kernel
theorem dX7_leaves_22 : decode cX7_leaves 22 = .ok (.iastore, 1) := by decide +kernel
theorem dX7_leaves_23 : decode cX7_leaves 23 = .ok (.aload_n 0, 1) := by decide +kernel
theorem dX7_leaves_24 : decode cX7_leaves 24 = .ok (.getfield 44, 3) := by decide +kernel
theorem dX7_leaves_27 : decode cX7_leaves 27 = .ok (.iload_n 1, 1) := by decide +kernel
theorem dX7_leaves_28 : decode cX7_leaves 28 = .ok (.bipush 108, 2) := by decide +kernel
theorem dX7_leaves_30 : decode cX7_leaves 30 = .ok (.castore, 1) := by decide +kernel
theorem dX7_leaves_31 : decode cX7_leaves 31 = .ok (.aload_n 0, 1) := by decide +kernel
theorem dX7_leaves_32 : decode cX7_leaves 32 = .ok (.getfield 35, 3) := by decide +kernel
theorem dX7_leaves_35 : decode cX7_leaves 35 = .ok (.iload_n 1, 1) := by decide +kernel
theorem dX7_leaves_36 : decode cX7_leaves 36 = .ok (.iload_n 2, 1) := by decide +kernel
theorem dX7_leaves_37 : decode cX7_leaves 37 = .ok (.iastore, 1) := by decide +kernel
theorem dX7_leaves_38 : decode cX7_leaves 38 = .ok (.return_, 1) := by decide +kernel
set_option maxRecDepth 20000 in
theorem ggX7_sendOff_X7_noLorry : GoodIn wsX7_sendOff wsX7_noLorry := goodIn_r _ [7, 8, 9, 10, 11, 6, 12, 35, 36, 37, 38, 39, 40, 41, 42, 43, 44, 45, 46, 47, 48, 49, 50, 51, 52, 53, 54, 55, 56, 57, 58, 59, 60, 61, 62, 63, 64, 65, 66, 67, 68] (by decide +kernel) (by decide +kernel)
set_option maxRecDepth 20000 in
theorem gX7_sendOff_X7_noLorry : GoodIn wsX7_sendOff (wsV RX7 108 RX7 yX7_noLorry wsX7_noLorry) := goodIn_app (goodIn_of _ (by decide +kernel)) ggX7_sendOff_X7_noLorry
set_option maxRecDepth 20000 in
theorem ggX7_sendOff_X7_fail : GoodIn wsX7_sendOff wsX7_fail := goodIn_r _ [16, 9, 35, 36, 37, 38, 39, 40, 41, 42, 43, 44, 45, 46, 47, 48, 49, 50, 51, 52, 53, 54, 55, 56, 57, 58, 59, 60, 61, 62, 63, 64, 65, 66, 67, 68] (by decide +kernel) (by decide +kernel)
set_option maxRecDepth 20000 in
theorem gX7_sendOff_X7_fail : GoodIn wsX7_sendOff (wsV RX7 104 RX7 yX7_fail wsX7_fail) := goodIn_app (goodIn_of _ (by decide +kernel)) ggX7_sendOff_X7_fail
set_option maxRecDepth 20000 in
theorem ggX7_sendOff_X7_leaves : GoodIn wsX7_sendOff wsX7_leaves := goodIn_ca (goodIn_r _ [20, 1, 21, 22, 23, 35, 36, 37, 38, 39, 40, 41, 42, 43, 44, 45, 46, 47, 48, 49, 50, 51, 52, 53, 54, 55, 56, 57, 58, 59, 60, 61, 62, 63, 64, 65, 66, 67, 68] (by decide +kernel) (by decide +kernel)) (goodIn_sub (fun _ h => List.mem_cons_of_mem _ (List.mem_append_right _ h)) (by decide +kernel))
set_option maxRecDepth 20000 in
theorem gX7_sendOff_X7_leaves : GoodIn wsX7_sendOff (wsV RX7 124 RX7 yX7_leaves wsX7_leaves) := goodIn_app (goodIn_of _ (by decide +kernel)) ggX7_sendOff_X7_leaves
set_option maxRecDepth 20000 in
theorem ggX7_sendOff_X7_missing : GoodIn wsX7_sendOff wsX7_missing := goodIn_ca (goodIn_r _ [27, 28, 29, 30, 31, 32, 33, 34, 35, 36, 37, 38, 39, 40, 41, 42, 43, 44, 45, 46, 47, 48, 49, 50, 51, 52, 53, 54, 55, 56, 57, 58, 59, 60, 61, 62, 63, 64, 65, 66, 67, 68] (by decide +kernel) (by decide +kernel)) (goodIn_sub (fun _ h => List.mem_cons_of_mem _ (List.mem_append_right _ h)) (by decide +kernel))
set_option maxRecDepth 20000 in
theorem gX7_sendOff_X7_missing : GoodIn wsX7_sendOff (wsV RX7 128 RX7 yX7_missing wsX7_missing) := goodIn_app (goodIn_of _ (by decide +kernel)) ggX7_sendOff_X7_missing
theorem dX7_sendOff_0 : decode cX7_sendOff 0 = .ok (.aload_n 0, 1) := by decide +kernel
theorem dX7_sendOff_1 : decode cX7_sendOff 1 = .ok (.iload_n 1, 1) := by decide +kernel
theorem dX7_sendOff_2 : decode cX7_sendOff 2 = .ok (.invokevirtual 108, 3) := by decide +kernel
theorem dX7_sendOff_5 : decode cX7_sendOff 5 = .ok (.ifCond .eq 5, 3) := by decide +kernel
theorem dX7_sendOff_8 : decode cX7_sendOff 8 = .ok (.iconst 0, 1) := by decide +kernel
theorem dX7_sendOff_9 : decode cX7_sendOff 9 = .ok (.ireturn, 1) := by decide +kernel
theorem dX7_sendOff_10 : decode cX7_sendOff 10 = .ok (.aload_n 0, 1) := by decide +kernel
theorem dX7_sendOff_11 : decode cX7_sendOff 11 = .ok (.getfield 44, 3) := by decide +kernel
theorem dX7_sendOff_14 : decode cX7_sendOff 14 = .ok (.iload_n 1, 1) := by decide +kernel
theorem dX7_sendOff_15 : decode cX7_sendOff 15 = .ok (.caload, 1) := by decide +kernel
theorem dX7_sendOff_16 : decode cX7_sendOff 16 = .ok (.bipush 121, 2) := by decide +kernel
theorem dX7_sendOff_18 : decode cX7_sendOff 18 = .ok (.if_icmp .eq 20, 3) := by decide +kernel
theorem dX7_sendOff_21 : decode cX7_sendOff 21 = .ok (.aload_n 0, 1) := by decide +kernel
theorem dX7_sendOff_22 : decode cX7_sendOff 22 = .ok (.getfield 44, 3) := by decide +kernel
theorem dX7_sendOff_25 : decode cX7_sendOff 25 = .ok (.iload_n 1, 1) := by decide +kernel
theorem dX7_sendOff_26 : decode cX7_sendOff 26 = .ok (.caload, 1) := by decide +kernel
theorem dX7_sendOff_27 : decode cX7_sendOff 27 = .ok (.bipush 100, 2) := by decide +kernel
theorem dX7_sendOff_29 : decode cX7_sendOff 29 = .ok (.if_icmp .eq 9, 3) := by decide +kernel
theorem dX7_sendOff_32 : decode cX7_sendOff 32 = .ok (.aload_n 0, 1) := by decide +kernel
theorem dX7_sendOff_33 : decode cX7_sendOff 33 = .ok (.iconst 2, 1) := by decide +kernel
theorem dX7_sendOff_34 : decode cX7_sendOff 34 = .ok (.invokevirtual 104, 3) := by decide +kernel
theorem dX7_sendOff_37 : decode cX7_sendOff 37 = .ok (.ireturn, 1) := by decide +kernel
theorem dX7_sendOff_38 : decode cX7_sendOff 38 = .ok (.aload_n 0, 1) := by decide +kernel
theorem dX7_sendOff_39 : decode cX7_sendOff 39 = .ok (.iload_n 1, 1) := by decide +kernel
theorem dX7_sendOff_40 : decode cX7_sendOff 40 = .ok (.aload_n 0, 1) := by decide +kernel
theorem dX7_sendOff_41 : decode cX7_sendOff 41 = .ok (.getfield 121, 3) := by decide +kernel
theorem dX7_sendOff_44 : decode cX7_sendOff 44 = .ok (.invokevirtual 124, 3) := by decide +kernel
theorem dX7_sendOff_47 : decode cX7_sendOff 47 = .ok (.aload_n 0, 1) := by decide +kernel
theorem dX7_sendOff_48 : decode cX7_sendOff 48 = .ok (.iload_n 1, 1) := by decide +kernel
theorem dX7_sendOff_49 : decode cX7_sendOff 49 = .ok (.invokevirtual 128, 3) := by decide +kernel
theorem dX7_sendOff_52 : decode cX7_sendOff 52 = .ok (.ireturn, 1) := by decide +kernel
set_option maxRecDepth 20000 in
theorem ggX7_addGang_X7_isIn : GoodIn wsX7_addGang wsX7_isIn := goodIn_r _ [10] (by decide +kernel) (by decide +kernel)
set_option maxRecDepth 20000 in
theorem gX7_addGang_X7_isIn : GoodIn wsX7_addGang (va_wsS RX7 100 yX7_isIn wsX7_isIn) := goodIn_app (goodIn_of _ (by decide +kernel)) ggX7_addGang_X7_isIn
set_option maxRecDepth 20000 in
theorem ggX7_addGang_X7_fail : GoodIn wsX7_addGang wsX7_fail := goodIn_r _ [14, 2, 15, 16, 17, 18, 19, 20, 21, 22, 23, 24, 25, 26, 27, 28, 29, 30, 31, 32, 33, 34, 35, 36, 37, 38, 39, 40, 41, 42, 43, 44, 45, 46, 47, 48] (by decide +kernel) (by decide +kernel)
set_option maxRecDepth 20000 in
theorem gX7_addGang_X7_fail : GoodIn wsX7_addGang (wsV RX7 104 RX7 yX7_fail wsX7_fail) := goodIn_app (goodIn_of _ (by decide +kernel)) ggX7_addGang_X7_fail
theorem dX7_addGang_0 : decode cX7_addGang 0 = .ok (.iload_n 1, 1) := by decide +kernel
theorem dX7_addGang_1 : decode cX7_addGang 1 = .ok (.iconst 1, 1) := by decide +kernel
theorem dX7_addGang_2 : decode cX7_addGang 2 = .ok (.bipush 9, 2) := by decide +kernel
theorem dX7_addGang_4 : decode cX7_addGang 4 = .ok (.invokestatic 100, 3) := by decide +kernel
theorem dX7_addGang_7 : decode cX7_addGang 7 = .ok (.ifCond .eq 27, 3) := by decide +kernel
theorem dX7_addGang_10 : decode cX7_addGang 10 = .ok (.iload_n 2, 1) := by decide +kernel
theorem dX7_addGang_11 : decode cX7_addGang 11 = .ok (.iconst 0, 1) := by decide +kernel
theorem dX7_addGang_12 : decode cX7_addGang 12 = .ok (.sipush 1999, 3) := by decide +kernel
theorem dX7_addGang_15 : decode cX7_addGang 15 = .ok (.invokestatic 100, 3) := by decide +kernel
theorem dX7_addGang_18 : decode cX7_addGang 18 = .ok (.ifCond .eq 16, 3) := by decide +kernel
theorem dX7_addGang_21 : decode cX7_addGang 21 = .ok (.iload_n 3, 1) := by decide +kernel
theorem dX7_addGang_22 : decode cX7_addGang 22 = .ok (.iload_n 2, 1) := by decide +kernel
theorem dX7_addGang_23 : decode cX7_addGang 23 = .ok (.iconst 1, 1) := by decide +kernel
theorem dX7_addGang_24 : decode cX7_addGang 24 = .ok (.iadd, 1) := by decide +kernel
theorem dX7_addGang_25 : decode cX7_addGang 25 = .ok (.sipush 2000, 3) := by decide +kernel
theorem dX7_addGang_28 : decode cX7_addGang 28 = .ok (.invokestatic 100, 3) := by decide +kernel
theorem dX7_addGang_31 : decode cX7_addGang 31 = .ok (.ifCond .ne 9, 3) := by decide +kernel
theorem dX7_addGang_34 : decode cX7_addGang 34 = .ok (.aload_n 0, 1) := by decide +kernel
theorem dX7_addGang_35 : decode cX7_addGang 35 = .ok (.iconst 1, 1) := by decide +kernel
theorem dX7_addGang_36 : decode cX7_addGang 36 = .ok (.invokevirtual 104, 3) := by decide +kernel
theorem dX7_addGang_39 : decode cX7_addGang 39 = .ok (.ireturn, 1) := by decide +kernel
theorem dX7_addGang_40 : decode cX7_addGang 40 = .ok (.aload_n 0, 1) := by decide +kernel
theorem dX7_addGang_41 : decode cX7_addGang 41 = .ok (.getfield 131, 3) := by decide +kernel
theorem dX7_addGang_44 : decode cX7_addGang 44 = .ok (.iconst 4, 1) := by decide +kernel
theorem dX7_addGang_45 : decode cX7_addGang 45 = .ok (.if_icmp .ne 9, 3) := by decide +kernel
theorem dX7_addGang_48 : decode cX7_addGang 48 = .ok (.aload_n 0, 1) := by decide +kernel
theorem dX7_addGang_49 : decode cX7_addGang 49 = .ok (.iconst 2, 1) := by decide +kernel
theorem dX7_addGang_50 : decode cX7_addGang 50 = .ok (.invokevirtual 104, 3) := by decide +kernel
theorem dX7_addGang_53 : decode cX7_addGang 53 = .ok (.ireturn, 1) := by decide +kernel
theorem dX7_addGang_54 : decode cX7_addGang 54 = .ok (.aload_n 0, 1) := by decide +kernel
theorem dX7_addGang_55 : decode cX7_addGang 55 = .ok (.iconst 0, 1) := by decide +kernel
theorem dX7_addGang_56 : decode cX7_addGang 56 = .ok (.putfield 93, 3) := by decide +kernel
theorem dX7_addGang_59 : decode cX7_addGang 59 = .ok (.aload_n 0, 1) := by decide +kernel
theorem dX7_addGang_60 : decode cX7_addGang 60 = .ok (.getfield 69, 3) := by decide +kernel
theorem dX7_addGang_63 : decode cX7_addGang 63 = .ok (.aload_n 0, 1) := by decide +kernel
theorem dX7_addGang_64 : decode cX7_addGang 64 = .ok (.getfield 131, 3) := by decide +kernel
theorem dX7_addGang_67 : decode cX7_addGang 67 = .ok (.iload_n 1, 1) := by decide +kernel
theorem dX7_addGang_68 : decode cX7_addGang 68 = .ok (.iastore, 1) := by decide +kernel
theorem dX7_addGang_69 : decode cX7_addGang 69 = .ok (.aload_n 0, 1) := by decide +kernel
theorem dX7_addGang_70 : decode cX7_addGang 70 = .ok (.getfield 72, 3) := by decide +kernel
theorem dX7_addGang_73 : decode cX7_addGang 73 = .ok (.aload_n 0, 1) := by decide +kernel
theorem dX7_addGang_74 : decode cX7_addGang 74 = .ok (.getfield 131, 3) := by decide +kernel
theorem dX7_addGang_77 : decode cX7_addGang 77 = .ok (.iload_n 2, 1) := by decide +kernel
theorem dX7_addGang_78 : decode cX7_addGang 78 = .ok (.iastore, 1) := by decide +kernel
theorem dX7_addGang_79 : decode cX7_addGang 79 = .ok (.aload_n 0, 1) := by decide +kernel
theorem dX7_addGang_80 : decode cX7_addGang 80 = .ok (.getfield 75, 3) := by decide +kernel
theorem dX7_addGang_83 : decode cX7_addGang 83 = .ok (.aload_n 0, 1) := by decide +kernel
theorem dX7_addGang_84 : decode cX7_addGang 84 = .ok (.getfield 131, 3) := by decide +kernel
theorem dX7_addGang_87 : decode cX7_addGang 87 = .ok (.iload_n 3, 1) := by decide +kernel
theorem dX7_addGang_88 : decode cX7_addGang 88 = .ok (.iastore, 1) := by decide +kernel
theorem dX7_addGang_89 : decode cX7_addGang 89 = .ok (.aload_n 0, 1) := by decide +kernel
theorem dX7_addGang_90 : decode cX7_addGang 90 = .ok (.getfield 78, 3) := by decide +kernel
theorem dX7_addGang_93 : decode cX7_addGang 93 = .ok (.aload_n 0, 1) := by decide +kernel
theorem dX7_addGang_94 : decode cX7_addGang 94 = .ok (.getfield 131, 3) := by decide +kernel
theorem dX7_addGang_97 : decode cX7_addGang 97 = .ok (.iconst (-1), 1) := by decide +kernel
theorem dX7_addGang_98 : decode cX7_addGang 98 = .ok (.iastore, 1) := by decide +kernel
theorem dX7_addGang_99 : decode cX7_addGang 99 = .ok (.aload_n 0, 1) := by decide +kernel
theorem dX7_addGang_100 : decode cX7_addGang 100 = .ok (.dup, 1) := by decide +kernel
theorem dX7_addGang_101 : decode cX7_addGang 101 = .ok (.getfield 131, 3) := by decide +kernel
theorem dX7_addGang_104 : decode cX7_addGang 104 = .ok (.dup_x1, 1) := by decide +kernel
theorem dX7_addGang_105 : decode cX7_addGang 105 = .ok (.iconst 1, 1) := by decide +kernel
theorem dX7_addGang_106 : decode cX7_addGang 106 = .ok (.iadd, 1) := by decide +kernel
theorem dX7_addGang_107 : decode cX7_addGang 107 = .ok (.putfield 131, 3) := by decide +kernel
theorem dX7_addGang_110 : decode cX7_addGang 110 = .ok (.ireturn, 1) := by decide +kernel
set_option maxRecDepth 20000 in
theorem ggX7_moveGang_X7_isIn : GoodIn wsX7_moveGang wsX7_isIn := goodIn_r _ [7] (by decide +kernel) (by decide +kernel)
set_option maxRecDepth 20000 in
theorem gX7_moveGang_X7_isIn : GoodIn wsX7_moveGang (va_wsS RX7 100 yX7_isIn wsX7_isIn) := goodIn_app (goodIn_of _ (by decide +kernel)) ggX7_moveGang_X7_isIn
set_option maxRecDepth 20000 in
theorem ggX7_moveGang_X7_fail : GoodIn wsX7_moveGang wsX7_fail := goodIn_r _ [11, 2, 12, 13, 14, 15, 16, 17, 18, 19, 20, 21, 22, 23, 24, 25, 26, 27, 28, 29, 30, 31, 32, 33, 34, 35, 36, 37, 38, 39, 40, 41, 42, 43, 44, 45] (by decide +kernel) (by decide +kernel)
set_option maxRecDepth 20000 in
theorem gX7_moveGang_X7_fail : GoodIn wsX7_moveGang (wsV RX7 104 RX7 yX7_fail wsX7_fail) := goodIn_app (goodIn_of _ (by decide +kernel)) ggX7_moveGang_X7_fail
theorem dX7_moveGang_0 : decode cX7_moveGang 0 = .ok (.iload_n 1, 1) := by decide +kernel
theorem dX7_moveGang_1 : decode cX7_moveGang 1 = .ok (.iconst 0, 1) := by decide +kernel
theorem dX7_moveGang_2 : decode cX7_moveGang 2 = .ok (.aload_n 0, 1) := by decide +kernel
theorem dX7_moveGang_3 : decode cX7_moveGang 3 = .ok (.getfield 131, 3) := by decide +kernel
theorem dX7_moveGang_6 : decode cX7_moveGang 6 = .ok (.iconst 1, 1) := by decide +kernel
theorem dX7_moveGang_7 : decode cX7_moveGang 7 = .ok (.isub, 1) := by decide +kernel
theorem dX7_moveGang_8 : decode cX7_moveGang 8 = .ok (.invokestatic 100, 3) := by decide +kernel
theorem dX7_moveGang_11 : decode cX7_moveGang 11 = .ok (.ifCond .eq 12, 3) := by decide +kernel
theorem dX7_moveGang_14 : decode cX7_moveGang 14 = .ok (.iload_n 2, 1) := by decide +kernel
theorem dX7_moveGang_15 : decode cX7_moveGang 15 = .ok (.iconst (-1), 1) := by decide +kernel
theorem dX7_moveGang_16 : decode cX7_moveGang 16 = .ok (.iconst 3, 1) := by decide +kernel
theorem dX7_moveGang_17 : decode cX7_moveGang 17 = .ok (.invokestatic 100, 3) := by decide +kernel
theorem dX7_moveGang_20 : decode cX7_moveGang 20 = .ok (.ifCond .ne 9, 3) := by decide +kernel
theorem dX7_moveGang_23 : decode cX7_moveGang 23 = .ok (.aload_n 0, 1) := by decide +kernel
theorem dX7_moveGang_24 : decode cX7_moveGang 24 = .ok (.iconst 1, 1) := by decide +kernel
theorem dX7_moveGang_25 : decode cX7_moveGang 25 = .ok (.invokevirtual 104, 3) := by decide +kernel
theorem dX7_moveGang_28 : decode cX7_moveGang 28 = .ok (.ireturn, 1) := by decide +kernel
theorem dX7_moveGang_29 : decode cX7_moveGang 29 = .ok (.aload_n 0, 1) := by decide +kernel
theorem dX7_moveGang_30 : decode cX7_moveGang 30 = .ok (.iconst 0, 1) := by decide +kernel
theorem dX7_moveGang_31 : decode cX7_moveGang 31 = .ok (.putfield 93, 3) := by decide +kernel
theorem dX7_moveGang_34 : decode cX7_moveGang 34 = .ok (.aload_n 0, 1) := by decide +kernel
theorem dX7_moveGang_35 : decode cX7_moveGang 35 = .ok (.getfield 78, 3) := by decide +kernel
theorem dX7_moveGang_38 : decode cX7_moveGang 38 = .ok (.iload_n 1, 1) := by decide +kernel
theorem dX7_moveGang_39 : decode cX7_moveGang 39 = .ok (.iaload, 1) := by decide +kernel
theorem dX7_moveGang_40 : decode cX7_moveGang 40 = .ok (.istore_n 3, 1) := by decide +kernel
theorem dX7_moveGang_41 : decode cX7_moveGang 41 = .ok (.aload_n 0, 1) := by decide +kernel
theorem dX7_moveGang_42 : decode cX7_moveGang 42 = .ok (.getfield 78, 3) := by decide +kernel
theorem dX7_moveGang_45 : decode cX7_moveGang 45 = .ok (.iload_n 1, 1) := by decide +kernel
theorem dX7_moveGang_46 : decode cX7_moveGang 46 = .ok (.iload_n 2, 1) := by decide +kernel
theorem dX7_moveGang_47 : decode cX7_moveGang 47 = .ok (.iastore, 1) := by decide +kernel
theorem dX7_moveGang_48 : decode cX7_moveGang 48 = .ok (.iload_n 3, 1) := by decide +kernel
theorem dX7_moveGang_49 : decode cX7_moveGang 49 = .ok (.ireturn, 1) := by decide +kernel
set_option maxRecDepth 20000 in
theorem ggX7_powerOf_X7_isIn : GoodIn wsX7_powerOf wsX7_isIn := goodIn_r _ [10] (by decide +kernel) (by decide +kernel)
set_option maxRecDepth 20000 in
theorem gX7_powerOf_X7_isIn : GoodIn wsX7_powerOf (va_wsS RX7 100 yX7_isIn wsX7_isIn) := goodIn_app (goodIn_of _ (by decide +kernel)) ggX7_powerOf_X7_isIn
theorem dX7_powerOf_0 : decode cX7_powerOf 0 = .ok (.iconst 0, 1) := by decide +kernel
theorem dX7_powerOf_1 : decode cX7_powerOf 1 = .ok (.istore_n 2, 1) := by decide +kernel
theorem dX7_powerOf_2 : decode cX7_powerOf 2 = .ok (.iconst 0, 1) := by decide +kernel
theorem dX7_powerOf_3 : decode cX7_powerOf 3 = .ok (.istore_n 3, 1) := by decide +kernel
theorem dX7_powerOf_4 : decode cX7_powerOf 4 = .ok (.iload_n 3, 1) := by decide +kernel
theorem dX7_powerOf_5 : decode cX7_powerOf 5 = .ok (.aload_n 0, 1) := by decide +kernel
theorem dX7_powerOf_6 : decode cX7_powerOf 6 = .ok (.getfield 131, 3) := by decide +kernel
theorem dX7_powerOf_9 : decode cX7_powerOf 9 = .ok (.if_icmp .ge 56, 3) := by decide +kernel
theorem dX7_powerOf_12 : decode cX7_powerOf 12 = .ok (.iload_n 2, 1) := by decide +kernel
theorem dX7_powerOf_13 : decode cX7_powerOf 13 = .ok (.aload_n 0, 1) := by decide +kernel
theorem dX7_powerOf_14 : decode cX7_powerOf 14 = .ok (.getfield 78, 3) := by decide +kernel
theorem dX7_powerOf_17 : decode cX7_powerOf 17 = .ok (.iload_n 3, 1) := by decide +kernel
theorem dX7_powerOf_18 : decode cX7_powerOf 18 = .ok (.iaload, 1) := by decide +kernel
theorem dX7_powerOf_19 : decode cX7_powerOf 19 = .ok (.iload_n 1, 1) := by decide +kernel
theorem dX7_powerOf_20 : decode cX7_powerOf 20 = .ok (.if_icmp .ne 36, 3) := by decide +kernel
theorem dX7_powerOf_23 : decode cX7_powerOf 23 = .ok (.aload_n 0, 1) := by decide +kernel
theorem dX7_powerOf_24 : decode cX7_powerOf 24 = .ok (.getfield 121, 3) := by decide +kernel
theorem dX7_powerOf_27 : decode cX7_powerOf 27 = .ok (.aload_n 0, 1) := by decide +kernel
theorem dX7_powerOf_28 : decode cX7_powerOf 28 = .ok (.getfield 72, 3) := by decide +kernel
theorem dX7_powerOf_31 : decode cX7_powerOf 31 = .ok (.iload_n 3, 1) := by decide +kernel
theorem dX7_powerOf_32 : decode cX7_powerOf 32 = .ok (.iaload, 1) := by decide +kernel
theorem dX7_powerOf_33 : decode cX7_powerOf 33 = .ok (.aload_n 0, 1) := by decide +kernel
theorem dX7_powerOf_34 : decode cX7_powerOf 34 = .ok (.getfield 75, 3) := by decide +kernel
theorem dX7_powerOf_37 : decode cX7_powerOf 37 = .ok (.iload_n 3, 1) := by decide +kernel
theorem dX7_powerOf_38 : decode cX7_powerOf 38 = .ok (.iaload, 1) := by decide +kernel
theorem dX7_powerOf_39 : decode cX7_powerOf 39 = .ok (.iconst 1, 1) := by decide +kernel
theorem dX7_powerOf_40 : decode cX7_powerOf 40 = .ok (.isub, 1) := by decide +kernel
theorem dX7_powerOf_41 : decode cX7_powerOf 41 = .ok (.invokestatic 100, 3) := by decide +kernel
theorem dX7_powerOf_44 : decode cX7_powerOf 44 = .ok (.ifCond .eq 12, 3) := by decide +kernel
theorem dX7_powerOf_47 : decode cX7_powerOf 47 = .ok (.aload_n 0, 1) := by decide +kernel
theorem dX7_powerOf_48 : decode cX7_powerOf 48 = .ok (.getfield 69, 3) := by decide +kernel
theorem dX7_powerOf_51 : decode cX7_powerOf 51 = .ok (.iload_n 3, 1) := by decide +kernel
theorem dX7_powerOf_52 : decode cX7_powerOf 52 = .ok (.iaload, 1) := by decide +kernel
theorem dX7_powerOf_53 : decode cX7_powerOf 53 = .ok (.goto 4, 3) := by decide +kernel
theorem dX7_powerOf_56 : decode cX7_powerOf 56 = .ok (.iconst 0, 1) := by decide +kernel
theorem dX7_powerOf_57 : decode cX7_powerOf 57 = .ok (.iadd, 1) := by decide +kernel
theorem dX7_powerOf_58 : decode cX7_powerOf 58 = .ok (.istore_n 2, 1) := by decide +kernel
theorem dX7_powerOf_59 : decode cX7_powerOf 59 = .ok (.iinc 3 1, 3) := by decide +kernel
theorem dX7_powerOf_62 : decode cX7_powerOf 62 = .ok (.goto (-58), 3) := by decide +kernel
theorem dX7_powerOf_65 : decode cX7_powerOf 65 = .ok (.iload_n 2, 1) := by decide +kernel
theorem dX7_powerOf_66 : decode cX7_powerOf 66 = .ok (.ireturn, 1) := by decide +kernel
theorem dX7_isBefore_0 : decode cX7_isBefore 0 = .ok (.aload_n 0, 1) := by decide +kernel
theorem dX7_isBefore_1 : decode cX7_isBefore 1 = .ok (.getfield 26, 3) := by decide +kernel
theorem dX7_isBefore_4 : decode cX7_isBefore 4 = .ok (.iload_n 1, 1) := by decide +kernel
theorem dX7_isBefore_5 : decode cX7_isBefore 5 = .ok (.iaload, 1) := by decide +kernel
theorem dX7_isBefore_6 : decode cX7_isBefore 6 = .ok (.aload_n 0, 1) := by decide +kernel
theorem dX7_isBefore_7 : decode cX7_isBefore 7 = .ok (.getfield 26, 3) := by decide +kernel
theorem dX7_isBefore_10 : decode cX7_isBefore 10 = .ok (.iload_n 2, 1) := by decide +kernel
theorem dX7_isBefore_11 : decode cX7_isBefore 11 = .ok (.iaload, 1) := by decide +kernel
theorem dX7_isBefore_12 : decode cX7_isBefore 12 = .ok (.if_icmp .lt 23, 3) := by decide +kernel
theorem dX7_isBefore_15 : decode cX7_isBefore 15 = .ok (.aload_n 0, 1) := by decide +kernel
theorem dX7_isBefore_16 : decode cX7_isBefore 16 = .ok (.getfield 26, 3) := by decide +kernel
theorem dX7_isBefore_19 : decode cX7_isBefore 19 = .ok (.iload_n 1, 1) := by decide +kernel
theorem dX7_isBefore_20 : decode cX7_isBefore 20 = .ok (.iaload, 1) := by decide +kernel
theorem dX7_isBefore_21 : decode cX7_isBefore 21 = .ok (.aload_n 0, 1) := by decide +kernel
theorem dX7_isBefore_22 : decode cX7_isBefore 22 = .ok (.getfield 26, 3) := by decide +kernel
theorem dX7_isBefore_25 : decode cX7_isBefore 25 = .ok (.iload_n 2, 1) := by decide +kernel
theorem dX7_isBefore_26 : decode cX7_isBefore 26 = .ok (.iaload, 1) := by decide +kernel
theorem dX7_isBefore_27 : decode cX7_isBefore 27 = .ok (.if_icmp .ne 12, 3) := by decide +kernel
theorem dX7_isBefore_30 : decode cX7_isBefore 30 = .ok (.iload_n 1, 1) := by decide +kernel
theorem dX7_isBefore_31 : decode cX7_isBefore 31 = .ok (.iload_n 2, 1) := by decide +kernel
theorem dX7_isBefore_32 : decode cX7_isBefore 32 = .ok (.if_icmp .ge 7, 3) := by decide +kernel
theorem dX7_isBefore_35 : decode cX7_isBefore 35 = .ok (.iconst 1, 1) := by decide +kernel
theorem dX7_isBefore_36 : decode cX7_isBefore 36 = .ok (.goto 4, 3) := by decide +kernel
theorem dX7_isBefore_39 : decode cX7_isBefore 39 = .ok (.iconst 0, 1) := by decide +kernel
theorem dX7_isBefore_40 : decode cX7_isBefore 40 = .ok (.ireturn, 1) := by decide +kernel
set_option maxRecDepth 20000 in
theorem ggX7_queued_X7_isBefore : GoodIn wsX7_queued wsX7_isBefore := goodIn_ca (goodIn_r _ [8, 9, 10, 11, 12, 13, 14, 15, 16, 17, 18, 19, 20, 21, 22, 23, 24, 25, 26, 27, 28, 29, 30, 31, 32, 33, 34, 35, 36, 37, 38, 39, 40, 41, 42, 43] (by decide +kernel) (by decide +kernel)) (goodIn_sub (fun _ h => List.mem_cons_of_mem _ (List.mem_append_right _ h)) (by decide +kernel))
set_option maxRecDepth 20000 in
theorem gX7_queued_X7_isBefore : GoodIn wsX7_queued (wsV RX7 134 RX7 yX7_isBefore wsX7_isBefore) := goodIn_app (goodIn_of _ (by decide +kernel)) ggX7_queued_X7_isBefore
theorem dX7_queued_0 : decode cX7_queued 0 = .ok (.iconst 0, 1) := by decide +kernel
theorem dX7_queued_1 : decode cX7_queued 1 = .ok (.istore_n 3, 1) := by decide +kernel
theorem dX7_queued_2 : decode cX7_queued 2 = .ok (.iload_n 3, 1) := by decide +kernel
theorem dX7_queued_3 : decode cX7_queued 3 = .ok (.aload_n 0, 1) := by decide +kernel
theorem dX7_queued_4 : decode cX7_queued 4 = .ok (.getfield 97, 3) := by decide +kernel
theorem dX7_queued_7 : decode cX7_queued 7 = .ok (.if_icmp .ge 111, 3) := by decide +kernel
theorem dX7_queued_10 : decode cX7_queued 10 = .ok (.aload_n 0, 1) := by decide +kernel
theorem dX7_queued_11 : decode cX7_queued 11 = .ok (.getfield 44, 3) := by decide +kernel
theorem dX7_queued_14 : decode cX7_queued 14 = .ok (.iload_n 3, 1) := by decide +kernel
theorem dX7_queued_15 : decode cX7_queued 15 = .ok (.caload, 1) := by decide +kernel
theorem dX7_queued_16 : decode cX7_queued 16 = .ok (.bipush 121, 2) := by decide +kernel
theorem dX7_queued_18 : decode cX7_queued 18 = .ok (.if_icmp .ne 94, 3) := by decide +kernel
theorem dX7_queued_21 : decode cX7_queued 21 = .ok (.aload_n 0, 1) := by decide +kernel
theorem dX7_queued_22 : decode cX7_queued 22 = .ok (.getfield 23, 3) := by decide +kernel
theorem dX7_queued_25 : decode cX7_queued 25 = .ok (.iload_n 3, 1) := by decide +kernel
theorem dX7_queued_26 : decode cX7_queued 26 = .ok (.iaload, 1) := by decide +kernel
theorem dX7_queued_27 : decode cX7_queued 27 = .ok (.iload_n 1, 1) := by decide +kernel
theorem dX7_queued_28 : decode cX7_queued 28 = .ok (.if_icmp .eq 6, 3) := by decide +kernel
theorem dX7_queued_31 : decode cX7_queued 31 = .ok (.goto 81, 3) := by decide +kernel
theorem dX7_queued_34 : decode cX7_queued 34 = .ok (.iconst 0, 1) := by decide +kernel
theorem dX7_queued_35 : decode cX7_queued 35 = .ok (.istore 4, 2) := by decide +kernel
theorem dX7_queued_37 : decode cX7_queued 37 = .ok (.iconst 0, 1) := by decide +kernel
theorem dX7_queued_38 : decode cX7_queued 38 = .ok (.istore 5, 2) := by decide +kernel
theorem dX7_queued_40 : decode cX7_queued 40 = .ok (.iload 5, 2) := by decide +kernel
theorem dX7_queued_42 : decode cX7_queued 42 = .ok (.aload_n 0, 1) := by decide +kernel
theorem dX7_queued_43 : decode cX7_queued 43 = .ok (.getfield 97, 3) := by decide +kernel
theorem dX7_queued_46 : decode cX7_queued 46 = .ok (.if_icmp .ge 58, 3) := by decide +kernel
theorem dX7_queued_49 : decode cX7_queued 49 = .ok (.iload 4, 2) := by decide +kernel
theorem dX7_queued_51 : decode cX7_queued 51 = .ok (.aload_n 0, 1) := by decide +kernel
theorem dX7_queued_52 : decode cX7_queued 52 = .ok (.getfield 44, 3) := by decide +kernel
theorem dX7_queued_55 : decode cX7_queued 55 = .ok (.iload 5, 2) := by decide +kernel
theorem dX7_queued_57 : decode cX7_queued 57 = .ok (.caload, 1) := by decide +kernel
theorem dX7_queued_58 : decode cX7_queued 58 = .ok (.bipush 121, 2) := by decide +kernel
theorem dX7_queued_60 : decode cX7_queued 60 = .ok (.if_icmp .ne 34, 3) := by decide +kernel
theorem dX7_queued_63 : decode cX7_queued 63 = .ok (.aload_n 0, 1) := by decide +kernel
theorem dX7_queued_64 : decode cX7_queued 64 = .ok (.getfield 23, 3) := by decide +kernel
theorem dX7_queued_67 : decode cX7_queued 67 = .ok (.iload 5, 2) := by decide +kernel
theorem dX7_queued_69 : decode cX7_queued 69 = .ok (.iaload, 1) := by decide +kernel
theorem dX7_queued_70 : decode cX7_queued 70 = .ok (.iload_n 1, 1) := by decide +kernel
theorem dX7_queued_71 : decode cX7_queued 71 = .ok (.if_icmp .ne 23, 3) := by decide +kernel
theorem dX7_queued_74 : decode cX7_queued 74 = .ok (.iload 5, 2) := by decide +kernel
theorem dX7_queued_76 : decode cX7_queued 76 = .ok (.iload_n 3, 1) := by decide +kernel
theorem dX7_queued_77 : decode cX7_queued 77 = .ok (.if_icmp .eq 17, 3) := by decide +kernel
theorem dX7_queued_80 : decode cX7_queued 80 = .ok (.aload_n 0, 1) := by decide +kernel
theorem dX7_queued_81 : decode cX7_queued 81 = .ok (.iload 5, 2) := by decide +kernel
theorem dX7_queued_83 : decode cX7_queued 83 = .ok (.iload_n 3, 1) := by decide +kernel
theorem dX7_queued_84 : decode cX7_queued 84 = .ok (.invokevirtual 134, 3) := by decide +kernel
theorem dX7_queued_87 : decode cX7_queued 87 = .ok (.ifCond .eq 7, 3) := by decide +kernel
theorem dX7_queued_90 : decode cX7_queued 90 = .ok (.iconst 1, 1) := by decide +kernel
theorem dX7_queued_91 : decode cX7_queued 91 = .ok (.goto 4, 3) := by decide +kernel
theorem dX7_queued_94 : decode cX7_queued 94 = .ok (.iconst 0, 1) := by decide +kernel
theorem dX7_queued_95 : decode cX7_queued 95 = .ok (.iadd, 1) := by decide +kernel
theorem dX7_queued_96 : decode cX7_queued 96 = .ok (.istore 4, 2) := by decide +kernel
theorem dX7_queued_98 : decode cX7_queued 98 = .ok (.iinc 5 1, 3) := by decide +kernel
theorem dX7_queued_101 : decode cX7_queued 101 = .ok (.goto (-61), 3) := by decide +kernel
theorem dX7_queued_104 : decode cX7_queued 104 = .ok (.iload 4, 2) := by decide +kernel
theorem dX7_queued_106 : decode cX7_queued 106 = .ok (.iload_n 2, 1) := by decide +kernel
theorem dX7_queued_107 : decode cX7_queued 107 = .ok (.if_icmp .ne 5, 3) := by decide +kernel
theorem dX7_queued_110 : decode cX7_queued 110 = .ok (.iload_n 3, 1) := by decide +kernel
theorem dX7_queued_111 : decode cX7_queued 111 = .ok (.ireturn, 1) := by decide +kernel
theorem dX7_queued_112 : decode cX7_queued 112 = .ok (.iinc 3 1, 3) := by decide +kernel
theorem dX7_queued_115 : decode cX7_queued 115 = .ok (.goto (-113), 3) := by decide +kernel
theorem dX7_queued_118 : decode cX7_queued 118 = .ok (.iconst (-1), 1) := by decide +kernel
theorem dX7_queued_119 : decode cX7_queued 119 = .ok (.ireturn, 1) := by decide +kernel
theorem dX7_unload_0 : decode cX7_unload 0 = .ok (.iload_n 2, 1) := by decide +kernel
theorem dX7_unload_1 : decode cX7_unload 1 = .ok (.istore_n 3, 1) := by decide +kernel
theorem dX7_unload_2 : decode cX7_unload 2 = .ok (.iconst 0, 1) := by decide +kernel
theorem dX7_unload_3 : decode cX7_unload 3 = .ok (.istore 4, 2) := by decide +kernel
theorem dX7_unload_5 : decode cX7_unload 5 = .ok (.iload 4, 2) := by decide +kernel
theorem dX7_unload_7 : decode cX7_unload 7 = .ok (.aload_n 0, 1) := by decide +kernel
theorem dX7_unload_8 : decode cX7_unload 8 = .ok (.getfield 115, 3) := by decide +kernel
theorem dX7_unload_11 : decode cX7_unload 11 = .ok (.if_icmp .ge 177, 3) := by decide +kernel
theorem dX7_unload_14 : decode cX7_unload 14 = .ok (.aload_n 0, 1) := by decide +kernel
theorem dX7_unload_15 : decode cX7_unload 15 = .ok (.getfield 48, 3) := by decide +kernel
theorem dX7_unload_18 : decode cX7_unload 18 = .ok (.iload 4, 2) := by decide +kernel
theorem dX7_unload_20 : decode cX7_unload 20 = .ok (.iaload, 1) := by decide +kernel
theorem dX7_unload_21 : decode cX7_unload 21 = .ok (.iload_n 1, 1) := by decide +kernel
theorem dX7_unload_22 : decode cX7_unload 22 = .ok (.if_icmp .ne 160, 3) := by decide +kernel
theorem dX7_unload_25 : decode cX7_unload 25 = .ok (.aload_n 0, 1) := by decide +kernel
theorem dX7_unload_26 : decode cX7_unload 26 = .ok (.getfield 57, 3) := by decide +kernel
theorem dX7_unload_29 : decode cX7_unload 29 = .ok (.iload 4, 2) := by decide +kernel
theorem dX7_unload_31 : decode cX7_unload 31 = .ok (.iaload, 1) := by decide +kernel
theorem dX7_unload_32 : decode cX7_unload 32 = .ok (.aload_n 0, 1) := by decide +kernel
theorem dX7_unload_33 : decode cX7_unload 33 = .ok (.getfield 54, 3) := by decide +kernel
theorem dX7_unload_36 : decode cX7_unload 36 = .ok (.iload 4, 2) := by decide +kernel
theorem dX7_unload_38 : decode cX7_unload 38 = .ok (.iaload, 1) := by decide +kernel
theorem dX7_unload_39 : decode cX7_unload 39 = .ok (.if_icmp .eq 143, 3) := by decide +kernel
theorem dX7_unload_42 : decode cX7_unload 42 = .ok (.iload_n 3, 1) := by decide +kernel
theorem dX7_unload_43 : decode cX7_unload 43 = .ok (.ifCond .ne 6, 3) := by decide +kernel
theorem dX7_unload_46 : decode cX7_unload 46 = .ok (.goto 136, 3) := by decide +kernel
theorem dX7_unload_49 : decode cX7_unload 49 = .ok (.iload_n 3, 1) := by decide +kernel
theorem dX7_unload_50 : decode cX7_unload 50 = .ok (.aload_n 0, 1) := by decide +kernel
theorem dX7_unload_51 : decode cX7_unload 51 = .ok (.getfield 54, 3) := by decide +kernel
theorem dX7_unload_54 : decode cX7_unload 54 = .ok (.iload 4, 2) := by decide +kernel
theorem dX7_unload_56 : decode cX7_unload 56 = .ok (.iaload, 1) := by decide +kernel
theorem dX7_unload_57 : decode cX7_unload 57 = .ok (.aload_n 0, 1) := by decide +kernel
theorem dX7_unload_58 : decode cX7_unload 58 = .ok (.getfield 57, 3) := by decide +kernel
theorem dX7_unload_61 : decode cX7_unload 61 = .ok (.iload 4, 2) := by decide +kernel
theorem dX7_unload_63 : decode cX7_unload 63 = .ok (.iaload, 1) := by decide +kernel
theorem dX7_unload_64 : decode cX7_unload 64 = .ok (.isub, 1) := by decide +kernel
theorem dX7_unload_65 : decode cX7_unload 65 = .ok (.if_icmp .ge 7, 3) := by decide +kernel
theorem dX7_unload_68 : decode cX7_unload 68 = .ok (.iload_n 3, 1) := by decide +kernel
theorem dX7_unload_69 : decode cX7_unload 69 = .ok (.goto 18, 3) := by decide +kernel
theorem dX7_unload_72 : decode cX7_unload 72 = .ok (.aload_n 0, 1) := by decide +kernel
theorem dX7_unload_73 : decode cX7_unload 73 = .ok (.getfield 54, 3) := by decide +kernel
theorem dX7_unload_76 : decode cX7_unload 76 = .ok (.iload 4, 2) := by decide +kernel
theorem dX7_unload_78 : decode cX7_unload 78 = .ok (.iaload, 1) := by decide +kernel
theorem dX7_unload_79 : decode cX7_unload 79 = .ok (.aload_n 0, 1) := by decide +kernel
theorem dX7_unload_80 : decode cX7_unload 80 = .ok (.getfield 57, 3) := by decide +kernel
theorem dX7_unload_83 : decode cX7_unload 83 = .ok (.iload 4, 2) := by decide +kernel
theorem dX7_unload_85 : decode cX7_unload 85 = .ok (.iaload, 1) := by decide +kernel
theorem dX7_unload_86 : decode cX7_unload 86 = .ok (.isub, 1) := by decide +kernel
theorem dX7_unload_87 : decode cX7_unload 87 = .ok (.istore 5, 2) := by decide +kernel
theorem dX7_unload_89 : decode cX7_unload 89 = .ok (.aload_n 0, 1) := by decide +kernel
theorem dX7_unload_90 : decode cX7_unload 90 = .ok (.getfield 23, 3) := by decide +kernel
theorem dX7_unload_93 : decode cX7_unload 93 = .ok (.aload_n 0, 1) := by decide +kernel
theorem dX7_unload_94 : decode cX7_unload 94 = .ok (.getfield 51, 3) := by decide +kernel
theorem dX7_unload_97 : decode cX7_unload 97 = .ok (.iload 4, 2) := by decide +kernel
theorem dX7_unload_99 : decode cX7_unload 99 = .ok (.iaload, 1) := by decide +kernel
theorem dX7_unload_100 : decode cX7_unload 100 = .ok (.iaload, 1) := by decide +kernel
theorem dX7_unload_101 : decode cX7_unload 101 = .ok (.iconst (-1), 1) := by decide +kernel
theorem dX7_unload_102 : decode cX7_unload 102 = .ok (.if_icmp .ne 7, 3) := by decide +kernel
theorem dX7_unload_105 : decode cX7_unload 105 = .ok (.iconst 0, 1) := by decide +kernel
theorem dX7_unload_106 : decode cX7_unload 106 = .ok (.goto 22, 3) := by decide +kernel
theorem dX7_unload_109 : decode cX7_unload 109 = .ok (.aload_n 0, 1) := by decide +kernel
theorem dX7_unload_110 : decode cX7_unload 110 = .ok (.getfield 23, 3) := by decide +kernel
theorem dX7_unload_113 : decode cX7_unload 113 = .ok (.iload_n 1, 1) := by decide +kernel
theorem dX7_unload_114 : decode cX7_unload 114 = .ok (.iaload, 1) := by decide +kernel
theorem dX7_unload_115 : decode cX7_unload 115 = .ok (.aload_n 0, 1) := by decide +kernel
theorem dX7_unload_116 : decode cX7_unload 116 = .ok (.getfield 23, 3) := by decide +kernel
theorem dX7_unload_119 : decode cX7_unload 119 = .ok (.aload_n 0, 1) := by decide +kernel
theorem dX7_unload_120 : decode cX7_unload 120 = .ok (.getfield 51, 3) := by decide +kernel
theorem dX7_unload_123 : decode cX7_unload 123 = .ok (.iload 4, 2) := by decide +kernel
theorem dX7_unload_125 : decode cX7_unload 125 = .ok (.iaload, 1) := by decide +kernel
theorem dX7_unload_126 : decode cX7_unload 126 = .ok (.iaload, 1) := by decide +kernel
theorem dX7_unload_127 : decode cX7_unload 127 = .ok (.isub, 1) := by decide +kernel
theorem dX7_unload_128 : decode cX7_unload 128 = .ok (.istore 6, 2) := by decide +kernel
theorem dX7_unload_130 : decode cX7_unload 130 = .ok (.aload_n 0, 1) := by decide +kernel
theorem dX7_unload_131 : decode cX7_unload 131 = .ok (.getfield 57, 3) := by decide +kernel
theorem dX7_unload_134 : decode cX7_unload 134 = .ok (.iload 4, 2) := by decide +kernel
theorem dX7_unload_136 : decode cX7_unload 136 = .ok (.dup2, 1) := by decide +kernel
theorem dX7_unload_137 : decode cX7_unload 137 = .ok (.iaload, 1) := by decide +kernel
theorem dX7_unload_138 : decode cX7_unload 138 = .ok (.iload 5, 2) := by decide +kernel
theorem dX7_unload_140 : decode cX7_unload 140 = .ok (.iadd, 1) := by decide +kernel
theorem dX7_unload_141 : decode cX7_unload 141 = .ok (.iastore, 1) := by decide +kernel
theorem dX7_unload_142 : decode cX7_unload 142 = .ok (.aload_n 0, 1) := by decide +kernel
theorem dX7_unload_143 : decode cX7_unload 143 = .ok (.getfield 66, 3) := by decide +kernel
theorem dX7_unload_146 : decode cX7_unload 146 = .ok (.iconst 4, 1) := by decide +kernel
theorem dX7_unload_147 : decode cX7_unload 147 = .ok (.iload 4, 2) := by decide +kernel
theorem dX7_unload_149 : decode cX7_unload 149 = .ok (.imul, 1) := by decide +kernel
theorem dX7_unload_150 : decode cX7_unload 150 = .ok (.iload 6, 2) := by decide +kernel
theorem dX7_unload_152 : decode cX7_unload 152 = .ok (.ifCond .ge 9, 3) := by decide +kernel
theorem dX7_unload_155 : decode cX7_unload 155 = .ok (.iload 6, 2) := by decide +kernel
theorem dX7_unload_157 : decode cX7_unload 157 = .ok (.ineg, 1) := by decide +kernel
theorem dX7_unload_158 : decode cX7_unload 158 = .ok (.goto 5, 3) := by decide +kernel
theorem dX7_unload_161 : decode cX7_unload 161 = .ok (.iload 6, 2) := by decide +kernel
theorem dX7_unload_163 : decode cX7_unload 163 = .ok (.iadd, 1) := by decide +kernel
theorem dX7_unload_164 : decode cX7_unload 164 = .ok (.dup2, 1) := by decide +kernel
theorem dX7_unload_165 : decode cX7_unload 165 = .ok (.iaload, 1) := by decide +kernel
theorem dX7_unload_166 : decode cX7_unload 166 = .ok (.iload 5, 2) := by decide +kernel
theorem dX7_unload_168 : decode cX7_unload 168 = .ok (.iadd, 1) := by decide +kernel
theorem dX7_unload_169 : decode cX7_unload 169 = .ok (.iastore, 1) := by decide +kernel
theorem dX7_unload_170 : decode cX7_unload 170 = .ok (.iload_n 3, 1) := by decide +kernel
theorem dX7_unload_171 : decode cX7_unload 171 = .ok (.iload 5, 2) := by decide +kernel
theorem dX7_unload_173 : decode cX7_unload 173 = .ok (.isub, 1) := by decide +kernel
theorem dX7_unload_174 : decode cX7_unload 174 = .ok (.istore_n 3, 1) := by decide +kernel
theorem dX7_unload_175 : decode cX7_unload 175 = .ok (.aload_n 0, 1) := by decide +kernel
theorem dX7_unload_176 : decode cX7_unload 176 = .ok (.getfield 13, 3) := by decide +kernel
theorem dX7_unload_179 : decode cX7_unload 179 = .ok (.iload_n 1, 1) := by decide +kernel
theorem dX7_unload_180 : decode cX7_unload 180 = .ok (.iconst 1, 1) := by decide +kernel
theorem dX7_unload_181 : decode cX7_unload 181 = .ok (.bastore, 1) := by decide +kernel
theorem dX7_unload_182 : decode cX7_unload 182 = .ok (.iinc 4 1, 3) := by decide +kernel
theorem dX7_unload_185 : decode cX7_unload 185 = .ok (.goto (-180), 3) := by decide +kernel
theorem dX7_unload_188 : decode cX7_unload 188 = .ok (.return_, 1) := by decide +kernel
theorem dX7_load_0 : decode cX7_load 0 = .ok (.iload_n 2, 1) := by decide +kernel
theorem dX7_load_1 : decode cX7_load 1 = .ok (.istore_n 3, 1) := by decide +kernel
theorem dX7_load_2 : decode cX7_load 2 = .ok (.iconst 0, 1) := by decide +kernel
theorem dX7_load_3 : decode cX7_load 3 = .ok (.istore 4, 2) := by decide +kernel
theorem dX7_load_5 : decode cX7_load 5 = .ok (.iload 4, 2) := by decide +kernel
theorem dX7_load_7 : decode cX7_load 7 = .ok (.aload_n 0, 1) := by decide +kernel
theorem dX7_load_8 : decode cX7_load 8 = .ok (.getfield 115, 3) := by decide +kernel
theorem dX7_load_11 : decode cX7_load 11 = .ok (.if_icmp .ge 97, 3) := by decide +kernel
theorem dX7_load_14 : decode cX7_load 14 = .ok (.aload_n 0, 1) := by decide +kernel
theorem dX7_load_15 : decode cX7_load 15 = .ok (.getfield 51, 3) := by decide +kernel
theorem dX7_load_18 : decode cX7_load 18 = .ok (.iload 4, 2) := by decide +kernel
theorem dX7_load_20 : decode cX7_load 20 = .ok (.iaload, 1) := by decide +kernel
theorem dX7_load_21 : decode cX7_load 21 = .ok (.iload_n 1, 1) := by decide +kernel
theorem dX7_load_22 : decode cX7_load 22 = .ok (.if_icmp .ne 80, 3) := by decide +kernel
theorem dX7_load_25 : decode cX7_load 25 = .ok (.aload_n 0, 1) := by decide +kernel
theorem dX7_load_26 : decode cX7_load 26 = .ok (.getfield 60, 3) := by decide +kernel
theorem dX7_load_29 : decode cX7_load 29 = .ok (.iload 4, 2) := by decide +kernel
theorem dX7_load_31 : decode cX7_load 31 = .ok (.iaload, 1) := by decide +kernel
theorem dX7_load_32 : decode cX7_load 32 = .ok (.ifCond .eq 70, 3) := by decide +kernel
theorem dX7_load_35 : decode cX7_load 35 = .ok (.iload_n 3, 1) := by decide +kernel
theorem dX7_load_36 : decode cX7_load 36 = .ok (.ifCond .ne 6, 3) := by decide +kernel
theorem dX7_load_39 : decode cX7_load 39 = .ok (.goto 63, 3) := by decide +kernel
theorem dX7_load_42 : decode cX7_load 42 = .ok (.iload_n 3, 1) := by decide +kernel
theorem dX7_load_43 : decode cX7_load 43 = .ok (.aload_n 0, 1) := by decide +kernel
theorem dX7_load_44 : decode cX7_load 44 = .ok (.getfield 60, 3) := by decide +kernel
theorem dX7_load_47 : decode cX7_load 47 = .ok (.iload 4, 2) := by decide +kernel
theorem dX7_load_49 : decode cX7_load 49 = .ok (.iaload, 1) := by decide +kernel
theorem dX7_load_50 : decode cX7_load 50 = .ok (.if_icmp .ge 7, 3) := by decide +kernel
theorem dX7_load_53 : decode cX7_load 53 = .ok (.iload_n 3, 1) := by decide +kernel
theorem dX7_load_54 : decode cX7_load 54 = .ok (.goto 10, 3) := by decide +kernel
theorem dX7_load_57 : decode cX7_load 57 = .ok (.aload_n 0, 1) := by decide +kernel
theorem dX7_load_58 : decode cX7_load 58 = .ok (.getfield 60, 3) := by decide +kernel
theorem dX7_load_61 : decode cX7_load 61 = .ok (.iload 4, 2) := by decide +kernel
theorem dX7_load_63 : decode cX7_load 63 = .ok (.iaload, 1) := by decide +kernel
theorem dX7_load_64 : decode cX7_load 64 = .ok (.istore 5, 2) := by decide +kernel
theorem dX7_load_66 : decode cX7_load 66 = .ok (.aload_n 0, 1) := by decide +kernel
theorem dX7_load_67 : decode cX7_load 67 = .ok (.getfield 60, 3) := by decide +kernel
theorem dX7_load_70 : decode cX7_load 70 = .ok (.iload 4, 2) := by decide +kernel
theorem dX7_load_72 : decode cX7_load 72 = .ok (.dup2, 1) := by decide +kernel
theorem dX7_load_73 : decode cX7_load 73 = .ok (.iaload, 1) := by decide +kernel
theorem dX7_load_74 : decode cX7_load 74 = .ok (.iload 5, 2) := by decide +kernel
theorem dX7_load_76 : decode cX7_load 76 = .ok (.isub, 1) := by decide +kernel
theorem dX7_load_77 : decode cX7_load 77 = .ok (.iastore, 1) := by decide +kernel
theorem dX7_load_78 : decode cX7_load 78 = .ok (.aload_n 0, 1) := by decide +kernel
theorem dX7_load_79 : decode cX7_load 79 = .ok (.getfield 63, 3) := by decide +kernel
theorem dX7_load_82 : decode cX7_load 82 = .ok (.iload 4, 2) := by decide +kernel
theorem dX7_load_84 : decode cX7_load 84 = .ok (.dup2, 1) := by decide +kernel
theorem dX7_load_85 : decode cX7_load 85 = .ok (.iaload, 1) := by decide +kernel
theorem dX7_load_86 : decode cX7_load 86 = .ok (.iload 5, 2) := by decide +kernel
theorem dX7_load_88 : decode cX7_load 88 = .ok (.iadd, 1) := by decide +kernel
theorem dX7_load_89 : decode cX7_load 89 = .ok (.iastore, 1) := by decide +kernel
theorem dX7_load_90 : decode cX7_load 90 = .ok (.iload_n 3, 1) := by decide +kernel
theorem dX7_load_91 : decode cX7_load 91 = .ok (.iload 5, 2) := by decide +kernel
theorem dX7_load_93 : decode cX7_load 93 = .ok (.isub, 1) := by decide +kernel
theorem dX7_load_94 : decode cX7_load 94 = .ok (.istore_n 3, 1) := by decide +kernel
theorem dX7_load_95 : decode cX7_load 95 = .ok (.aload_n 0, 1) := by decide +kernel
theorem dX7_load_96 : decode cX7_load 96 = .ok (.getfield 13, 3) := by decide +kernel
theorem dX7_load_99 : decode cX7_load 99 = .ok (.iload_n 1, 1) := by decide +kernel
theorem dX7_load_100 : decode cX7_load 100 = .ok (.iconst 1, 1) := by decide +kernel
theorem dX7_load_101 : decode cX7_load 101 = .ok (.bastore, 1) := by decide +kernel
theorem dX7_load_102 : decode cX7_load 102 = .ok (.iinc 4 1, 3) := by decide +kernel
theorem dX7_load_105 : decode cX7_load 105 = .ok (.goto (-100), 3) := by decide +kernel
theorem dX7_load_108 : decode cX7_load 108 = .ok (.return_, 1) := by decide +kernel
set_option maxRecDepth 20000 in
theorem ggX7_owesAtDoor_X7_powerOf : GoodIn wsX7_owesAtDoor wsX7_powerOf := goodIn_ca (goodIn_r _ [15, 16, 17, 10, 18, 19, 20, 21, 22, 14, 23, 24, 25, 26, 27, 28, 29, 30, 31, 32, 33, 34, 35, 36, 37, 38, 39, 40, 41, 42, 43, 44, 45, 46, 47, 48, 49, 50, 51, 52, 53, 54, 55, 56, 57] (by decide +kernel) (by decide +kernel)) (goodIn_sub (fun _ h => List.mem_cons_of_mem _ (List.mem_append_right _ h)) (by decide +kernel))
set_option maxRecDepth 20000 in
theorem gX7_owesAtDoor_X7_powerOf : GoodIn wsX7_owesAtDoor (wsV RX7 138 RX7 yX7_powerOf wsX7_powerOf) := goodIn_app (goodIn_of _ (by decide +kernel)) ggX7_owesAtDoor_X7_powerOf
theorem dX7_owesAtDoor_0 : decode cX7_owesAtDoor 0 = .ok (.aload_n 0, 1) := by decide +kernel
theorem dX7_owesAtDoor_1 : decode cX7_owesAtDoor 1 = .ok (.aload_n 0, 1) := by decide +kernel
theorem dX7_owesAtDoor_2 : decode cX7_owesAtDoor 2 = .ok (.getfield 23, 3) := by decide +kernel
theorem dX7_owesAtDoor_5 : decode cX7_owesAtDoor 5 = .ok (.iload_n 1, 1) := by decide +kernel
theorem dX7_owesAtDoor_6 : decode cX7_owesAtDoor 6 = .ok (.iaload, 1) := by decide +kernel
theorem dX7_owesAtDoor_7 : decode cX7_owesAtDoor 7 = .ok (.invokevirtual 138, 3) := by decide +kernel
theorem dX7_owesAtDoor_10 : decode cX7_owesAtDoor 10 = .ok (.ifCond .eq 12, 3) := by decide +kernel
theorem dX7_owesAtDoor_13 : decode cX7_owesAtDoor 13 = .ok (.aload_n 0, 1) := by decide +kernel
theorem dX7_owesAtDoor_14 : decode cX7_owesAtDoor 14 = .ok (.getfield 7, 3) := by decide +kernel
theorem dX7_owesAtDoor_17 : decode cX7_owesAtDoor 17 = .ok (.iload_n 1, 1) := by decide +kernel
theorem dX7_owesAtDoor_18 : decode cX7_owesAtDoor 18 = .ok (.baload, 1) := by decide +kernel
theorem dX7_owesAtDoor_19 : decode cX7_owesAtDoor 19 = .ok (.ifCond .eq 5, 3) := by decide +kernel
theorem dX7_owesAtDoor_22 : decode cX7_owesAtDoor 22 = .ok (.iconst (-1), 1) := by decide +kernel
theorem dX7_owesAtDoor_23 : decode cX7_owesAtDoor 23 = .ok (.ireturn, 1) := by decide +kernel
theorem dX7_owesAtDoor_24 : decode cX7_owesAtDoor 24 = .ok (.iconst 0, 1) := by decide +kernel
theorem dX7_owesAtDoor_25 : decode cX7_owesAtDoor 25 = .ok (.istore_n 2, 1) := by decide +kernel
theorem dX7_owesAtDoor_26 : decode cX7_owesAtDoor 26 = .ok (.iload_n 2, 1) := by decide +kernel
theorem dX7_owesAtDoor_27 : decode cX7_owesAtDoor 27 = .ok (.aload_n 0, 1) := by decide +kernel
theorem dX7_owesAtDoor_28 : decode cX7_owesAtDoor 28 = .ok (.getfield 115, 3) := by decide +kernel
theorem dX7_owesAtDoor_31 : decode cX7_owesAtDoor 31 = .ok (.if_icmp .ge 85, 3) := by decide +kernel
theorem dX7_owesAtDoor_34 : decode cX7_owesAtDoor 34 = .ok (.aload_n 0, 1) := by decide +kernel
theorem dX7_owesAtDoor_35 : decode cX7_owesAtDoor 35 = .ok (.getfield 51, 3) := by decide +kernel
theorem dX7_owesAtDoor_38 : decode cX7_owesAtDoor 38 = .ok (.iload_n 2, 1) := by decide +kernel
theorem dX7_owesAtDoor_39 : decode cX7_owesAtDoor 39 = .ok (.iaload, 1) := by decide +kernel
theorem dX7_owesAtDoor_40 : decode cX7_owesAtDoor 40 = .ok (.iload_n 1, 1) := by decide +kernel
theorem dX7_owesAtDoor_41 : decode cX7_owesAtDoor 41 = .ok (.if_icmp .ne 69, 3) := by decide +kernel
theorem dX7_owesAtDoor_44 : decode cX7_owesAtDoor 44 = .ok (.aload_n 0, 1) := by decide +kernel
theorem dX7_owesAtDoor_45 : decode cX7_owesAtDoor 45 = .ok (.getfield 57, 3) := by decide +kernel
theorem dX7_owesAtDoor_48 : decode cX7_owesAtDoor 48 = .ok (.iload_n 2, 1) := by decide +kernel
theorem dX7_owesAtDoor_49 : decode cX7_owesAtDoor 49 = .ok (.iaload, 1) := by decide +kernel
theorem dX7_owesAtDoor_50 : decode cX7_owesAtDoor 50 = .ok (.aload_n 0, 1) := by decide +kernel
theorem dX7_owesAtDoor_51 : decode cX7_owesAtDoor 51 = .ok (.getfield 54, 3) := by decide +kernel
theorem dX7_owesAtDoor_54 : decode cX7_owesAtDoor 54 = .ok (.iload_n 2, 1) := by decide +kernel
theorem dX7_owesAtDoor_55 : decode cX7_owesAtDoor 55 = .ok (.iaload, 1) := by decide +kernel
theorem dX7_owesAtDoor_56 : decode cX7_owesAtDoor 56 = .ok (.if_icmp .ne 6, 3) := by decide +kernel
theorem dX7_owesAtDoor_59 : decode cX7_owesAtDoor 59 = .ok (.goto 51, 3) := by decide +kernel
theorem dX7_owesAtDoor_62 : decode cX7_owesAtDoor 62 = .ok (.aload_n 0, 1) := by decide +kernel
theorem dX7_owesAtDoor_63 : decode cX7_owesAtDoor 63 = .ok (.getfield 44, 3) := by decide +kernel
theorem dX7_owesAtDoor_66 : decode cX7_owesAtDoor 66 = .ok (.aload_n 0, 1) := by decide +kernel
theorem dX7_owesAtDoor_67 : decode cX7_owesAtDoor 67 = .ok (.getfield 48, 3) := by decide +kernel
theorem dX7_owesAtDoor_70 : decode cX7_owesAtDoor 70 = .ok (.iload_n 2, 1) := by decide +kernel
theorem dX7_owesAtDoor_71 : decode cX7_owesAtDoor 71 = .ok (.iaload, 1) := by decide +kernel
theorem dX7_owesAtDoor_72 : decode cX7_owesAtDoor 72 = .ok (.caload, 1) := by decide +kernel
theorem dX7_owesAtDoor_73 : decode cX7_owesAtDoor 73 = .ok (.bipush 101, 2) := by decide +kernel
theorem dX7_owesAtDoor_75 : decode cX7_owesAtDoor 75 = .ok (.if_icmp .eq 5, 3) := by decide +kernel
theorem dX7_owesAtDoor_78 : decode cX7_owesAtDoor 78 = .ok (.iconst (-1), 1) := by decide +kernel
theorem dX7_owesAtDoor_79 : decode cX7_owesAtDoor 79 = .ok (.ireturn, 1) := by decide +kernel
theorem dX7_owesAtDoor_80 : decode cX7_owesAtDoor 80 = .ok (.aload_n 0, 1) := by decide +kernel
theorem dX7_owesAtDoor_81 : decode cX7_owesAtDoor 81 = .ok (.getfield 16, 3) := by decide +kernel
theorem dX7_owesAtDoor_84 : decode cX7_owesAtDoor 84 = .ok (.aload_n 0, 1) := by decide +kernel
theorem dX7_owesAtDoor_85 : decode cX7_owesAtDoor 85 = .ok (.getfield 48, 3) := by decide +kernel
theorem dX7_owesAtDoor_88 : decode cX7_owesAtDoor 88 = .ok (.iload_n 2, 1) := by decide +kernel
theorem dX7_owesAtDoor_89 : decode cX7_owesAtDoor 89 = .ok (.iaload, 1) := by decide +kernel
theorem dX7_owesAtDoor_90 : decode cX7_owesAtDoor 90 = .ok (.iaload, 1) := by decide +kernel
theorem dX7_owesAtDoor_91 : decode cX7_owesAtDoor 91 = .ok (.aload_n 0, 1) := by decide +kernel
theorem dX7_owesAtDoor_92 : decode cX7_owesAtDoor 92 = .ok (.getfield 121, 3) := by decide +kernel
theorem dX7_owesAtDoor_95 : decode cX7_owesAtDoor 95 = .ok (.if_icmp .gt 12, 3) := by decide +kernel
theorem dX7_owesAtDoor_98 : decode cX7_owesAtDoor 98 = .ok (.aload_n 0, 1) := by decide +kernel
theorem dX7_owesAtDoor_99 : decode cX7_owesAtDoor 99 = .ok (.getfield 48, 3) := by decide +kernel
theorem dX7_owesAtDoor_102 : decode cX7_owesAtDoor 102 = .ok (.iload_n 2, 1) := by decide +kernel
theorem dX7_owesAtDoor_103 : decode cX7_owesAtDoor 103 = .ok (.iaload, 1) := by decide +kernel
theorem dX7_owesAtDoor_104 : decode cX7_owesAtDoor 104 = .ok (.goto 5, 3) := by decide +kernel
theorem dX7_owesAtDoor_107 : decode cX7_owesAtDoor 107 = .ok (.bipush (-2), 2) := by decide +kernel
theorem dX7_owesAtDoor_109 : decode cX7_owesAtDoor 109 = .ok (.ireturn, 1) := by decide +kernel
theorem dX7_owesAtDoor_110 : decode cX7_owesAtDoor 110 = .ok (.iinc 2 1, 3) := by decide +kernel
theorem dX7_owesAtDoor_113 : decode cX7_owesAtDoor 113 = .ok (.goto (-87), 3) := by decide +kernel
theorem dX7_owesAtDoor_116 : decode cX7_owesAtDoor 116 = .ok (.iconst (-1), 1) := by decide +kernel
theorem dX7_owesAtDoor_117 : decode cX7_owesAtDoor 117 = .ok (.ireturn, 1) := by decide +kernel
set_option maxRecDepth 20000 in
theorem ggX7_owes_X7_owesAtDoor : GoodIn wsX7_owes wsX7_owesAtDoor := goodIn_ca (goodIn_r _ [12, 13, 4, 14, 15, 16, 17, 5, 18, 2, 1, 19, 20, 21, 11, 22, 23, 24, 25, 26, 27, 28, 29, 30, 31, 32, 33, 34, 35, 36, 37, 38, 39, 40, 41, 42, 43, 44, 45, 46, 47, 48, 49, 50, 51, 52, 53, 54, 55, 56, 57, 58, 59, 60, 61, 62, 63, 64] (by decide +kernel) (by decide +kernel)) (goodIn_sub (fun _ h => List.mem_cons_of_mem _ (List.mem_append_right _ h)) (by decide +kernel))
set_option maxRecDepth 20000 in
theorem gX7_owes_X7_owesAtDoor : GoodIn wsX7_owes (wsV RX7 141 RX7 yX7_owesAtDoor wsX7_owesAtDoor) := goodIn_app (goodIn_of _ (by decide +kernel)) ggX7_owes_X7_owesAtDoor
theorem dX7_owes_0 : decode cX7_owes 0 = .ok (.aload_n 0, 1) := by decide +kernel
theorem dX7_owes_1 : decode cX7_owes 1 = .ok (.getfield 121, 3) := by decide +kernel
theorem dX7_owes_4 : decode cX7_owes 4 = .ok (.aload_n 0, 1) := by decide +kernel
theorem dX7_owes_5 : decode cX7_owes 5 = .ok (.getfield 16, 3) := by decide +kernel
theorem dX7_owes_8 : decode cX7_owes 8 = .ok (.iload_n 1, 1) := by decide +kernel
theorem dX7_owes_9 : decode cX7_owes 9 = .ok (.iaload, 1) := by decide +kernel
theorem dX7_owes_10 : decode cX7_owes 10 = .ok (.if_icmp .lt 26, 3) := by decide +kernel
theorem dX7_owes_13 : decode cX7_owes 13 = .ok (.aload_n 0, 1) := by decide +kernel
theorem dX7_owes_14 : decode cX7_owes 14 = .ok (.getfield 29, 3) := by decide +kernel
theorem dX7_owes_17 : decode cX7_owes 17 = .ok (.iload_n 1, 1) := by decide +kernel
theorem dX7_owes_18 : decode cX7_owes 18 = .ok (.iaload, 1) := by decide +kernel
theorem dX7_owes_19 : decode cX7_owes 19 = .ok (.aload_n 0, 1) := by decide +kernel
theorem dX7_owes_20 : decode cX7_owes 20 = .ok (.getfield 7, 3) := by decide +kernel
theorem dX7_owes_23 : decode cX7_owes 23 = .ok (.iload_n 1, 1) := by decide +kernel
theorem dX7_owes_24 : decode cX7_owes 24 = .ok (.baload, 1) := by decide +kernel
theorem dX7_owes_25 : decode cX7_owes 25 = .ok (.ifCond .eq 7, 3) := by decide +kernel
theorem dX7_owes_28 : decode cX7_owes 28 = .ok (.iconst 0, 1) := by decide +kernel
theorem dX7_owes_29 : decode cX7_owes 29 = .ok (.goto 4, 3) := by decide +kernel
theorem dX7_owes_32 : decode cX7_owes 32 = .ok (.iconst 5, 1) := by decide +kernel
theorem dX7_owes_33 : decode cX7_owes 33 = .ok (.if_icmp .ge 6, 3) := by decide +kernel
theorem dX7_owes_36 : decode cX7_owes 36 = .ok (.bipush (-2), 2) := by decide +kernel
theorem dX7_owes_38 : decode cX7_owes 38 = .ok (.ireturn, 1) := by decide +kernel
theorem dX7_owes_39 : decode cX7_owes 39 = .ok (.aload_n 0, 1) := by decide +kernel
theorem dX7_owes_40 : decode cX7_owes 40 = .ok (.getfield 44, 3) := by decide +kernel
theorem dX7_owes_43 : decode cX7_owes 43 = .ok (.iload_n 1, 1) := by decide +kernel
theorem dX7_owes_44 : decode cX7_owes 44 = .ok (.caload, 1) := by decide +kernel
theorem dX7_owes_45 : decode cX7_owes 45 = .ok (.bipush 100, 2) := by decide +kernel
theorem dX7_owes_47 : decode cX7_owes 47 = .ok (.if_icmp .ne 9, 3) := by decide +kernel
theorem dX7_owes_50 : decode cX7_owes 50 = .ok (.aload_n 0, 1) := by decide +kernel
theorem dX7_owes_51 : decode cX7_owes 51 = .ok (.iload_n 1, 1) := by decide +kernel
theorem dX7_owes_52 : decode cX7_owes 52 = .ok (.invokevirtual 141, 3) := by decide +kernel
theorem dX7_owes_55 : decode cX7_owes 55 = .ok (.ireturn, 1) := by decide +kernel
theorem dX7_owes_56 : decode cX7_owes 56 = .ok (.aload_n 0, 1) := by decide +kernel
theorem dX7_owes_57 : decode cX7_owes 57 = .ok (.getfield 13, 3) := by decide +kernel
theorem dX7_owes_60 : decode cX7_owes 60 = .ok (.iload_n 2, 1) := by decide +kernel
theorem dX7_owes_61 : decode cX7_owes 61 = .ok (.baload, 1) := by decide +kernel
theorem dX7_owes_62 : decode cX7_owes 62 = .ok (.ifCond .eq 24, 3) := by decide +kernel
theorem dX7_owes_65 : decode cX7_owes 65 = .ok (.aload_n 0, 1) := by decide +kernel
theorem dX7_owes_66 : decode cX7_owes 66 = .ok (.getfield 26, 3) := by decide +kernel
theorem dX7_owes_69 : decode cX7_owes 69 = .ok (.iload_n 2, 1) := by decide +kernel
theorem dX7_owes_70 : decode cX7_owes 70 = .ok (.iaload, 1) := by decide +kernel
theorem dX7_owes_71 : decode cX7_owes 71 = .ok (.aload_n 0, 1) := by decide +kernel
theorem dX7_owes_72 : decode cX7_owes 72 = .ok (.getfield 16, 3) := by decide +kernel
theorem dX7_owes_75 : decode cX7_owes 75 = .ok (.iload_n 2, 1) := by decide +kernel
theorem dX7_owes_76 : decode cX7_owes 76 = .ok (.iaload, 1) := by decide +kernel
theorem dX7_owes_77 : decode cX7_owes 77 = .ok (.if_icmp .le 7, 3) := by decide +kernel
theorem dX7_owes_80 : decode cX7_owes 80 = .ok (.iload_n 2, 1) := by decide +kernel
theorem dX7_owes_81 : decode cX7_owes 81 = .ok (.goto 4, 3) := by decide +kernel
theorem dX7_owes_84 : decode cX7_owes 84 = .ok (.iconst (-1), 1) := by decide +kernel
theorem dX7_owes_85 : decode cX7_owes 85 = .ok (.ireturn, 1) := by decide +kernel
theorem dX7_owes_86 : decode cX7_owes 86 = .ok (.aload_n 0, 1) := by decide +kernel
theorem dX7_owes_87 : decode cX7_owes 87 = .ok (.iload_n 2, 1) := by decide +kernel
theorem dX7_owes_88 : decode cX7_owes 88 = .ok (.invokevirtual 141, 3) := by decide +kernel
theorem dX7_owes_91 : decode cX7_owes 91 = .ok (.istore_n 3, 1) := by decide +kernel
theorem dX7_owes_92 : decode cX7_owes 92 = .ok (.iload_n 3, 1) := by decide +kernel
theorem dX7_owes_93 : decode cX7_owes 93 = .ok (.bipush (-2), 2) := by decide +kernel
theorem dX7_owes_95 : decode cX7_owes 95 = .ok (.if_icmp .ne 7, 3) := by decide +kernel
theorem dX7_owes_98 : decode cX7_owes 98 = .ok (.iload_n 2, 1) := by decide +kernel
theorem dX7_owes_99 : decode cX7_owes 99 = .ok (.goto 4, 3) := by decide +kernel
theorem dX7_owes_102 : decode cX7_owes 102 = .ok (.iload_n 3, 1) := by decide +kernel
theorem dX7_owes_103 : decode cX7_owes 103 = .ok (.ireturn, 1) := by decide +kernel
set_option maxRecDepth 20000 in
theorem ggX7_waits_X7_owes : GoodIn wsX7_waits wsX7_owes := goodIn_ca (goodIn_r _ [13, 3, 14, 1, 15, 16, 17, 18, 19, 20, 21, 12, 22, 23, 24, 25, 26, 27, 28, 29, 30, 31, 32, 33, 34, 35, 36, 37, 38, 39, 40, 41, 42, 43, 44, 45, 46, 47, 48, 49, 50, 51, 52, 53, 54, 55, 56, 57, 58, 59, 60, 61, 62, 63, 64, 65, 66, 67, 68, 69, 70, 71, 72, 73, 74] (by decide +kernel) (by decide +kernel)) (goodIn_sub (fun _ h => List.mem_cons_of_mem _ (List.mem_append_right _ h)) (by decide +kernel))
set_option maxRecDepth 20000 in
theorem gX7_waits_X7_owes : GoodIn wsX7_waits (wsV RX7 144 RX7 yX7_owes wsX7_owes) := goodIn_app (goodIn_of _ (by decide +kernel)) ggX7_waits_X7_owes
theorem dX7_waits_0 : decode cX7_waits 0 = .ok (.aload_n 0, 1) := by decide +kernel
theorem dX7_waits_1 : decode cX7_waits 1 = .ok (.iload_n 1, 1) := by decide +kernel
theorem dX7_waits_2 : decode cX7_waits 2 = .ok (.iload_n 2, 1) := by decide +kernel
theorem dX7_waits_3 : decode cX7_waits 3 = .ok (.invokevirtual 144, 3) := by decide +kernel
theorem dX7_waits_6 : decode cX7_waits 6 = .ok (.istore_n 3, 1) := by decide +kernel
theorem dX7_waits_7 : decode cX7_waits 7 = .ok (.aload_n 0, 1) := by decide +kernel
theorem dX7_waits_8 : decode cX7_waits 8 = .ok (.getfield 29, 3) := by decide +kernel
theorem dX7_waits_11 : decode cX7_waits 11 = .ok (.iload_n 1, 1) := by decide +kernel
theorem dX7_waits_12 : decode cX7_waits 12 = .ok (.dup2, 1) := by decide +kernel
theorem dX7_waits_13 : decode cX7_waits 13 = .ok (.iaload, 1) := by decide +kernel
theorem dX7_waits_14 : decode cX7_waits 14 = .ok (.iconst 1, 1) := by decide +kernel
theorem dX7_waits_15 : decode cX7_waits 15 = .ok (.iadd, 1) := by decide +kernel
theorem dX7_waits_16 : decode cX7_waits 16 = .ok (.iastore, 1) := by decide +kernel
theorem dX7_waits_17 : decode cX7_waits 17 = .ok (.aload_n 0, 1) := by decide +kernel
theorem dX7_waits_18 : decode cX7_waits 18 = .ok (.getfield 41, 3) := by decide +kernel
theorem dX7_waits_21 : decode cX7_waits 21 = .ok (.iload_n 1, 1) := by decide +kernel
theorem dX7_waits_22 : decode cX7_waits 22 = .ok (.aload_n 0, 1) := by decide +kernel
theorem dX7_waits_23 : decode cX7_waits 23 = .ok (.getfield 121, 3) := by decide +kernel
theorem dX7_waits_26 : decode cX7_waits 26 = .ok (.iastore, 1) := by decide +kernel
theorem dX7_waits_27 : decode cX7_waits 27 = .ok (.aload_n 0, 1) := by decide +kernel
theorem dX7_waits_28 : decode cX7_waits 28 = .ok (.getfield 38, 3) := by decide +kernel
theorem dX7_waits_31 : decode cX7_waits 31 = .ok (.iload_n 1, 1) := by decide +kernel
theorem dX7_waits_32 : decode cX7_waits 32 = .ok (.iload_n 3, 1) := by decide +kernel
theorem dX7_waits_33 : decode cX7_waits 33 = .ok (.iastore, 1) := by decide +kernel
theorem dX7_waits_34 : decode cX7_waits 34 = .ok (.iload_n 3, 1) := by decide +kernel
theorem dX7_waits_35 : decode cX7_waits 35 = .ok (.bipush (-2), 2) := by decide +kernel
theorem dX7_waits_37 : decode cX7_waits 37 = .ok (.if_icmp .ne 16, 3) := by decide +kernel
theorem dX7_waits_40 : decode cX7_waits 40 = .ok (.aload_n 0, 1) := by decide +kernel
theorem dX7_waits_41 : decode cX7_waits 41 = .ok (.getfield 32, 3) := by decide +kernel
theorem dX7_waits_44 : decode cX7_waits 44 = .ok (.iload_n 1, 1) := by decide +kernel
theorem dX7_waits_45 : decode cX7_waits 45 = .ok (.dup2, 1) := by decide +kernel
theorem dX7_waits_46 : decode cX7_waits 46 = .ok (.iaload, 1) := by decide +kernel
theorem dX7_waits_47 : decode cX7_waits 47 = .ok (.iconst 1, 1) := by decide +kernel
theorem dX7_waits_48 : decode cX7_waits 48 = .ok (.iadd, 1) := by decide +kernel
theorem dX7_waits_49 : decode cX7_waits 49 = .ok (.iastore, 1) := by decide +kernel
theorem dX7_waits_50 : decode cX7_waits 50 = .ok (.goto 25, 3) := by decide +kernel
theorem dX7_waits_53 : decode cX7_waits 53 = .ok (.aload_n 0, 1) := by decide +kernel
theorem dX7_waits_54 : decode cX7_waits 54 = .ok (.getfield 84, 3) := by decide +kernel
theorem dX7_waits_57 : decode cX7_waits 57 = .ok (.bipush 8, 2) := by decide +kernel
theorem dX7_waits_59 : decode cX7_waits 59 = .ok (.iload_n 3, 1) := by decide +kernel
theorem dX7_waits_60 : decode cX7_waits 60 = .ok (.iconst 1, 1) := by decide +kernel
theorem dX7_waits_61 : decode cX7_waits 61 = .ok (.iadd, 1) := by decide +kernel
theorem dX7_waits_62 : decode cX7_waits 62 = .ok (.imul, 1) := by decide +kernel
theorem dX7_waits_63 : decode cX7_waits 63 = .ok (.iload_n 1, 1) := by decide +kernel
theorem dX7_waits_64 : decode cX7_waits 64 = .ok (.iadd, 1) := by decide +kernel
theorem dX7_waits_65 : decode cX7_waits 65 = .ok (.dup2, 1) := by decide +kernel
theorem dX7_waits_66 : decode cX7_waits 66 = .ok (.iaload, 1) := by decide +kernel
theorem dX7_waits_67 : decode cX7_waits 67 = .ok (.aload_n 0, 1) := by decide +kernel
theorem dX7_waits_68 : decode cX7_waits 68 = .ok (.getfield 20, 3) := by decide +kernel
theorem dX7_waits_71 : decode cX7_waits 71 = .ok (.iload_n 1, 1) := by decide +kernel
theorem dX7_waits_72 : decode cX7_waits 72 = .ok (.iaload, 1) := by decide +kernel
theorem dX7_waits_73 : decode cX7_waits 73 = .ok (.iadd, 1) := by decide +kernel
theorem dX7_waits_74 : decode cX7_waits 74 = .ok (.iastore, 1) := by decide +kernel
theorem dX7_waits_75 : decode cX7_waits 75 = .ok (.iload_n 3, 1) := by decide +kernel
theorem dX7_waits_76 : decode cX7_waits 76 = .ok (.iconst (-1), 1) := by decide +kernel
theorem dX7_waits_77 : decode cX7_waits 77 = .ok (.if_icmp .ne 13, 3) := by decide +kernel
theorem dX7_waits_80 : decode cX7_waits 80 = .ok (.aload_n 0, 1) := by decide +kernel
theorem dX7_waits_81 : decode cX7_waits 81 = .ok (.dup, 1) := by decide +kernel
theorem dX7_waits_82 : decode cX7_waits 82 = .ok (.getfield 148, 3) := by decide +kernel
theorem dX7_waits_85 : decode cX7_waits 85 = .ok (.iconst 1, 1) := by decide +kernel
theorem dX7_waits_86 : decode cX7_waits 86 = .ok (.iadd, 1) := by decide +kernel
theorem dX7_waits_87 : decode cX7_waits 87 = .ok (.putfield 148, 3) := by decide +kernel
theorem dX7_waits_90 : decode cX7_waits 90 = .ok (.return_, 1) := by decide +kernel
set_option maxRecDepth 20000 in
theorem ggX7_passes_X7_queued : GoodIn wsX7_passes wsX7_queued := goodIn_ca (goodIn_r _ [16, 3, 2, 8, 17, 18, 19, 15, 20, 21, 76, 77, 78, 79, 80, 81, 82, 83, 84, 85, 86, 87, 88, 89, 90, 91, 92, 93, 94, 95, 96, 97, 98, 99, 100, 101, 102, 103, 104, 105, 106, 107, 108, 109] (by decide +kernel) (by decide +kernel)) (goodIn_sub (fun _ h => List.mem_cons_of_mem _ (List.mem_append_right _ h)) (by decide +kernel))
set_option maxRecDepth 20000 in
theorem gX7_passes_X7_queued : GoodIn wsX7_passes (wsV RX7 151 RX7 yX7_queued wsX7_queued) := goodIn_app (goodIn_of _ (by decide +kernel)) ggX7_passes_X7_queued
set_option maxRecDepth 20000 in
theorem ggX7_passes_X7_powerOf : GoodIn wsX7_passes wsX7_powerOf := goodIn_ca (goodIn_r _ [25, 26, 27, 7, 28, 29, 30, 31, 32, 15, 33, 76, 77, 78, 79, 80, 81, 82, 83, 84, 85, 86, 87, 88, 89, 90, 91, 92, 93, 94, 95, 96, 97, 98, 99, 100, 101, 102, 103, 104, 105, 106, 107, 108, 109] (by decide +kernel) (by decide +kernel)) (goodIn_sub (fun _ h => List.mem_cons_of_mem _ (List.mem_append_right _ h)) (by decide +kernel))
set_option maxRecDepth 20000 in
theorem gX7_passes_X7_powerOf : GoodIn wsX7_passes (wsV RX7 138 RX7 yX7_powerOf wsX7_powerOf) := goodIn_app (goodIn_of _ (by decide +kernel)) ggX7_passes_X7_powerOf
set_option maxRecDepth 20000 in
theorem ggX7_passes_X7_unload : GoodIn wsX7_passes wsX7_unload := goodIn_ca (goodIn_r _ [37, 9, 38, 39, 40, 8, 41, 11, 4, 76, 77, 78, 79, 80, 81, 82, 83, 84, 85, 86, 87, 88, 89, 90, 91, 92, 93, 94, 95, 96, 97, 98, 99, 100, 101, 102, 103, 104, 105, 106, 107, 108, 109] (by decide +kernel) (by decide +kernel)) (goodIn_sub (fun _ h => List.mem_cons_of_mem _ (List.mem_append_right _ h)) (by decide +kernel))
set_option maxRecDepth 20000 in
theorem gX7_passes_X7_unload : GoodIn wsX7_passes (wsV RX7 154 RX7 yX7_unload wsX7_unload) := goodIn_app (goodIn_of _ (by decide +kernel)) ggX7_passes_X7_unload
set_option maxRecDepth 20000 in
theorem ggX7_passes_X7_load : GoodIn wsX7_passes wsX7_load := goodIn_ca (goodIn_r _ [45, 9, 41, 10, 46, 4, 76, 77, 78, 79, 80, 81, 82, 83, 84, 85, 86, 87, 88, 89, 90, 91, 92, 93, 94, 95, 96, 97, 98, 99, 100, 101, 102, 103, 104, 105, 106, 107, 108, 109] (by decide +kernel) (by decide +kernel)) (goodIn_sub (fun _ h => List.mem_cons_of_mem _ (List.mem_append_right _ h)) (by decide +kernel))
set_option maxRecDepth 20000 in
theorem gX7_passes_X7_load : GoodIn wsX7_passes (wsV RX7 157 RX7 yX7_load wsX7_load) := goodIn_app (goodIn_of _ (by decide +kernel)) ggX7_passes_X7_load
set_option maxRecDepth 20000 in
theorem ggX7_passes_X7_missing : GoodIn wsX7_passes wsX7_missing := goodIn_ca (goodIn_r _ [50, 9, 6, 38, 41, 40, 39, 46, 76, 77, 78, 79, 80, 81, 82, 83, 84, 85, 86, 87, 88, 89, 90, 91, 92, 93, 94, 95, 96, 97, 98, 99, 100, 101, 102, 103, 104, 105, 106, 107, 108, 109] (by decide +kernel) (by decide +kernel)) (goodIn_sub (fun _ h => List.mem_cons_of_mem _ (List.mem_append_right _ h)) (by decide +kernel))
set_option maxRecDepth 20000 in
theorem gX7_passes_X7_missing : GoodIn wsX7_passes (wsV RX7 128 RX7 yX7_missing wsX7_missing) := goodIn_app (goodIn_of _ (by decide +kernel)) ggX7_passes_X7_missing
set_option maxRecDepth 20000 in
theorem ggX7_passes_X7_leaves : GoodIn wsX7_passes wsX7_leaves := goodIn_ca (goodIn_r _ [54, 2, 1, 8, 55, 76, 77, 78, 79, 80, 81, 82, 83, 84, 85, 86, 87, 88, 89, 90, 91, 92, 93, 94, 95, 96, 97, 98, 99, 100, 101, 102, 103, 104, 105, 106, 107, 108, 109] (by decide +kernel) (by decide +kernel)) (goodIn_sub (fun _ h => List.mem_cons_of_mem _ (List.mem_append_right _ h)) (by decide +kernel))
set_option maxRecDepth 20000 in
theorem gX7_passes_X7_leaves : GoodIn wsX7_passes (wsV RX7 124 RX7 yX7_leaves wsX7_leaves) := goodIn_app (goodIn_of _ (by decide +kernel)) ggX7_passes_X7_leaves
set_option maxRecDepth 20000 in
theorem ggX7_passes_X7_waits : GoodIn wsX7_passes wsX7_waits := goodIn_ca (goodIn_r _ [59, 60, 61, 7, 62, 63, 64, 65, 66, 67, 68, 69, 15, 70, 71, 6, 2, 4, 21, 72, 73, 74, 75, 8, 9, 41, 39, 40, 38, 22, 23, 24, 25, 26, 27, 28, 29, 30, 31, 32, 33, 76, 77, 78, 79, 80, 81, 82, 83, 84, 85, 86, 87, 88, 89, 90, 91, 92, 93, 94, 95, 96, 97, 98, 99, 100, 101, 102, 103, 104, 105, 106, 107, 108, 109] (by decide +kernel) (by decide +kernel)) (goodIn_sub (fun _ h => List.mem_cons_of_mem _ (List.mem_append_right _ h)) (by decide +kernel))
set_option maxRecDepth 20000 in
theorem gX7_passes_X7_waits : GoodIn wsX7_passes (wsV RX7 160 RX7 yX7_waits wsX7_waits) := goodIn_app (goodIn_of _ (by decide +kernel)) ggX7_passes_X7_waits
theorem dX7_passes_0 : decode cX7_passes 0 = .ok (.iconst 0, 1) := by decide +kernel
theorem dX7_passes_1 : decode cX7_passes 1 = .ok (.istore_n 1, 1) := by decide +kernel
theorem dX7_passes_2 : decode cX7_passes 2 = .ok (.iload_n 1, 1) := by decide +kernel
theorem dX7_passes_3 : decode cX7_passes 3 = .ok (.iconst 4, 1) := by decide +kernel
theorem dX7_passes_4 : decode cX7_passes 4 = .ok (.if_icmp .ge 49, 3) := by decide +kernel
theorem dX7_passes_7 : decode cX7_passes 7 = .ok (.aload_n 0, 1) := by decide +kernel
theorem dX7_passes_8 : decode cX7_passes 8 = .ok (.getfield 81, 3) := by decide +kernel
theorem dX7_passes_11 : decode cX7_passes 11 = .ok (.iload_n 1, 1) := by decide +kernel
theorem dX7_passes_12 : decode cX7_passes 12 = .ok (.iaload, 1) := by decide +kernel
theorem dX7_passes_13 : decode cX7_passes 13 = .ok (.iconst (-1), 1) := by decide +kernel
theorem dX7_passes_14 : decode cX7_passes 14 = .ok (.if_icmp .eq 6, 3) := by decide +kernel
theorem dX7_passes_17 : decode cX7_passes 17 = .ok (.goto 30, 3) := by decide +kernel
theorem dX7_passes_20 : decode cX7_passes 20 = .ok (.aload_n 0, 1) := by decide +kernel
theorem dX7_passes_21 : decode cX7_passes 21 = .ok (.iload_n 1, 1) := by decide +kernel
theorem dX7_passes_22 : decode cX7_passes 22 = .ok (.iconst 0, 1) := by decide +kernel
theorem dX7_passes_23 : decode cX7_passes 23 = .ok (.invokevirtual 151, 3) := by decide +kernel
theorem dX7_passes_26 : decode cX7_passes 26 = .ok (.istore_n 2, 1) := by decide +kernel
theorem dX7_passes_27 : decode cX7_passes 27 = .ok (.aload_n 0, 1) := by decide +kernel
theorem dX7_passes_28 : decode cX7_passes 28 = .ok (.getfield 81, 3) := by decide +kernel
theorem dX7_passes_31 : decode cX7_passes 31 = .ok (.iload_n 1, 1) := by decide +kernel
theorem dX7_passes_32 : decode cX7_passes 32 = .ok (.iload_n 2, 1) := by decide +kernel
theorem dX7_passes_33 : decode cX7_passes 33 = .ok (.iastore, 1) := by decide +kernel
theorem dX7_passes_34 : decode cX7_passes 34 = .ok (.iload_n 2, 1) := by decide +kernel
theorem dX7_passes_35 : decode cX7_passes 35 = .ok (.iconst (-1), 1) := by decide +kernel
theorem dX7_passes_36 : decode cX7_passes 36 = .ok (.if_icmp .eq 11, 3) := by decide +kernel
theorem dX7_passes_39 : decode cX7_passes 39 = .ok (.aload_n 0, 1) := by decide +kernel
theorem dX7_passes_40 : decode cX7_passes 40 = .ok (.getfield 44, 3) := by decide +kernel
theorem dX7_passes_43 : decode cX7_passes 43 = .ok (.iload_n 2, 1) := by decide +kernel
theorem dX7_passes_44 : decode cX7_passes 44 = .ok (.bipush 100, 2) := by decide +kernel
theorem dX7_passes_46 : decode cX7_passes 46 = .ok (.castore, 1) := by decide +kernel
theorem dX7_passes_47 : decode cX7_passes 47 = .ok (.iinc 1 1, 3) := by decide +kernel
theorem dX7_passes_50 : decode cX7_passes 50 = .ok (.goto (-48), 3) := by decide +kernel
theorem dX7_passes_53 : decode cX7_passes 53 = .ok (.iconst 0, 1) := by decide +kernel
theorem dX7_passes_54 : decode cX7_passes 54 = .ok (.istore_n 1, 1) := by decide +kernel
theorem dX7_passes_55 : decode cX7_passes 55 = .ok (.iload_n 1, 1) := by decide +kernel
theorem dX7_passes_56 : decode cX7_passes 56 = .ok (.aload_n 0, 1) := by decide +kernel
theorem dX7_passes_57 : decode cX7_passes 57 = .ok (.getfield 97, 3) := by decide +kernel
theorem dX7_passes_60 : decode cX7_passes 60 = .ok (.if_icmp .ge 16, 3) := by decide +kernel
theorem dX7_passes_63 : decode cX7_passes 63 = .ok (.aload_n 0, 1) := by decide +kernel
theorem dX7_passes_64 : decode cX7_passes 64 = .ok (.getfield 13, 3) := by decide +kernel
theorem dX7_passes_67 : decode cX7_passes 67 = .ok (.iload_n 1, 1) := by decide +kernel
theorem dX7_passes_68 : decode cX7_passes 68 = .ok (.iconst 0, 1) := by decide +kernel
theorem dX7_passes_69 : decode cX7_passes 69 = .ok (.bastore, 1) := by decide +kernel
theorem dX7_passes_70 : decode cX7_passes 70 = .ok (.iinc 1 1, 3) := by decide +kernel
theorem dX7_passes_73 : decode cX7_passes 73 = .ok (.goto (-18), 3) := by decide +kernel
theorem dX7_passes_76 : decode cX7_passes 76 = .ok (.iconst 0, 1) := by decide +kernel
theorem dX7_passes_77 : decode cX7_passes 77 = .ok (.istore_n 1, 1) := by decide +kernel
theorem dX7_passes_78 : decode cX7_passes 78 = .ok (.iload_n 1, 1) := by decide +kernel
theorem dX7_passes_79 : decode cX7_passes 79 = .ok (.iconst 4, 1) := by decide +kernel
theorem dX7_passes_80 : decode cX7_passes 80 = .ok (.if_icmp .ge 81, 3) := by decide +kernel
theorem dX7_passes_83 : decode cX7_passes 83 = .ok (.aload_n 0, 1) := by decide +kernel
theorem dX7_passes_84 : decode cX7_passes 84 = .ok (.getfield 87, 3) := by decide +kernel
theorem dX7_passes_87 : decode cX7_passes 87 = .ok (.iload_n 1, 1) := by decide +kernel
theorem dX7_passes_88 : decode cX7_passes 88 = .ok (.aload_n 0, 1) := by decide +kernel
theorem dX7_passes_89 : decode cX7_passes 89 = .ok (.getfield 81, 3) := by decide +kernel
theorem dX7_passes_92 : decode cX7_passes 92 = .ok (.iload_n 1, 1) := by decide +kernel
theorem dX7_passes_93 : decode cX7_passes 93 = .ok (.iaload, 1) := by decide +kernel
theorem dX7_passes_94 : decode cX7_passes 94 = .ok (.iastore, 1) := by decide +kernel
theorem dX7_passes_95 : decode cX7_passes 95 = .ok (.aload_n 0, 1) := by decide +kernel
theorem dX7_passes_96 : decode cX7_passes 96 = .ok (.getfield 81, 3) := by decide +kernel
theorem dX7_passes_99 : decode cX7_passes 99 = .ok (.iload_n 1, 1) := by decide +kernel
theorem dX7_passes_100 : decode cX7_passes 100 = .ok (.iaload, 1) := by decide +kernel
theorem dX7_passes_101 : decode cX7_passes 101 = .ok (.iconst (-1), 1) := by decide +kernel
theorem dX7_passes_102 : decode cX7_passes 102 = .ok (.if_icmp .ne 6, 3) := by decide +kernel
theorem dX7_passes_105 : decode cX7_passes 105 = .ok (.goto 50, 3) := by decide +kernel
theorem dX7_passes_108 : decode cX7_passes 108 = .ok (.aload_n 0, 1) := by decide +kernel
theorem dX7_passes_109 : decode cX7_passes 109 = .ok (.getfield 7, 3) := by decide +kernel
theorem dX7_passes_112 : decode cX7_passes 112 = .ok (.aload_n 0, 1) := by decide +kernel
theorem dX7_passes_113 : decode cX7_passes 113 = .ok (.getfield 81, 3) := by decide +kernel
theorem dX7_passes_116 : decode cX7_passes 116 = .ok (.iload_n 1, 1) := by decide +kernel
theorem dX7_passes_117 : decode cX7_passes 117 = .ok (.iaload, 1) := by decide +kernel
theorem dX7_passes_118 : decode cX7_passes 118 = .ok (.baload, 1) := by decide +kernel
theorem dX7_passes_119 : decode cX7_passes 119 = .ok (.ifCond .eq 21, 3) := by decide +kernel
theorem dX7_passes_122 : decode cX7_passes 122 = .ok (.aload_n 0, 1) := by decide +kernel
theorem dX7_passes_123 : decode cX7_passes 123 = .ok (.aload_n 0, 1) := by decide +kernel
theorem dX7_passes_124 : decode cX7_passes 124 = .ok (.getfield 81, 3) := by decide +kernel
theorem dX7_passes_127 : decode cX7_passes 127 = .ok (.iload_n 1, 1) := by decide +kernel
theorem dX7_passes_128 : decode cX7_passes 128 = .ok (.iaload, 1) := by decide +kernel
theorem dX7_passes_129 : decode cX7_passes 129 = .ok (.aload_n 0, 1) := by decide +kernel
theorem dX7_passes_130 : decode cX7_passes 130 = .ok (.iload_n 1, 1) := by decide +kernel
theorem dX7_passes_131 : decode cX7_passes 131 = .ok (.invokevirtual 138, 3) := by decide +kernel
theorem dX7_passes_134 : decode cX7_passes 134 = .ok (.invokevirtual 154, 3) := by decide +kernel
theorem dX7_passes_137 : decode cX7_passes 137 = .ok (.goto 18, 3) := by decide +kernel
theorem dX7_passes_140 : decode cX7_passes 140 = .ok (.aload_n 0, 1) := by decide +kernel
theorem dX7_passes_141 : decode cX7_passes 141 = .ok (.aload_n 0, 1) := by decide +kernel
theorem dX7_passes_142 : decode cX7_passes 142 = .ok (.getfield 81, 3) := by decide +kernel
theorem dX7_passes_145 : decode cX7_passes 145 = .ok (.iload_n 1, 1) := by decide +kernel
theorem dX7_passes_146 : decode cX7_passes 146 = .ok (.iaload, 1) := by decide +kernel
theorem dX7_passes_147 : decode cX7_passes 147 = .ok (.aload_n 0, 1) := by decide +kernel
theorem dX7_passes_148 : decode cX7_passes 148 = .ok (.iload_n 1, 1) := by decide +kernel
theorem dX7_passes_149 : decode cX7_passes 149 = .ok (.invokevirtual 138, 3) := by decide +kernel
theorem dX7_passes_152 : decode cX7_passes 152 = .ok (.invokevirtual 157, 3) := by decide +kernel
theorem dX7_passes_155 : decode cX7_passes 155 = .ok (.iinc 1 1, 3) := by decide +kernel
theorem dX7_passes_158 : decode cX7_passes 158 = .ok (.goto (-80), 3) := by decide +kernel
theorem dX7_passes_161 : decode cX7_passes 161 = .ok (.iconst 0, 1) := by decide +kernel
theorem dX7_passes_162 : decode cX7_passes 162 = .ok (.istore_n 1, 1) := by decide +kernel
theorem dX7_passes_163 : decode cX7_passes 163 = .ok (.iconst 0, 1) := by decide +kernel
theorem dX7_passes_164 : decode cX7_passes 164 = .ok (.istore_n 2, 1) := by decide +kernel
theorem dX7_passes_165 : decode cX7_passes 165 = .ok (.iload_n 2, 1) := by decide +kernel
theorem dX7_passes_166 : decode cX7_passes 166 = .ok (.aload_n 0, 1) := by decide +kernel
theorem dX7_passes_167 : decode cX7_passes 167 = .ok (.getfield 97, 3) := by decide +kernel
theorem dX7_passes_170 : decode cX7_passes 170 = .ok (.if_icmp .ge 45, 3) := by decide +kernel
theorem dX7_passes_173 : decode cX7_passes 173 = .ok (.aload_n 0, 1) := by decide +kernel
theorem dX7_passes_174 : decode cX7_passes 174 = .ok (.getfield 44, 3) := by decide +kernel
theorem dX7_passes_177 : decode cX7_passes 177 = .ok (.iload_n 2, 1) := by decide +kernel
theorem dX7_passes_178 : decode cX7_passes 178 = .ok (.caload, 1) := by decide +kernel
theorem dX7_passes_179 : decode cX7_passes 179 = .ok (.bipush 100, 2) := by decide +kernel
theorem dX7_passes_181 : decode cX7_passes 181 = .ok (.if_icmp .ne 28, 3) := by decide +kernel
theorem dX7_passes_184 : decode cX7_passes 184 = .ok (.aload_n 0, 1) := by decide +kernel
theorem dX7_passes_185 : decode cX7_passes 185 = .ok (.iload_n 2, 1) := by decide +kernel
theorem dX7_passes_186 : decode cX7_passes 186 = .ok (.invokevirtual 128, 3) := by decide +kernel
theorem dX7_passes_189 : decode cX7_passes 189 = .ok (.ifCond .le 6, 3) := by decide +kernel
theorem dX7_passes_192 : decode cX7_passes 192 = .ok (.goto 17, 3) := by decide +kernel
theorem dX7_passes_195 : decode cX7_passes 195 = .ok (.aload_n 0, 1) := by decide +kernel
theorem dX7_passes_196 : decode cX7_passes 196 = .ok (.iload_n 2, 1) := by decide +kernel
theorem dX7_passes_197 : decode cX7_passes 197 = .ok (.aload_n 0, 1) := by decide +kernel
theorem dX7_passes_198 : decode cX7_passes 198 = .ok (.getfield 121, 3) := by decide +kernel
theorem dX7_passes_201 : decode cX7_passes 201 = .ok (.iconst 1, 1) := by decide +kernel
theorem dX7_passes_202 : decode cX7_passes 202 = .ok (.iadd, 1) := by decide +kernel
theorem dX7_passes_203 : decode cX7_passes 203 = .ok (.invokevirtual 124, 3) := by decide +kernel
theorem dX7_passes_206 : decode cX7_passes 206 = .ok (.iinc 1 1, 3) := by decide +kernel
theorem dX7_passes_209 : decode cX7_passes 209 = .ok (.iinc 2 1, 3) := by decide +kernel
theorem dX7_passes_212 : decode cX7_passes 212 = .ok (.goto (-47), 3) := by decide +kernel
theorem dX7_passes_215 : decode cX7_passes 215 = .ok (.iconst 0, 1) := by decide +kernel
theorem dX7_passes_216 : decode cX7_passes 216 = .ok (.istore_n 2, 1) := by decide +kernel
theorem dX7_passes_217 : decode cX7_passes 217 = .ok (.iload_n 2, 1) := by decide +kernel
theorem dX7_passes_218 : decode cX7_passes 218 = .ok (.aload_n 0, 1) := by decide +kernel
theorem dX7_passes_219 : decode cX7_passes 219 = .ok (.getfield 97, 3) := by decide +kernel
theorem dX7_passes_222 : decode cX7_passes 222 = .ok (.if_icmp .ge 71, 3) := by decide +kernel
theorem dX7_passes_225 : decode cX7_passes 225 = .ok (.aload_n 0, 1) := by decide +kernel
theorem dX7_passes_226 : decode cX7_passes 226 = .ok (.getfield 44, 3) := by decide +kernel
theorem dX7_passes_229 : decode cX7_passes 229 = .ok (.iload_n 2, 1) := by decide +kernel
theorem dX7_passes_230 : decode cX7_passes 230 = .ok (.caload, 1) := by decide +kernel
theorem dX7_passes_231 : decode cX7_passes 231 = .ok (.bipush 121, 2) := by decide +kernel
theorem dX7_passes_233 : decode cX7_passes 233 = .ok (.if_icmp .eq 14, 3) := by decide +kernel
theorem dX7_passes_236 : decode cX7_passes 236 = .ok (.aload_n 0, 1) := by decide +kernel
theorem dX7_passes_237 : decode cX7_passes 237 = .ok (.getfield 44, 3) := by decide +kernel
theorem dX7_passes_240 : decode cX7_passes 240 = .ok (.iload_n 2, 1) := by decide +kernel
theorem dX7_passes_241 : decode cX7_passes 241 = .ok (.caload, 1) := by decide +kernel
theorem dX7_passes_242 : decode cX7_passes 242 = .ok (.bipush 100, 2) := by decide +kernel
theorem dX7_passes_244 : decode cX7_passes 244 = .ok (.if_icmp .ne 43, 3) := by decide +kernel
theorem dX7_passes_247 : decode cX7_passes 247 = .ok (.aload_n 0, 1) := by decide +kernel
theorem dX7_passes_248 : decode cX7_passes 248 = .ok (.getfield 13, 3) := by decide +kernel
theorem dX7_passes_251 : decode cX7_passes 251 = .ok (.iload_n 2, 1) := by decide +kernel
theorem dX7_passes_252 : decode cX7_passes 252 = .ok (.baload, 1) := by decide +kernel
theorem dX7_passes_253 : decode cX7_passes 253 = .ok (.ifCond .ne 34, 3) := by decide +kernel
theorem dX7_passes_256 : decode cX7_passes 256 = .ok (.aload_n 0, 1) := by decide +kernel
theorem dX7_passes_257 : decode cX7_passes 257 = .ok (.iload_n 2, 1) := by decide +kernel
theorem dX7_passes_258 : decode cX7_passes 258 = .ok (.aload_n 0, 1) := by decide +kernel
theorem dX7_passes_259 : decode cX7_passes 259 = .ok (.getfield 44, 3) := by decide +kernel
theorem dX7_passes_262 : decode cX7_passes 262 = .ok (.iload_n 2, 1) := by decide +kernel
theorem dX7_passes_263 : decode cX7_passes 263 = .ok (.caload, 1) := by decide +kernel
theorem dX7_passes_264 : decode cX7_passes 264 = .ok (.bipush 121, 2) := by decide +kernel
theorem dX7_passes_266 : decode cX7_passes 266 = .ok (.if_icmp .ne 17, 3) := by decide +kernel
theorem dX7_passes_269 : decode cX7_passes 269 = .ok (.aload_n 0, 1) := by decide +kernel
theorem dX7_passes_270 : decode cX7_passes 270 = .ok (.getfield 87, 3) := by decide +kernel
theorem dX7_passes_273 : decode cX7_passes 273 = .ok (.aload_n 0, 1) := by decide +kernel
theorem dX7_passes_274 : decode cX7_passes 274 = .ok (.getfield 23, 3) := by decide +kernel
theorem dX7_passes_277 : decode cX7_passes 277 = .ok (.iload_n 2, 1) := by decide +kernel
theorem dX7_passes_278 : decode cX7_passes 278 = .ok (.iaload, 1) := by decide +kernel
theorem dX7_passes_279 : decode cX7_passes 279 = .ok (.iaload, 1) := by decide +kernel
theorem dX7_passes_280 : decode cX7_passes 280 = .ok (.goto 4, 3) := by decide +kernel
theorem dX7_passes_283 : decode cX7_passes 283 = .ok (.iload_n 2, 1) := by decide +kernel
theorem dX7_passes_284 : decode cX7_passes 284 = .ok (.invokevirtual 160, 3) := by decide +kernel
theorem dX7_passes_287 : decode cX7_passes 287 = .ok (.iinc 2 1, 3) := by decide +kernel
theorem dX7_passes_290 : decode cX7_passes 290 = .ok (.goto (-73), 3) := by decide +kernel
theorem dX7_passes_293 : decode cX7_passes 293 = .ok (.iconst 0, 1) := by decide +kernel
theorem dX7_passes_294 : decode cX7_passes 294 = .ok (.istore_n 2, 1) := by decide +kernel
theorem dX7_passes_295 : decode cX7_passes 295 = .ok (.iload_n 2, 1) := by decide +kernel
theorem dX7_passes_296 : decode cX7_passes 296 = .ok (.aload_n 0, 1) := by decide +kernel
theorem dX7_passes_297 : decode cX7_passes 297 = .ok (.getfield 115, 3) := by decide +kernel
theorem dX7_passes_300 : decode cX7_passes 300 = .ok (.if_icmp .ge 72, 3) := by decide +kernel
theorem dX7_passes_303 : decode cX7_passes 303 = .ok (.aload_n 0, 1) := by decide +kernel
theorem dX7_passes_304 : decode cX7_passes 304 = .ok (.getfield 60, 3) := by decide +kernel
theorem dX7_passes_307 : decode cX7_passes 307 = .ok (.iload_n 2, 1) := by decide +kernel
theorem dX7_passes_308 : decode cX7_passes 308 = .ok (.dup2, 1) := by decide +kernel
theorem dX7_passes_309 : decode cX7_passes 309 = .ok (.iaload, 1) := by decide +kernel
theorem dX7_passes_310 : decode cX7_passes 310 = .ok (.aload_n 0, 1) := by decide +kernel
theorem dX7_passes_311 : decode cX7_passes 311 = .ok (.getfield 66, 3) := by decide +kernel
theorem dX7_passes_314 : decode cX7_passes 314 = .ok (.iconst 4, 1) := by decide +kernel
theorem dX7_passes_315 : decode cX7_passes 315 = .ok (.iload_n 2, 1) := by decide +kernel
theorem dX7_passes_316 : decode cX7_passes 316 = .ok (.imul, 1) := by decide +kernel
theorem dX7_passes_317 : decode cX7_passes 317 = .ok (.iaload, 1) := by decide +kernel
theorem dX7_passes_318 : decode cX7_passes 318 = .ok (.iadd, 1) := by decide +kernel
theorem dX7_passes_319 : decode cX7_passes 319 = .ok (.iastore, 1) := by decide +kernel
theorem dX7_passes_320 : decode cX7_passes 320 = .ok (.iconst 0, 1) := by decide +kernel
theorem dX7_passes_321 : decode cX7_passes 321 = .ok (.istore_n 3, 1) := by decide +kernel
theorem dX7_passes_322 : decode cX7_passes 322 = .ok (.iload_n 3, 1) := by decide +kernel
theorem dX7_passes_323 : decode cX7_passes 323 = .ok (.iconst 3, 1) := by decide +kernel
theorem dX7_passes_324 : decode cX7_passes 324 = .ok (.if_icmp .ge 31, 3) := by decide +kernel
theorem dX7_passes_327 : decode cX7_passes 327 = .ok (.aload_n 0, 1) := by decide +kernel
theorem dX7_passes_328 : decode cX7_passes 328 = .ok (.getfield 66, 3) := by decide +kernel
theorem dX7_passes_331 : decode cX7_passes 331 = .ok (.iconst 4, 1) := by decide +kernel
theorem dX7_passes_332 : decode cX7_passes 332 = .ok (.iload_n 2, 1) := by decide +kernel
theorem dX7_passes_333 : decode cX7_passes 333 = .ok (.imul, 1) := by decide +kernel
theorem dX7_passes_334 : decode cX7_passes 334 = .ok (.iload_n 3, 1) := by decide +kernel
theorem dX7_passes_335 : decode cX7_passes 335 = .ok (.iadd, 1) := by decide +kernel
theorem dX7_passes_336 : decode cX7_passes 336 = .ok (.aload_n 0, 1) := by decide +kernel
theorem dX7_passes_337 : decode cX7_passes 337 = .ok (.getfield 66, 3) := by decide +kernel
theorem dX7_passes_340 : decode cX7_passes 340 = .ok (.iconst 4, 1) := by decide +kernel
theorem dX7_passes_341 : decode cX7_passes 341 = .ok (.iload_n 2, 1) := by decide +kernel
theorem dX7_passes_342 : decode cX7_passes 342 = .ok (.imul, 1) := by decide +kernel
theorem dX7_passes_343 : decode cX7_passes 343 = .ok (.iload_n 3, 1) := by decide +kernel
theorem dX7_passes_344 : decode cX7_passes 344 = .ok (.iadd, 1) := by decide +kernel
theorem dX7_passes_345 : decode cX7_passes 345 = .ok (.iconst 1, 1) := by decide +kernel
theorem dX7_passes_346 : decode cX7_passes 346 = .ok (.iadd, 1) := by decide +kernel
theorem dX7_passes_347 : decode cX7_passes 347 = .ok (.iaload, 1) := by decide +kernel
theorem dX7_passes_348 : decode cX7_passes 348 = .ok (.iastore, 1) := by decide +kernel
theorem dX7_passes_349 : decode cX7_passes 349 = .ok (.iinc 3 1, 3) := by decide +kernel
theorem dX7_passes_352 : decode cX7_passes 352 = .ok (.goto (-30), 3) := by decide +kernel
theorem dX7_passes_355 : decode cX7_passes 355 = .ok (.aload_n 0, 1) := by decide +kernel
theorem dX7_passes_356 : decode cX7_passes 356 = .ok (.getfield 66, 3) := by decide +kernel
theorem dX7_passes_359 : decode cX7_passes 359 = .ok (.iconst 4, 1) := by decide +kernel
theorem dX7_passes_360 : decode cX7_passes 360 = .ok (.iload_n 2, 1) := by decide +kernel
theorem dX7_passes_361 : decode cX7_passes 361 = .ok (.imul, 1) := by decide +kernel
theorem dX7_passes_362 : decode cX7_passes 362 = .ok (.iconst 3, 1) := by decide +kernel
theorem dX7_passes_363 : decode cX7_passes 363 = .ok (.iadd, 1) := by decide +kernel
theorem dX7_passes_364 : decode cX7_passes 364 = .ok (.iconst 0, 1) := by decide +kernel
theorem dX7_passes_365 : decode cX7_passes 365 = .ok (.iastore, 1) := by decide +kernel
theorem dX7_passes_366 : decode cX7_passes 366 = .ok (.iinc 2 1, 3) := by decide +kernel
theorem dX7_passes_369 : decode cX7_passes 369 = .ok (.goto (-74), 3) := by decide +kernel
theorem dX7_passes_372 : decode cX7_passes 372 = .ok (.aload_n 0, 1) := by decide +kernel
theorem dX7_passes_373 : decode cX7_passes 373 = .ok (.dup, 1) := by decide +kernel
theorem dX7_passes_374 : decode cX7_passes 374 = .ok (.getfield 121, 3) := by decide +kernel
theorem dX7_passes_377 : decode cX7_passes 377 = .ok (.iconst 1, 1) := by decide +kernel
theorem dX7_passes_378 : decode cX7_passes 378 = .ok (.iadd, 1) := by decide +kernel
theorem dX7_passes_379 : decode cX7_passes 379 = .ok (.putfield 121, 3) := by decide +kernel
theorem dX7_passes_382 : decode cX7_passes 382 = .ok (.iload_n 1, 1) := by decide +kernel
theorem dX7_passes_383 : decode cX7_passes 383 = .ok (.ireturn, 1) := by decide +kernel
set_option maxRecDepth 20000 in
theorem ggX7_pass_X7_isIn : GoodIn wsX7_pass wsX7_isIn := goodIn_r _ [6] (by decide +kernel) (by decide +kernel)
set_option maxRecDepth 20000 in
theorem gX7_pass_X7_isIn : GoodIn wsX7_pass (va_wsS RX7 100 yX7_isIn wsX7_isIn) := goodIn_app (goodIn_of _ (by decide +kernel)) ggX7_pass_X7_isIn
set_option maxRecDepth 20000 in
theorem ggX7_pass_X7_fail : GoodIn wsX7_pass wsX7_fail := goodIn_r _ [10, 2, 85, 86, 87, 88, 89, 90, 91, 92, 93, 94, 95, 96, 97, 98, 99, 100, 101, 102, 103, 104, 105, 106, 107, 108, 109, 110, 111, 112, 113, 114, 115, 116, 117, 118] (by decide +kernel) (by decide +kernel)
set_option maxRecDepth 20000 in
theorem gX7_pass_X7_fail : GoodIn wsX7_pass (wsV RX7 104 RX7 yX7_fail wsX7_fail) := goodIn_app (goodIn_of _ (by decide +kernel)) ggX7_pass_X7_fail
set_option maxRecDepth 20000 in
theorem ggX7_pass_X7_passes : GoodIn wsX7_pass wsX7_passes := goodIn_ca (goodIn_r _ [14, 15, 16, 17, 18, 19, 20, 1, 21, 22, 23, 24, 25, 26, 27, 5, 28, 29, 30, 31, 32, 33, 34, 35, 36, 37, 38, 39, 40, 41, 42, 3, 4, 6, 43, 44, 45, 46, 47, 48, 49, 50, 51, 52, 53, 54, 55, 56, 57, 58, 59, 60, 61, 62, 63, 64, 65, 66, 67, 68, 69, 70, 71, 72, 73, 74, 75, 76, 77, 78, 79, 80, 81, 82, 83, 84, 85, 86, 87, 88, 89, 90, 91, 92, 93, 94, 95, 96, 97, 98, 99, 100, 101, 102, 103, 104, 105, 106, 107, 108, 109, 110, 111, 112, 113, 114, 115, 116, 117, 118] (by decide +kernel) (by decide +kernel)) (goodIn_sub (fun _ h => List.mem_cons_of_mem _ (List.mem_append_right _ h)) (by decide +kernel))
set_option maxRecDepth 20000 in
theorem gX7_pass_X7_passes : GoodIn wsX7_pass (wsV RX7 163 RX7 yX7_passes wsX7_passes) := goodIn_app (goodIn_of _ (by decide +kernel)) ggX7_pass_X7_passes
theorem dX7_pass_0 : decode cX7_pass 0 = .ok (.iload_n 1, 1) := by decide +kernel
theorem dX7_pass_1 : decode cX7_pass 1 = .ok (.iconst 1, 1) := by decide +kernel
theorem dX7_pass_2 : decode cX7_pass 2 = .ok (.sipush 300, 3) := by decide +kernel
theorem dX7_pass_5 : decode cX7_pass 5 = .ok (.invokestatic 100, 3) := by decide +kernel
theorem dX7_pass_8 : decode cX7_pass 8 = .ok (.ifCond .ne 9, 3) := by decide +kernel
theorem dX7_pass_11 : decode cX7_pass 11 = .ok (.aload_n 0, 1) := by decide +kernel
theorem dX7_pass_12 : decode cX7_pass 12 = .ok (.iconst 1, 1) := by decide +kernel
theorem dX7_pass_13 : decode cX7_pass 13 = .ok (.invokevirtual 104, 3) := by decide +kernel
theorem dX7_pass_16 : decode cX7_pass 16 = .ok (.ireturn, 1) := by decide +kernel
theorem dX7_pass_17 : decode cX7_pass 17 = .ok (.aload_n 0, 1) := by decide +kernel
theorem dX7_pass_18 : decode cX7_pass 18 = .ok (.getfield 121, 3) := by decide +kernel
theorem dX7_pass_21 : decode cX7_pass 21 = .ok (.iload_n 1, 1) := by decide +kernel
theorem dX7_pass_22 : decode cX7_pass 22 = .ok (.iadd, 1) := by decide +kernel
theorem dX7_pass_23 : decode cX7_pass 23 = .ok (.sipush 2000, 3) := by decide +kernel
theorem dX7_pass_26 : decode cX7_pass 26 = .ok (.if_icmp .le 9, 3) := by decide +kernel
theorem dX7_pass_29 : decode cX7_pass 29 = .ok (.aload_n 0, 1) := by decide +kernel
theorem dX7_pass_30 : decode cX7_pass 30 = .ok (.iconst 2, 1) := by decide +kernel
theorem dX7_pass_31 : decode cX7_pass 31 = .ok (.invokevirtual 104, 3) := by decide +kernel
theorem dX7_pass_34 : decode cX7_pass 34 = .ok (.ireturn, 1) := by decide +kernel
theorem dX7_pass_35 : decode cX7_pass 35 = .ok (.aload_n 0, 1) := by decide +kernel
theorem dX7_pass_36 : decode cX7_pass 36 = .ok (.iconst 0, 1) := by decide +kernel
theorem dX7_pass_37 : decode cX7_pass 37 = .ok (.putfield 93, 3) := by decide +kernel
theorem dX7_pass_40 : decode cX7_pass 40 = .ok (.iconst 0, 1) := by decide +kernel
theorem dX7_pass_41 : decode cX7_pass 41 = .ok (.istore_n 2, 1) := by decide +kernel
theorem dX7_pass_42 : decode cX7_pass 42 = .ok (.iconst 0, 1) := by decide +kernel
theorem dX7_pass_43 : decode cX7_pass 43 = .ok (.istore_n 3, 1) := by decide +kernel
theorem dX7_pass_44 : decode cX7_pass 44 = .ok (.iload_n 3, 1) := by decide +kernel
theorem dX7_pass_45 : decode cX7_pass 45 = .ok (.iload_n 1, 1) := by decide +kernel
theorem dX7_pass_46 : decode cX7_pass 46 = .ok (.if_icmp .ge 16, 3) := by decide +kernel
theorem dX7_pass_49 : decode cX7_pass 49 = .ok (.iload_n 2, 1) := by decide +kernel
theorem dX7_pass_50 : decode cX7_pass 50 = .ok (.aload_n 0, 1) := by decide +kernel
theorem dX7_pass_51 : decode cX7_pass 51 = .ok (.invokevirtual 163, 3) := by decide +kernel
theorem dX7_pass_54 : decode cX7_pass 54 = .ok (.iadd, 1) := by decide +kernel
theorem dX7_pass_55 : decode cX7_pass 55 = .ok (.istore_n 2, 1) := by decide +kernel
theorem dX7_pass_56 : decode cX7_pass 56 = .ok (.iinc 3 1, 3) := by decide +kernel
theorem dX7_pass_59 : decode cX7_pass 59 = .ok (.goto (-15), 3) := by decide +kernel
theorem dX7_pass_62 : decode cX7_pass 62 = .ok (.iload_n 2, 1) := by decide +kernel
theorem dX7_pass_63 : decode cX7_pass 63 = .ok (.ireturn, 1) := by decide +kernel
theorem dX7_now_0 : decode cX7_now 0 = .ok (.aload_n 0, 1) := by decide +kernel
theorem dX7_now_1 : decode cX7_now 1 = .ok (.getfield 121, 3) := by decide +kernel
theorem dX7_now_4 : decode cX7_now 4 = .ok (.ireturn, 1) := by decide +kernel
set_option maxRecDepth 20000 in
theorem ggX7_power_X7_noDoor : GoodIn wsX7_power wsX7_noDoor := goodIn_r _ [5, 6, 7, 8, 4, 9, 20, 21, 22, 23, 24, 25, 26, 27, 28, 29, 30, 31, 32, 33, 34, 35, 36, 37, 38, 39, 40, 41, 42, 43, 44, 45, 46, 47, 48, 49, 50, 51, 52, 53] (by decide +kernel) (by decide +kernel)
set_option maxRecDepth 20000 in
theorem gX7_power_X7_noDoor : GoodIn wsX7_power (wsV RX7 118 RX7 yX7_noDoor wsX7_noDoor) := goodIn_app (goodIn_of _ (by decide +kernel)) ggX7_power_X7_noDoor
set_option maxRecDepth 20000 in
theorem ggX7_power_X7_powerOf : GoodIn wsX7_power wsX7_powerOf := goodIn_ca (goodIn_r _ [13, 14, 15, 16, 17, 18, 19, 7, 8, 4, 9, 20, 21, 22, 23, 24, 25, 26, 27, 28, 29, 30, 31, 32, 33, 34, 35, 36, 37, 38, 39, 40, 41, 42, 43, 44, 45, 46, 47, 48, 49, 50, 51, 52, 53] (by decide +kernel) (by decide +kernel)) (goodIn_sub (fun _ h => List.mem_cons_of_mem _ (List.mem_append_right _ h)) (by decide +kernel))
set_option maxRecDepth 20000 in
theorem gX7_power_X7_powerOf : GoodIn wsX7_power (wsV RX7 138 RX7 yX7_powerOf wsX7_powerOf) := goodIn_app (goodIn_of _ (by decide +kernel)) ggX7_power_X7_powerOf
theorem dX7_power_0 : decode cX7_power 0 = .ok (.aload_n 0, 1) := by decide +kernel
theorem dX7_power_1 : decode cX7_power 1 = .ok (.iload_n 1, 1) := by decide +kernel
theorem dX7_power_2 : decode cX7_power 2 = .ok (.invokevirtual 118, 3) := by decide +kernel
theorem dX7_power_5 : decode cX7_power 5 = .ok (.ifCond .eq 7, 3) := by decide +kernel
theorem dX7_power_8 : decode cX7_power 8 = .ok (.iconst 0, 1) := by decide +kernel
theorem dX7_power_9 : decode cX7_power 9 = .ok (.goto 8, 3) := by decide +kernel
theorem dX7_power_12 : decode cX7_power 12 = .ok (.aload_n 0, 1) := by decide +kernel
theorem dX7_power_13 : decode cX7_power 13 = .ok (.iload_n 1, 1) := by decide +kernel
theorem dX7_power_14 : decode cX7_power 14 = .ok (.invokevirtual 138, 3) := by decide +kernel
theorem dX7_power_17 : decode cX7_power 17 = .ok (.ireturn, 1) := by decide +kernel
set_option maxRecDepth 20000 in
theorem ggX7_stateOf_X7_noLorry : GoodIn wsX7_stateOf wsX7_noLorry := goodIn_r _ [6, 7, 8, 9, 10, 5, 11, 12, 13, 14, 15, 16, 17, 18, 19, 20, 21, 22, 23, 24, 25, 26, 27, 28, 29, 30, 31, 32, 33, 34, 35, 36, 37, 38, 39, 40, 41, 42, 43, 44, 45] (by decide +kernel) (by decide +kernel)
set_option maxRecDepth 20000 in
theorem gX7_stateOf_X7_noLorry : GoodIn wsX7_stateOf (wsV RX7 108 RX7 yX7_noLorry wsX7_noLorry) := goodIn_app (goodIn_of _ (by decide +kernel)) ggX7_stateOf_X7_noLorry
theorem dX7_stateOf_0 : decode cX7_stateOf 0 = .ok (.aload_n 0, 1) := by decide +kernel
theorem dX7_stateOf_1 : decode cX7_stateOf 1 = .ok (.iload_n 1, 1) := by decide +kernel
theorem dX7_stateOf_2 : decode cX7_stateOf 2 = .ok (.invokevirtual 108, 3) := by decide +kernel
theorem dX7_stateOf_5 : decode cX7_stateOf 5 = .ok (.ifCond .eq 8, 3) := by decide +kernel
theorem dX7_stateOf_8 : decode cX7_stateOf 8 = .ok (.bipush 101, 2) := by decide +kernel
theorem dX7_stateOf_10 : decode cX7_stateOf 10 = .ok (.goto 9, 3) := by decide +kernel
theorem dX7_stateOf_13 : decode cX7_stateOf 13 = .ok (.aload_n 0, 1) := by decide +kernel
theorem dX7_stateOf_14 : decode cX7_stateOf 14 = .ok (.getfield 44, 3) := by decide +kernel
theorem dX7_stateOf_17 : decode cX7_stateOf 17 = .ok (.iload_n 1, 1) := by decide +kernel
theorem dX7_stateOf_18 : decode cX7_stateOf 18 = .ok (.caload, 1) := by decide +kernel
theorem dX7_stateOf_19 : decode cX7_stateOf 19 = .ok (.ireturn, 1) := by decide +kernel
set_option maxRecDepth 20000 in
theorem ggX7_lorryAt_X7_noDoor : GoodIn wsX7_lorryAt wsX7_noDoor := goodIn_r _ [6, 7, 8, 9, 5, 10, 15, 16, 17, 18, 19, 20, 21, 22, 23, 24, 25, 26, 27, 28, 29, 30, 31, 32, 33, 34, 35, 36, 37, 38, 39, 40, 41, 42, 43, 44, 45, 46, 47, 48] (by decide +kernel) (by decide +kernel)
set_option maxRecDepth 20000 in
theorem gX7_lorryAt_X7_noDoor : GoodIn wsX7_lorryAt (wsV RX7 118 RX7 yX7_noDoor wsX7_noDoor) := goodIn_app (goodIn_of _ (by decide +kernel)) ggX7_lorryAt_X7_noDoor
set_option maxRecDepth 20000 in
theorem ggX7_lorryAt_X7_fail : GoodIn wsX7_lorryAt wsX7_fail := goodIn_r _ [14, 7, 15, 16, 17, 18, 19, 20, 21, 22, 23, 24, 25, 26, 27, 28, 29, 30, 31, 32, 33, 34, 35, 36, 37, 38, 39, 40, 41, 42, 43, 44, 45, 46, 47, 48] (by decide +kernel) (by decide +kernel)
set_option maxRecDepth 20000 in
theorem gX7_lorryAt_X7_fail : GoodIn wsX7_lorryAt (wsV RX7 104 RX7 yX7_fail wsX7_fail) := goodIn_app (goodIn_of _ (by decide +kernel)) ggX7_lorryAt_X7_fail
theorem dX7_lorryAt_0 : decode cX7_lorryAt 0 = .ok (.aload_n 0, 1) := by decide +kernel
theorem dX7_lorryAt_1 : decode cX7_lorryAt 1 = .ok (.iload_n 1, 1) := by decide +kernel
theorem dX7_lorryAt_2 : decode cX7_lorryAt 2 = .ok (.invokevirtual 118, 3) := by decide +kernel
theorem dX7_lorryAt_5 : decode cX7_lorryAt 5 = .ok (.ifCond .eq 5, 3) := by decide +kernel
theorem dX7_lorryAt_8 : decode cX7_lorryAt 8 = .ok (.iconst 0, 1) := by decide +kernel
theorem dX7_lorryAt_9 : decode cX7_lorryAt 9 = .ok (.ireturn, 1) := by decide +kernel
theorem dX7_lorryAt_10 : decode cX7_lorryAt 10 = .ok (.aload_n 0, 1) := by decide +kernel
theorem dX7_lorryAt_11 : decode cX7_lorryAt 11 = .ok (.getfield 81, 3) := by decide +kernel
theorem dX7_lorryAt_14 : decode cX7_lorryAt 14 = .ok (.iload_n 1, 1) := by decide +kernel
theorem dX7_lorryAt_15 : decode cX7_lorryAt 15 = .ok (.iaload, 1) := by decide +kernel
theorem dX7_lorryAt_16 : decode cX7_lorryAt 16 = .ok (.iconst (-1), 1) := by decide +kernel
theorem dX7_lorryAt_17 : decode cX7_lorryAt 17 = .ok (.if_icmp .ne 9, 3) := by decide +kernel
theorem dX7_lorryAt_20 : decode cX7_lorryAt 20 = .ok (.aload_n 0, 1) := by decide +kernel
theorem dX7_lorryAt_21 : decode cX7_lorryAt 21 = .ok (.iconst 2, 1) := by decide +kernel
theorem dX7_lorryAt_22 : decode cX7_lorryAt 22 = .ok (.invokevirtual 104, 3) := by decide +kernel
theorem dX7_lorryAt_25 : decode cX7_lorryAt 25 = .ok (.ireturn, 1) := by decide +kernel
theorem dX7_lorryAt_26 : decode cX7_lorryAt 26 = .ok (.aload_n 0, 1) := by decide +kernel
theorem dX7_lorryAt_27 : decode cX7_lorryAt 27 = .ok (.getfield 81, 3) := by decide +kernel
theorem dX7_lorryAt_30 : decode cX7_lorryAt 30 = .ok (.iload_n 1, 1) := by decide +kernel
theorem dX7_lorryAt_31 : decode cX7_lorryAt 31 = .ok (.iaload, 1) := by decide +kernel
theorem dX7_lorryAt_32 : decode cX7_lorryAt 32 = .ok (.ireturn, 1) := by decide +kernel
set_option maxRecDepth 20000 in
theorem ggX7_inQueue_X7_noDoor : GoodIn wsX7_inQueue wsX7_noDoor := goodIn_r _ [5, 6, 7, 8, 4, 9, 26, 27, 28, 29, 30, 31, 32, 33, 34, 35, 36, 37, 38, 39, 40, 41, 42, 43, 44, 45, 46, 47, 48, 49, 50, 51, 52, 53, 54, 55, 56, 57, 58, 59] (by decide +kernel) (by decide +kernel)
set_option maxRecDepth 20000 in
theorem gX7_inQueue_X7_noDoor : GoodIn wsX7_inQueue (wsV RX7 118 RX7 yX7_noDoor wsX7_noDoor) := goodIn_app (goodIn_of _ (by decide +kernel)) ggX7_inQueue_X7_noDoor
set_option maxRecDepth 20000 in
theorem ggX7_inQueue_X7_queued : GoodIn wsX7_inQueue wsX7_queued := goodIn_ca (goodIn_r _ [13, 14, 15, 16, 17, 18, 19, 4, 20, 21, 26, 27, 28, 29, 30, 31, 32, 33, 34, 35, 36, 37, 38, 39, 40, 41, 42, 43, 44, 45, 46, 47, 48, 49, 50, 51, 52, 53, 54, 55, 56, 57, 58, 59] (by decide +kernel) (by decide +kernel)) (goodIn_sub (fun _ h => List.mem_cons_of_mem _ (List.mem_append_right _ h)) (by decide +kernel))
set_option maxRecDepth 20000 in
theorem gX7_inQueue_X7_queued : GoodIn wsX7_inQueue (wsV RX7 151 RX7 yX7_queued wsX7_queued) := goodIn_app (goodIn_of _ (by decide +kernel)) ggX7_inQueue_X7_queued
set_option maxRecDepth 20000 in
theorem ggX7_inQueue_X7_fail : GoodIn wsX7_inQueue wsX7_fail := goodIn_r _ [25, 6, 26, 27, 28, 29, 30, 31, 32, 33, 34, 35, 36, 37, 38, 39, 40, 41, 42, 43, 44, 45, 46, 47, 48, 49, 50, 51, 52, 53, 54, 55, 56, 57, 58, 59] (by decide +kernel) (by decide +kernel)
set_option maxRecDepth 20000 in
theorem gX7_inQueue_X7_fail : GoodIn wsX7_inQueue (wsV RX7 104 RX7 yX7_fail wsX7_fail) := goodIn_app (goodIn_of _ (by decide +kernel)) ggX7_inQueue_X7_fail
theorem dX7_inQueue_0 : decode cX7_inQueue 0 = .ok (.aload_n 0, 1) := by decide +kernel
theorem dX7_inQueue_1 : decode cX7_inQueue 1 = .ok (.iload_n 1, 1) := by decide +kernel
theorem dX7_inQueue_2 : decode cX7_inQueue 2 = .ok (.invokevirtual 118, 3) := by decide +kernel
theorem dX7_inQueue_5 : decode cX7_inQueue 5 = .ok (.ifCond .eq 5, 3) := by decide +kernel
theorem dX7_inQueue_8 : decode cX7_inQueue 8 = .ok (.iconst 0, 1) := by decide +kernel
theorem dX7_inQueue_9 : decode cX7_inQueue 9 = .ok (.ireturn, 1) := by decide +kernel
theorem dX7_inQueue_10 : decode cX7_inQueue 10 = .ok (.iload_n 2, 1) := by decide +kernel
theorem dX7_inQueue_11 : decode cX7_inQueue 11 = .ok (.ifCond .ge 7, 3) := by decide +kernel
theorem dX7_inQueue_14 : decode cX7_inQueue 14 = .ok (.iconst (-1), 1) := by decide +kernel
theorem dX7_inQueue_15 : decode cX7_inQueue 15 = .ok (.goto 9, 3) := by decide +kernel
theorem dX7_inQueue_18 : decode cX7_inQueue 18 = .ok (.aload_n 0, 1) := by decide +kernel
theorem dX7_inQueue_19 : decode cX7_inQueue 19 = .ok (.iload_n 1, 1) := by decide +kernel
theorem dX7_inQueue_20 : decode cX7_inQueue 20 = .ok (.iload_n 2, 1) := by decide +kernel
theorem dX7_inQueue_21 : decode cX7_inQueue 21 = .ok (.invokevirtual 151, 3) := by decide +kernel
theorem dX7_inQueue_24 : decode cX7_inQueue 24 = .ok (.istore_n 3, 1) := by decide +kernel
theorem dX7_inQueue_25 : decode cX7_inQueue 25 = .ok (.iload_n 3, 1) := by decide +kernel
theorem dX7_inQueue_26 : decode cX7_inQueue 26 = .ok (.iconst (-1), 1) := by decide +kernel
theorem dX7_inQueue_27 : decode cX7_inQueue 27 = .ok (.if_icmp .ne 9, 3) := by decide +kernel
theorem dX7_inQueue_30 : decode cX7_inQueue 30 = .ok (.aload_n 0, 1) := by decide +kernel
theorem dX7_inQueue_31 : decode cX7_inQueue 31 = .ok (.iconst 2, 1) := by decide +kernel
theorem dX7_inQueue_32 : decode cX7_inQueue 32 = .ok (.invokevirtual 104, 3) := by decide +kernel
theorem dX7_inQueue_35 : decode cX7_inQueue 35 = .ok (.ireturn, 1) := by decide +kernel
theorem dX7_inQueue_36 : decode cX7_inQueue 36 = .ok (.iload_n 3, 1) := by decide +kernel
theorem dX7_inQueue_37 : decode cX7_inQueue 37 = .ok (.ireturn, 1) := by decide +kernel
set_option maxRecDepth 20000 in
theorem ggX7_noTransfer_X7_isIn : GoodIn wsX7_noTransfer wsX7_isIn := goodIn_r _ [6] (by decide +kernel) (by decide +kernel)
set_option maxRecDepth 20000 in
theorem gX7_noTransfer_X7_isIn : GoodIn wsX7_noTransfer (va_wsS RX7 100 yX7_isIn wsX7_isIn) := goodIn_app (goodIn_of _ (by decide +kernel)) ggX7_noTransfer_X7_isIn
theorem dX7_noTransfer_0 : decode cX7_noTransfer 0 = .ok (.aload_n 0, 1) := by decide +kernel
theorem dX7_noTransfer_1 : decode cX7_noTransfer 1 = .ok (.iload_n 1, 1) := by decide +kernel
theorem dX7_noTransfer_2 : decode cX7_noTransfer 2 = .ok (.iconst 0, 1) := by decide +kernel
theorem dX7_noTransfer_3 : decode cX7_noTransfer 3 = .ok (.aload_n 0, 1) := by decide +kernel
theorem dX7_noTransfer_4 : decode cX7_noTransfer 4 = .ok (.getfield 115, 3) := by decide +kernel
theorem dX7_noTransfer_7 : decode cX7_noTransfer 7 = .ok (.iconst 1, 1) := by decide +kernel
theorem dX7_noTransfer_8 : decode cX7_noTransfer 8 = .ok (.isub, 1) := by decide +kernel
theorem dX7_noTransfer_9 : decode cX7_noTransfer 9 = .ok (.invokestatic 100, 3) := by decide +kernel
theorem dX7_noTransfer_12 : decode cX7_noTransfer 12 = .ok (.ifCond .eq 7, 3) := by decide +kernel
theorem dX7_noTransfer_15 : decode cX7_noTransfer 15 = .ok (.iconst 0, 1) := by decide +kernel
theorem dX7_noTransfer_16 : decode cX7_noTransfer 16 = .ok (.goto 4, 3) := by decide +kernel
theorem dX7_noTransfer_19 : decode cX7_noTransfer 19 = .ok (.iconst 1, 1) := by decide +kernel
theorem dX7_noTransfer_20 : decode cX7_noTransfer 20 = .ok (.putfield 93, 3) := by decide +kernel
theorem dX7_noTransfer_23 : decode cX7_noTransfer 23 = .ok (.aload_n 0, 1) := by decide +kernel
theorem dX7_noTransfer_24 : decode cX7_noTransfer 24 = .ok (.getfield 93, 3) := by decide +kernel
theorem dX7_noTransfer_27 : decode cX7_noTransfer 27 = .ok (.ifCond .eq 7, 3) := by decide +kernel
theorem dX7_noTransfer_30 : decode cX7_noTransfer 30 = .ok (.iconst 1, 1) := by decide +kernel
theorem dX7_noTransfer_31 : decode cX7_noTransfer 31 = .ok (.goto 4, 3) := by decide +kernel
theorem dX7_noTransfer_34 : decode cX7_noTransfer 34 = .ok (.iconst 0, 1) := by decide +kernel
theorem dX7_noTransfer_35 : decode cX7_noTransfer 35 = .ok (.ireturn, 1) := by decide +kernel
set_option maxRecDepth 20000 in
theorem ggX7_unloaded_X7_noTransfer : GoodIn wsX7_unloaded wsX7_noTransfer := goodIn_r _ [6, 7, 8, 9, 10, 5, 11, 12, 13, 14, 15, 16, 17, 18, 19, 20, 21, 22, 23, 24, 25, 26, 27, 28, 29, 30, 31, 32, 33, 34, 35, 36, 37, 38, 39, 40, 41, 42, 43, 44, 45] (by decide +kernel) (by decide +kernel)
set_option maxRecDepth 20000 in
theorem gX7_unloaded_X7_noTransfer : GoodIn wsX7_unloaded (wsV RX7 167 RX7 yX7_noTransfer wsX7_noTransfer) := goodIn_app (goodIn_of _ (by decide +kernel)) ggX7_unloaded_X7_noTransfer
theorem dX7_unloaded_0 : decode cX7_unloaded 0 = .ok (.aload_n 0, 1) := by decide +kernel
theorem dX7_unloaded_1 : decode cX7_unloaded 1 = .ok (.iload_n 1, 1) := by decide +kernel
theorem dX7_unloaded_2 : decode cX7_unloaded 2 = .ok (.invokevirtual 167, 3) := by decide +kernel
theorem dX7_unloaded_5 : decode cX7_unloaded 5 = .ok (.ifCond .eq 7, 3) := by decide +kernel
theorem dX7_unloaded_8 : decode cX7_unloaded 8 = .ok (.iconst 0, 1) := by decide +kernel
theorem dX7_unloaded_9 : decode cX7_unloaded 9 = .ok (.goto 9, 3) := by decide +kernel
theorem dX7_unloaded_12 : decode cX7_unloaded 12 = .ok (.aload_n 0, 1) := by decide +kernel
theorem dX7_unloaded_13 : decode cX7_unloaded 13 = .ok (.getfield 57, 3) := by decide +kernel
theorem dX7_unloaded_16 : decode cX7_unloaded 16 = .ok (.iload_n 1, 1) := by decide +kernel
theorem dX7_unloaded_17 : decode cX7_unloaded 17 = .ok (.iaload, 1) := by decide +kernel
theorem dX7_unloaded_18 : decode cX7_unloaded 18 = .ok (.ireturn, 1) := by decide +kernel
set_option maxRecDepth 20000 in
theorem ggX7_ready_X7_noTransfer : GoodIn wsX7_ready wsX7_noTransfer := goodIn_r _ [6, 7, 8, 9, 10, 5, 11, 12, 13, 14, 15, 16, 17, 18, 19, 20, 21, 22, 23, 24, 25, 26, 27, 28, 29, 30, 31, 32, 33, 34, 35, 36, 37, 38, 39, 40, 41, 42, 43, 44, 45] (by decide +kernel) (by decide +kernel)
set_option maxRecDepth 20000 in
theorem gX7_ready_X7_noTransfer : GoodIn wsX7_ready (wsV RX7 167 RX7 yX7_noTransfer wsX7_noTransfer) := goodIn_app (goodIn_of _ (by decide +kernel)) ggX7_ready_X7_noTransfer
theorem dX7_ready_0 : decode cX7_ready 0 = .ok (.aload_n 0, 1) := by decide +kernel
theorem dX7_ready_1 : decode cX7_ready 1 = .ok (.iload_n 1, 1) := by decide +kernel
theorem dX7_ready_2 : decode cX7_ready 2 = .ok (.invokevirtual 167, 3) := by decide +kernel
theorem dX7_ready_5 : decode cX7_ready 5 = .ok (.ifCond .eq 7, 3) := by decide +kernel
theorem dX7_ready_8 : decode cX7_ready 8 = .ok (.iconst 0, 1) := by decide +kernel
theorem dX7_ready_9 : decode cX7_ready 9 = .ok (.goto 9, 3) := by decide +kernel
theorem dX7_ready_12 : decode cX7_ready 12 = .ok (.aload_n 0, 1) := by decide +kernel
theorem dX7_ready_13 : decode cX7_ready 13 = .ok (.getfield 60, 3) := by decide +kernel
theorem dX7_ready_16 : decode cX7_ready 16 = .ok (.iload_n 1, 1) := by decide +kernel
theorem dX7_ready_17 : decode cX7_ready 17 = .ok (.iaload, 1) := by decide +kernel
theorem dX7_ready_18 : decode cX7_ready 18 = .ok (.ireturn, 1) := by decide +kernel
set_option maxRecDepth 20000 in
theorem ggX7_loaded_X7_noTransfer : GoodIn wsX7_loaded wsX7_noTransfer := goodIn_r _ [6, 7, 8, 9, 10, 5, 11, 12, 13, 14, 15, 16, 17, 18, 19, 20, 21, 22, 23, 24, 25, 26, 27, 28, 29, 30, 31, 32, 33, 34, 35, 36, 37, 38, 39, 40, 41, 42, 43, 44, 45] (by decide +kernel) (by decide +kernel)
set_option maxRecDepth 20000 in
theorem gX7_loaded_X7_noTransfer : GoodIn wsX7_loaded (wsV RX7 167 RX7 yX7_noTransfer wsX7_noTransfer) := goodIn_app (goodIn_of _ (by decide +kernel)) ggX7_loaded_X7_noTransfer
theorem dX7_loaded_0 : decode cX7_loaded 0 = .ok (.aload_n 0, 1) := by decide +kernel
theorem dX7_loaded_1 : decode cX7_loaded 1 = .ok (.iload_n 1, 1) := by decide +kernel
theorem dX7_loaded_2 : decode cX7_loaded 2 = .ok (.invokevirtual 167, 3) := by decide +kernel
theorem dX7_loaded_5 : decode cX7_loaded 5 = .ok (.ifCond .eq 7, 3) := by decide +kernel
theorem dX7_loaded_8 : decode cX7_loaded 8 = .ok (.iconst 0, 1) := by decide +kernel
theorem dX7_loaded_9 : decode cX7_loaded 9 = .ok (.goto 9, 3) := by decide +kernel
theorem dX7_loaded_12 : decode cX7_loaded 12 = .ok (.aload_n 0, 1) := by decide +kernel
theorem dX7_loaded_13 : decode cX7_loaded 13 = .ok (.getfield 63, 3) := by decide +kernel
theorem dX7_loaded_16 : decode cX7_loaded 16 = .ok (.iload_n 1, 1) := by decide +kernel
theorem dX7_loaded_17 : decode cX7_loaded 17 = .ok (.iaload, 1) := by decide +kernel
theorem dX7_loaded_18 : decode cX7_loaded 18 = .ok (.ireturn, 1) := by decide +kernel
set_option maxRecDepth 20000 in
theorem ggX7_leftAt_X7_noLorry : GoodIn wsX7_leftAt wsX7_noLorry := goodIn_r _ [7, 8, 9, 10, 11, 6, 12, 17, 18, 19, 20, 21, 22, 23, 24, 25, 26, 27, 28, 29, 30, 31, 32, 33, 34, 35, 36, 37, 38, 39, 40, 41, 42, 43, 44, 45, 46, 47, 48, 49, 50] (by decide +kernel) (by decide +kernel)
set_option maxRecDepth 20000 in
theorem gX7_leftAt_X7_noLorry : GoodIn wsX7_leftAt (wsV RX7 108 RX7 yX7_noLorry wsX7_noLorry) := goodIn_app (goodIn_of _ (by decide +kernel)) ggX7_leftAt_X7_noLorry
set_option maxRecDepth 20000 in
theorem ggX7_leftAt_X7_fail : GoodIn wsX7_leftAt wsX7_fail := goodIn_r _ [16, 9, 17, 18, 19, 20, 21, 22, 23, 24, 25, 26, 27, 28, 29, 30, 31, 32, 33, 34, 35, 36, 37, 38, 39, 40, 41, 42, 43, 44, 45, 46, 47, 48, 49, 50] (by decide +kernel) (by decide +kernel)
set_option maxRecDepth 20000 in
theorem gX7_leftAt_X7_fail : GoodIn wsX7_leftAt (wsV RX7 104 RX7 yX7_fail wsX7_fail) := goodIn_app (goodIn_of _ (by decide +kernel)) ggX7_leftAt_X7_fail
theorem dX7_leftAt_0 : decode cX7_leftAt 0 = .ok (.aload_n 0, 1) := by decide +kernel
theorem dX7_leftAt_1 : decode cX7_leftAt 1 = .ok (.iload_n 1, 1) := by decide +kernel
theorem dX7_leftAt_2 : decode cX7_leftAt 2 = .ok (.invokevirtual 108, 3) := by decide +kernel
theorem dX7_leftAt_5 : decode cX7_leftAt 5 = .ok (.ifCond .eq 5, 3) := by decide +kernel
theorem dX7_leftAt_8 : decode cX7_leftAt 8 = .ok (.iconst 0, 1) := by decide +kernel
theorem dX7_leftAt_9 : decode cX7_leftAt 9 = .ok (.ireturn, 1) := by decide +kernel
theorem dX7_leftAt_10 : decode cX7_leftAt 10 = .ok (.aload_n 0, 1) := by decide +kernel
theorem dX7_leftAt_11 : decode cX7_leftAt 11 = .ok (.getfield 44, 3) := by decide +kernel
theorem dX7_leftAt_14 : decode cX7_leftAt 14 = .ok (.iload_n 1, 1) := by decide +kernel
theorem dX7_leftAt_15 : decode cX7_leftAt 15 = .ok (.caload, 1) := by decide +kernel
theorem dX7_leftAt_16 : decode cX7_leftAt 16 = .ok (.bipush 108, 2) := by decide +kernel
theorem dX7_leftAt_18 : decode cX7_leftAt 18 = .ok (.if_icmp .eq 9, 3) := by decide +kernel
theorem dX7_leftAt_21 : decode cX7_leftAt 21 = .ok (.aload_n 0, 1) := by decide +kernel
theorem dX7_leftAt_22 : decode cX7_leftAt 22 = .ok (.iconst 2, 1) := by decide +kernel
theorem dX7_leftAt_23 : decode cX7_leftAt 23 = .ok (.invokevirtual 104, 3) := by decide +kernel
theorem dX7_leftAt_26 : decode cX7_leftAt 26 = .ok (.ireturn, 1) := by decide +kernel
theorem dX7_leftAt_27 : decode cX7_leftAt 27 = .ok (.aload_n 0, 1) := by decide +kernel
theorem dX7_leftAt_28 : decode cX7_leftAt 28 = .ok (.getfield 35, 3) := by decide +kernel
theorem dX7_leftAt_31 : decode cX7_leftAt 31 = .ok (.iload_n 1, 1) := by decide +kernel
theorem dX7_leftAt_32 : decode cX7_leftAt 32 = .ok (.iaload, 1) := by decide +kernel
theorem dX7_leftAt_33 : decode cX7_leftAt 33 = .ok (.ireturn, 1) := by decide +kernel
theorem dX7_leftBehind_0 : decode cX7_leftBehind 0 = .ok (.iconst 0, 1) := by decide +kernel
theorem dX7_leftBehind_1 : decode cX7_leftBehind 1 = .ok (.istore_n 1, 1) := by decide +kernel
theorem dX7_leftBehind_2 : decode cX7_leftBehind 2 = .ok (.iconst 0, 1) := by decide +kernel
theorem dX7_leftBehind_3 : decode cX7_leftBehind 3 = .ok (.istore_n 2, 1) := by decide +kernel
theorem dX7_leftBehind_4 : decode cX7_leftBehind 4 = .ok (.iload_n 2, 1) := by decide +kernel
theorem dX7_leftBehind_5 : decode cX7_leftBehind 5 = .ok (.aload_n 0, 1) := by decide +kernel
theorem dX7_leftBehind_6 : decode cX7_leftBehind 6 = .ok (.getfield 115, 3) := by decide +kernel
theorem dX7_leftBehind_9 : decode cX7_leftBehind 9 = .ok (.if_icmp .ge 45, 3) := by decide +kernel
theorem dX7_leftBehind_12 : decode cX7_leftBehind 12 = .ok (.iload_n 1, 1) := by decide +kernel
theorem dX7_leftBehind_13 : decode cX7_leftBehind 13 = .ok (.aload_n 0, 1) := by decide +kernel
theorem dX7_leftBehind_14 : decode cX7_leftBehind 14 = .ok (.getfield 44, 3) := by decide +kernel
theorem dX7_leftBehind_17 : decode cX7_leftBehind 17 = .ok (.aload_n 0, 1) := by decide +kernel
theorem dX7_leftBehind_18 : decode cX7_leftBehind 18 = .ok (.getfield 51, 3) := by decide +kernel
theorem dX7_leftBehind_21 : decode cX7_leftBehind 21 = .ok (.iload_n 2, 1) := by decide +kernel
theorem dX7_leftBehind_22 : decode cX7_leftBehind 22 = .ok (.iaload, 1) := by decide +kernel
theorem dX7_leftBehind_23 : decode cX7_leftBehind 23 = .ok (.caload, 1) := by decide +kernel
theorem dX7_leftBehind_24 : decode cX7_leftBehind 24 = .ok (.bipush 108, 2) := by decide +kernel
theorem dX7_leftBehind_26 : decode cX7_leftBehind 26 = .ok (.if_icmp .ne 19, 3) := by decide +kernel
theorem dX7_leftBehind_29 : decode cX7_leftBehind 29 = .ok (.aload_n 0, 1) := by decide +kernel
theorem dX7_leftBehind_30 : decode cX7_leftBehind 30 = .ok (.getfield 54, 3) := by decide +kernel
theorem dX7_leftBehind_33 : decode cX7_leftBehind 33 = .ok (.iload_n 2, 1) := by decide +kernel
theorem dX7_leftBehind_34 : decode cX7_leftBehind 34 = .ok (.iaload, 1) := by decide +kernel
theorem dX7_leftBehind_35 : decode cX7_leftBehind 35 = .ok (.aload_n 0, 1) := by decide +kernel
theorem dX7_leftBehind_36 : decode cX7_leftBehind 36 = .ok (.getfield 63, 3) := by decide +kernel
theorem dX7_leftBehind_39 : decode cX7_leftBehind 39 = .ok (.iload_n 2, 1) := by decide +kernel
theorem dX7_leftBehind_40 : decode cX7_leftBehind 40 = .ok (.iaload, 1) := by decide +kernel
theorem dX7_leftBehind_41 : decode cX7_leftBehind 41 = .ok (.isub, 1) := by decide +kernel
theorem dX7_leftBehind_42 : decode cX7_leftBehind 42 = .ok (.goto 4, 3) := by decide +kernel
theorem dX7_leftBehind_45 : decode cX7_leftBehind 45 = .ok (.iconst 0, 1) := by decide +kernel
theorem dX7_leftBehind_46 : decode cX7_leftBehind 46 = .ok (.iadd, 1) := by decide +kernel
theorem dX7_leftBehind_47 : decode cX7_leftBehind 47 = .ok (.istore_n 1, 1) := by decide +kernel
theorem dX7_leftBehind_48 : decode cX7_leftBehind 48 = .ok (.iinc 2 1, 3) := by decide +kernel
theorem dX7_leftBehind_51 : decode cX7_leftBehind 51 = .ok (.goto (-47), 3) := by decide +kernel
theorem dX7_leftBehind_54 : decode cX7_leftBehind 54 = .ok (.iload_n 1, 1) := by decide +kernel
theorem dX7_leftBehind_55 : decode cX7_leftBehind 55 = .ok (.ireturn, 1) := by decide +kernel
set_option maxRecDepth 20000 in
theorem ggX7_waited_X7_noLorry : GoodIn wsX7_waited wsX7_noLorry := goodIn_r _ [6, 7, 8, 9, 10, 5, 11, 12, 13, 14, 15, 16, 17, 18, 19, 20, 21, 22, 23, 24, 25, 26, 27, 28, 29, 30, 31, 32, 33, 34, 35, 36, 37, 38, 39, 40, 41, 42, 43, 44, 45] (by decide +kernel) (by decide +kernel)
set_option maxRecDepth 20000 in
theorem gX7_waited_X7_noLorry : GoodIn wsX7_waited (wsV RX7 108 RX7 yX7_noLorry wsX7_noLorry) := goodIn_app (goodIn_of _ (by decide +kernel)) ggX7_waited_X7_noLorry
theorem dX7_waited_0 : decode cX7_waited 0 = .ok (.aload_n 0, 1) := by decide +kernel
theorem dX7_waited_1 : decode cX7_waited 1 = .ok (.iload_n 1, 1) := by decide +kernel
theorem dX7_waited_2 : decode cX7_waited 2 = .ok (.invokevirtual 108, 3) := by decide +kernel
theorem dX7_waited_5 : decode cX7_waited 5 = .ok (.ifCond .eq 7, 3) := by decide +kernel
theorem dX7_waited_8 : decode cX7_waited 8 = .ok (.iconst 0, 1) := by decide +kernel
theorem dX7_waited_9 : decode cX7_waited 9 = .ok (.goto 9, 3) := by decide +kernel
theorem dX7_waited_12 : decode cX7_waited 12 = .ok (.aload_n 0, 1) := by decide +kernel
theorem dX7_waited_13 : decode cX7_waited 13 = .ok (.getfield 29, 3) := by decide +kernel
theorem dX7_waited_16 : decode cX7_waited 16 = .ok (.iload_n 1, 1) := by decide +kernel
theorem dX7_waited_17 : decode cX7_waited 17 = .ok (.iaload, 1) := by decide +kernel
theorem dX7_waited_18 : decode cX7_waited 18 = .ok (.ireturn, 1) := by decide +kernel
set_option maxRecDepth 20000 in
theorem ggX7_ownMinutes_X7_noLorry : GoodIn wsX7_ownMinutes wsX7_noLorry := goodIn_r _ [6, 7, 8, 9, 10, 5, 11, 12, 13, 14, 15, 16, 17, 18, 19, 20, 21, 22, 23, 24, 25, 26, 27, 28, 29, 30, 31, 32, 33, 34, 35, 36, 37, 38, 39, 40, 41, 42, 43, 44, 45] (by decide +kernel) (by decide +kernel)
set_option maxRecDepth 20000 in
theorem gX7_ownMinutes_X7_noLorry : GoodIn wsX7_ownMinutes (wsV RX7 108 RX7 yX7_noLorry wsX7_noLorry) := goodIn_app (goodIn_of _ (by decide +kernel)) ggX7_ownMinutes_X7_noLorry
theorem dX7_ownMinutes_0 : decode cX7_ownMinutes 0 = .ok (.aload_n 0, 1) := by decide +kernel
theorem dX7_ownMinutes_1 : decode cX7_ownMinutes 1 = .ok (.iload_n 1, 1) := by decide +kernel
theorem dX7_ownMinutes_2 : decode cX7_ownMinutes 2 = .ok (.invokevirtual 108, 3) := by decide +kernel
theorem dX7_ownMinutes_5 : decode cX7_ownMinutes 5 = .ok (.ifCond .eq 7, 3) := by decide +kernel
theorem dX7_ownMinutes_8 : decode cX7_ownMinutes 8 = .ok (.iconst 0, 1) := by decide +kernel
theorem dX7_ownMinutes_9 : decode cX7_ownMinutes 9 = .ok (.goto 9, 3) := by decide +kernel
theorem dX7_ownMinutes_12 : decode cX7_ownMinutes 12 = .ok (.aload_n 0, 1) := by decide +kernel
theorem dX7_ownMinutes_13 : decode cX7_ownMinutes 13 = .ok (.getfield 32, 3) := by decide +kernel
theorem dX7_ownMinutes_16 : decode cX7_ownMinutes 16 = .ok (.iload_n 1, 1) := by decide +kernel
theorem dX7_ownMinutes_17 : decode cX7_ownMinutes 17 = .ok (.iaload, 1) := by decide +kernel
theorem dX7_ownMinutes_18 : decode cX7_ownMinutes 18 = .ok (.ireturn, 1) := by decide +kernel
set_option maxRecDepth 20000 in
theorem ggX7_debtor_X7_noLorry : GoodIn wsX7_debtor wsX7_noLorry := goodIn_r _ [8, 9, 10, 11, 12, 7, 13, 18, 19, 20, 21, 22, 23, 24, 25, 26, 27, 28, 29, 30, 31, 32, 33, 34, 35, 36, 37, 38, 39, 40, 41, 42, 43, 44, 45, 46, 47, 48, 49, 50, 51] (by decide +kernel) (by decide +kernel)
set_option maxRecDepth 20000 in
theorem gX7_debtor_X7_noLorry : GoodIn wsX7_debtor (wsV RX7 108 RX7 yX7_noLorry wsX7_noLorry) := goodIn_app (goodIn_of _ (by decide +kernel)) ggX7_debtor_X7_noLorry
set_option maxRecDepth 20000 in
theorem ggX7_debtor_X7_fail : GoodIn wsX7_debtor wsX7_fail := goodIn_r _ [17, 10, 18, 19, 20, 21, 22, 23, 24, 25, 26, 27, 28, 29, 30, 31, 32, 33, 34, 35, 36, 37, 38, 39, 40, 41, 42, 43, 44, 45, 46, 47, 48, 49, 50, 51] (by decide +kernel) (by decide +kernel)
set_option maxRecDepth 20000 in
theorem gX7_debtor_X7_fail : GoodIn wsX7_debtor (wsV RX7 104 RX7 yX7_fail wsX7_fail) := goodIn_app (goodIn_of _ (by decide +kernel)) ggX7_debtor_X7_fail
theorem dX7_debtor_0 : decode cX7_debtor 0 = .ok (.aload_n 0, 1) := by decide +kernel
theorem dX7_debtor_1 : decode cX7_debtor 1 = .ok (.iload_n 1, 1) := by decide +kernel
theorem dX7_debtor_2 : decode cX7_debtor 2 = .ok (.invokevirtual 108, 3) := by decide +kernel
theorem dX7_debtor_5 : decode cX7_debtor 5 = .ok (.ifCond .eq 5, 3) := by decide +kernel
theorem dX7_debtor_8 : decode cX7_debtor 8 = .ok (.iconst 0, 1) := by decide +kernel
theorem dX7_debtor_9 : decode cX7_debtor 9 = .ok (.ireturn, 1) := by decide +kernel
theorem dX7_debtor_10 : decode cX7_debtor 10 = .ok (.aload_n 0, 1) := by decide +kernel
theorem dX7_debtor_11 : decode cX7_debtor 11 = .ok (.getfield 121, 3) := by decide +kernel
theorem dX7_debtor_14 : decode cX7_debtor 14 = .ok (.ifCond .eq 18, 3) := by decide +kernel
theorem dX7_debtor_17 : decode cX7_debtor 17 = .ok (.aload_n 0, 1) := by decide +kernel
theorem dX7_debtor_18 : decode cX7_debtor 18 = .ok (.getfield 41, 3) := by decide +kernel
theorem dX7_debtor_21 : decode cX7_debtor 21 = .ok (.iload_n 1, 1) := by decide +kernel
theorem dX7_debtor_22 : decode cX7_debtor 22 = .ok (.iaload, 1) := by decide +kernel
theorem dX7_debtor_23 : decode cX7_debtor 23 = .ok (.aload_n 0, 1) := by decide +kernel
theorem dX7_debtor_24 : decode cX7_debtor 24 = .ok (.getfield 121, 3) := by decide +kernel
theorem dX7_debtor_27 : decode cX7_debtor 27 = .ok (.iconst 1, 1) := by decide +kernel
theorem dX7_debtor_28 : decode cX7_debtor 28 = .ok (.isub, 1) := by decide +kernel
theorem dX7_debtor_29 : decode cX7_debtor 29 = .ok (.if_icmp .eq 9, 3) := by decide +kernel
theorem dX7_debtor_32 : decode cX7_debtor 32 = .ok (.aload_n 0, 1) := by decide +kernel
theorem dX7_debtor_33 : decode cX7_debtor 33 = .ok (.iconst 2, 1) := by decide +kernel
theorem dX7_debtor_34 : decode cX7_debtor 34 = .ok (.invokevirtual 104, 3) := by decide +kernel
theorem dX7_debtor_37 : decode cX7_debtor 37 = .ok (.ireturn, 1) := by decide +kernel
theorem dX7_debtor_38 : decode cX7_debtor 38 = .ok (.aload_n 0, 1) := by decide +kernel
theorem dX7_debtor_39 : decode cX7_debtor 39 = .ok (.getfield 38, 3) := by decide +kernel
theorem dX7_debtor_42 : decode cX7_debtor 42 = .ok (.iload_n 1, 1) := by decide +kernel
theorem dX7_debtor_43 : decode cX7_debtor 43 = .ok (.iaload, 1) := by decide +kernel
theorem dX7_debtor_44 : decode cX7_debtor 44 = .ok (.ireturn, 1) := by decide +kernel
set_option maxRecDepth 20000 in
theorem ggX7_invoice_X7_isIn : GoodIn wsX7_invoice wsX7_isIn := goodIn_r _ [7] (by decide +kernel) (by decide +kernel)
set_option maxRecDepth 20000 in
theorem gX7_invoice_X7_isIn : GoodIn wsX7_invoice (va_wsS RX7 100 yX7_isIn wsX7_isIn) := goodIn_app (goodIn_of _ (by decide +kernel)) ggX7_invoice_X7_isIn
set_option maxRecDepth 20000 in
theorem ggX7_invoice_X7_fail : GoodIn wsX7_invoice wsX7_fail := goodIn_r _ [11, 2, 12, 13, 14, 15, 16, 17, 18, 19, 20, 21, 22, 23, 24, 25, 26, 27, 28, 29, 30, 31, 32, 33, 34, 35, 36, 37, 38, 39, 40, 41, 42, 43, 44, 45] (by decide +kernel) (by decide +kernel)
set_option maxRecDepth 20000 in
theorem gX7_invoice_X7_fail : GoodIn wsX7_invoice (wsV RX7 104 RX7 yX7_fail wsX7_fail) := goodIn_app (goodIn_of _ (by decide +kernel)) ggX7_invoice_X7_fail
theorem dX7_invoice_0 : decode cX7_invoice 0 = .ok (.iload_n 1, 1) := by decide +kernel
theorem dX7_invoice_1 : decode cX7_invoice 1 = .ok (.iconst (-1), 1) := by decide +kernel
theorem dX7_invoice_2 : decode cX7_invoice 2 = .ok (.aload_n 0, 1) := by decide +kernel
theorem dX7_invoice_3 : decode cX7_invoice 3 = .ok (.getfield 97, 3) := by decide +kernel
theorem dX7_invoice_6 : decode cX7_invoice 6 = .ok (.iconst 1, 1) := by decide +kernel
theorem dX7_invoice_7 : decode cX7_invoice 7 = .ok (.isub, 1) := by decide +kernel
theorem dX7_invoice_8 : decode cX7_invoice 8 = .ok (.invokestatic 100, 3) := by decide +kernel
theorem dX7_invoice_11 : decode cX7_invoice 11 = .ok (.ifCond .eq 17, 3) := by decide +kernel
theorem dX7_invoice_14 : decode cX7_invoice 14 = .ok (.iload_n 2, 1) := by decide +kernel
theorem dX7_invoice_15 : decode cX7_invoice 15 = .ok (.iconst 0, 1) := by decide +kernel
theorem dX7_invoice_16 : decode cX7_invoice 16 = .ok (.aload_n 0, 1) := by decide +kernel
theorem dX7_invoice_17 : decode cX7_invoice 17 = .ok (.getfield 97, 3) := by decide +kernel
theorem dX7_invoice_20 : decode cX7_invoice 20 = .ok (.iconst 1, 1) := by decide +kernel
theorem dX7_invoice_21 : decode cX7_invoice 21 = .ok (.isub, 1) := by decide +kernel
theorem dX7_invoice_22 : decode cX7_invoice 22 = .ok (.invokestatic 100, 3) := by decide +kernel
theorem dX7_invoice_25 : decode cX7_invoice 25 = .ok (.ifCond .ne 9, 3) := by decide +kernel
theorem dX7_invoice_28 : decode cX7_invoice 28 = .ok (.aload_n 0, 1) := by decide +kernel
theorem dX7_invoice_29 : decode cX7_invoice 29 = .ok (.iconst 1, 1) := by decide +kernel
theorem dX7_invoice_30 : decode cX7_invoice 30 = .ok (.invokevirtual 104, 3) := by decide +kernel
theorem dX7_invoice_33 : decode cX7_invoice 33 = .ok (.ireturn, 1) := by decide +kernel
theorem dX7_invoice_34 : decode cX7_invoice 34 = .ok (.aload_n 0, 1) := by decide +kernel
theorem dX7_invoice_35 : decode cX7_invoice 35 = .ok (.iconst 0, 1) := by decide +kernel
theorem dX7_invoice_36 : decode cX7_invoice 36 = .ok (.putfield 93, 3) := by decide +kernel
theorem dX7_invoice_39 : decode cX7_invoice 39 = .ok (.aload_n 0, 1) := by decide +kernel
theorem dX7_invoice_40 : decode cX7_invoice 40 = .ok (.getfield 84, 3) := by decide +kernel
theorem dX7_invoice_43 : decode cX7_invoice 43 = .ok (.bipush 8, 2) := by decide +kernel
theorem dX7_invoice_45 : decode cX7_invoice 45 = .ok (.iload_n 1, 1) := by decide +kernel
theorem dX7_invoice_46 : decode cX7_invoice 46 = .ok (.iconst 1, 1) := by decide +kernel
theorem dX7_invoice_47 : decode cX7_invoice 47 = .ok (.iadd, 1) := by decide +kernel
theorem dX7_invoice_48 : decode cX7_invoice 48 = .ok (.imul, 1) := by decide +kernel
theorem dX7_invoice_49 : decode cX7_invoice 49 = .ok (.iload_n 2, 1) := by decide +kernel
theorem dX7_invoice_50 : decode cX7_invoice 50 = .ok (.iadd, 1) := by decide +kernel
theorem dX7_invoice_51 : decode cX7_invoice 51 = .ok (.iaload, 1) := by decide +kernel
theorem dX7_invoice_52 : decode cX7_invoice 52 = .ok (.ireturn, 1) := by decide +kernel
set_option maxRecDepth 20000 in
theorem ggX7_invoiceAnew_X7_invoice : GoodIn wsX7_invoiceAnew wsX7_invoice := goodIn_ca (goodIn_r _ [5, 6, 7, 8, 9, 10, 4, 11, 12, 13, 14, 15, 16, 17, 18, 19, 20, 21, 22, 23, 24, 25, 26, 27, 28, 29, 30, 31, 32, 33, 34, 35, 36, 37, 38, 39, 40, 41, 42, 43, 44, 45, 46, 47, 48, 49] (by decide +kernel) (by decide +kernel)) (goodIn_sub (fun _ h => List.mem_cons_of_mem _ (List.mem_append_right _ h)) (by decide +kernel))
set_option maxRecDepth 20000 in
theorem gX7_invoiceAnew_X7_invoice : GoodIn wsX7_invoiceAnew (wsV RX7 170 RX7 yX7_invoice wsX7_invoice) := goodIn_app (goodIn_of _ (by decide +kernel)) ggX7_invoiceAnew_X7_invoice
theorem dX7_invoiceAnew_0 : decode cX7_invoiceAnew 0 = .ok (.aload_n 0, 1) := by decide +kernel
theorem dX7_invoiceAnew_1 : decode cX7_invoiceAnew 1 = .ok (.iload_n 1, 1) := by decide +kernel
theorem dX7_invoiceAnew_2 : decode cX7_invoiceAnew 2 = .ok (.iload_n 2, 1) := by decide +kernel
theorem dX7_invoiceAnew_3 : decode cX7_invoiceAnew 3 = .ok (.invokevirtual 170, 3) := by decide +kernel
theorem dX7_invoiceAnew_6 : decode cX7_invoiceAnew 6 = .ok (.ireturn, 1) := by decide +kernel
set_option maxRecDepth 20000 in
theorem ggX7_balance_X7_isIn : GoodIn wsX7_balance wsX7_isIn := goodIn_r _ [7] (by decide +kernel) (by decide +kernel)
set_option maxRecDepth 20000 in
theorem gX7_balance_X7_isIn : GoodIn wsX7_balance (va_wsS RX7 100 yX7_isIn wsX7_isIn) := goodIn_app (goodIn_of _ (by decide +kernel)) ggX7_balance_X7_isIn
theorem dX7_balance_0 : decode cX7_balance 0 = .ok (.aload_n 0, 1) := by decide +kernel
theorem dX7_balance_1 : decode cX7_balance 1 = .ok (.iload_n 1, 1) := by decide +kernel
theorem dX7_balance_2 : decode cX7_balance 2 = .ok (.iconst (-1), 1) := by decide +kernel
theorem dX7_balance_3 : decode cX7_balance 3 = .ok (.aload_n 0, 1) := by decide +kernel
theorem dX7_balance_4 : decode cX7_balance 4 = .ok (.getfield 97, 3) := by decide +kernel
theorem dX7_balance_7 : decode cX7_balance 7 = .ok (.iconst 1, 1) := by decide +kernel
theorem dX7_balance_8 : decode cX7_balance 8 = .ok (.isub, 1) := by decide +kernel
theorem dX7_balance_9 : decode cX7_balance 9 = .ok (.invokestatic 100, 3) := by decide +kernel
theorem dX7_balance_12 : decode cX7_balance 12 = .ok (.ifCond .eq 7, 3) := by decide +kernel
theorem dX7_balance_15 : decode cX7_balance 15 = .ok (.iconst 0, 1) := by decide +kernel
theorem dX7_balance_16 : decode cX7_balance 16 = .ok (.goto 4, 3) := by decide +kernel
theorem dX7_balance_19 : decode cX7_balance 19 = .ok (.iconst 1, 1) := by decide +kernel
theorem dX7_balance_20 : decode cX7_balance 20 = .ok (.putfield 93, 3) := by decide +kernel
theorem dX7_balance_23 : decode cX7_balance 23 = .ok (.aload_n 0, 1) := by decide +kernel
theorem dX7_balance_24 : decode cX7_balance 24 = .ok (.getfield 93, 3) := by decide +kernel
theorem dX7_balance_27 : decode cX7_balance 27 = .ok (.ifCond .eq 5, 3) := by decide +kernel
theorem dX7_balance_30 : decode cX7_balance 30 = .ok (.lconst 0, 1) := by decide +kernel
theorem dX7_balance_31 : decode cX7_balance 31 = .ok (.lreturn, 1) := by decide +kernel
theorem dX7_balance_32 : decode cX7_balance 32 = .ok (.lconst 0, 1) := by decide +kernel
theorem dX7_balance_33 : decode cX7_balance 33 = .ok (.lstore_n 2, 1) := by decide +kernel
theorem dX7_balance_34 : decode cX7_balance 34 = .ok (.iconst (-1), 1) := by decide +kernel
theorem dX7_balance_35 : decode cX7_balance 35 = .ok (.istore 4, 2) := by decide +kernel
theorem dX7_balance_37 : decode cX7_balance 37 = .ok (.iload 4, 2) := by decide +kernel
theorem dX7_balance_39 : decode cX7_balance 39 = .ok (.aload_n 0, 1) := by decide +kernel
theorem dX7_balance_40 : decode cX7_balance 40 = .ok (.getfield 97, 3) := by decide +kernel
theorem dX7_balance_43 : decode cX7_balance 43 = .ok (.if_icmp .ge 56, 3) := by decide +kernel
theorem dX7_balance_46 : decode cX7_balance 46 = .ok (.iload_n 1, 1) := by decide +kernel
theorem dX7_balance_47 : decode cX7_balance 47 = .ok (.iconst (-1), 1) := by decide +kernel
theorem dX7_balance_48 : decode cX7_balance 48 = .ok (.if_icmp .eq 21, 3) := by decide +kernel
theorem dX7_balance_51 : decode cX7_balance 51 = .ok (.lload_n 2, 1) := by decide +kernel
theorem dX7_balance_52 : decode cX7_balance 52 = .ok (.aload_n 0, 1) := by decide +kernel
theorem dX7_balance_53 : decode cX7_balance 53 = .ok (.getfield 84, 3) := by decide +kernel
theorem dX7_balance_56 : decode cX7_balance 56 = .ok (.bipush 8, 2) := by decide +kernel
theorem dX7_balance_58 : decode cX7_balance 58 = .ok (.iload 4, 2) := by decide +kernel
theorem dX7_balance_60 : decode cX7_balance 60 = .ok (.iconst 1, 1) := by decide +kernel
theorem dX7_balance_61 : decode cX7_balance 61 = .ok (.iadd, 1) := by decide +kernel
theorem dX7_balance_62 : decode cX7_balance 62 = .ok (.imul, 1) := by decide +kernel
theorem dX7_balance_63 : decode cX7_balance 63 = .ok (.iload_n 1, 1) := by decide +kernel
theorem dX7_balance_64 : decode cX7_balance 64 = .ok (.iadd, 1) := by decide +kernel
theorem dX7_balance_65 : decode cX7_balance 65 = .ok (.iaload, 1) := by decide +kernel
theorem dX7_balance_66 : decode cX7_balance 66 = .ok (.i2l, 1) := by decide +kernel
theorem dX7_balance_67 : decode cX7_balance 67 = .ok (.ladd, 1) := by decide +kernel
theorem dX7_balance_68 : decode cX7_balance 68 = .ok (.lstore_n 2, 1) := by decide +kernel
theorem dX7_balance_69 : decode cX7_balance 69 = .ok (.iload 4, 2) := by decide +kernel
theorem dX7_balance_71 : decode cX7_balance 71 = .ok (.iconst (-1), 1) := by decide +kernel
theorem dX7_balance_72 : decode cX7_balance 72 = .ok (.if_icmp .eq 21, 3) := by decide +kernel
theorem dX7_balance_75 : decode cX7_balance 75 = .ok (.lload_n 2, 1) := by decide +kernel
theorem dX7_balance_76 : decode cX7_balance 76 = .ok (.aload_n 0, 1) := by decide +kernel
theorem dX7_balance_77 : decode cX7_balance 77 = .ok (.getfield 84, 3) := by decide +kernel
theorem dX7_balance_80 : decode cX7_balance 80 = .ok (.bipush 8, 2) := by decide +kernel
theorem dX7_balance_82 : decode cX7_balance 82 = .ok (.iload_n 1, 1) := by decide +kernel
theorem dX7_balance_83 : decode cX7_balance 83 = .ok (.iconst 1, 1) := by decide +kernel
theorem dX7_balance_84 : decode cX7_balance 84 = .ok (.iadd, 1) := by decide +kernel
theorem dX7_balance_85 : decode cX7_balance 85 = .ok (.imul, 1) := by decide +kernel
theorem dX7_balance_86 : decode cX7_balance 86 = .ok (.iload 4, 2) := by decide +kernel
theorem dX7_balance_88 : decode cX7_balance 88 = .ok (.iadd, 1) := by decide +kernel
theorem dX7_balance_89 : decode cX7_balance 89 = .ok (.iaload, 1) := by decide +kernel
theorem dX7_balance_90 : decode cX7_balance 90 = .ok (.i2l, 1) := by decide +kernel
theorem dX7_balance_91 : decode cX7_balance 91 = .ok (.lsub, 1) := by decide +kernel
theorem dX7_balance_92 : decode cX7_balance 92 = .ok (.lstore_n 2, 1) := by decide +kernel
theorem dX7_balance_93 : decode cX7_balance 93 = .ok (.iinc 4 1, 3) := by decide +kernel
theorem dX7_balance_96 : decode cX7_balance 96 = .ok (.goto (-59), 3) := by decide +kernel
theorem dX7_balance_99 : decode cX7_balance 99 = .ok (.lload_n 2, 1) := by decide +kernel
theorem dX7_balance_100 : decode cX7_balance 100 = .ok (.lreturn, 1) := by decide +kernel
theorem dX7_meanWait_0 : decode cX7_meanWait 0 = .ok (.aload_n 0, 1) := by decide +kernel
theorem dX7_meanWait_1 : decode cX7_meanWait 1 = .ok (.aload_n 0, 1) := by decide +kernel
theorem dX7_meanWait_2 : decode cX7_meanWait 2 = .ok (.getfield 97, 3) := by decide +kernel
theorem dX7_meanWait_5 : decode cX7_meanWait 5 = .ok (.ifCond .ne 7, 3) := by decide +kernel
theorem dX7_meanWait_8 : decode cX7_meanWait 8 = .ok (.iconst 1, 1) := by decide +kernel
theorem dX7_meanWait_9 : decode cX7_meanWait 9 = .ok (.goto 4, 3) := by decide +kernel
theorem dX7_meanWait_12 : decode cX7_meanWait 12 = .ok (.iconst 0, 1) := by decide +kernel
theorem dX7_meanWait_13 : decode cX7_meanWait 13 = .ok (.putfield 93, 3) := by decide +kernel
theorem dX7_meanWait_16 : decode cX7_meanWait 16 = .ok (.aload_n 0, 1) := by decide +kernel
theorem dX7_meanWait_17 : decode cX7_meanWait 17 = .ok (.getfield 97, 3) := by decide +kernel
theorem dX7_meanWait_20 : decode cX7_meanWait 20 = .ok (.ifCond .ne 5, 3) := by decide +kernel
theorem dX7_meanWait_23 : decode cX7_meanWait 23 = .ok (.dconst 0, 1) := by decide +kernel
theorem dX7_meanWait_24 : decode cX7_meanWait 24 = .ok (.dreturn, 1) := by decide +kernel
theorem dX7_meanWait_25 : decode cX7_meanWait 25 = .ok (.iconst 0, 1) := by decide +kernel
theorem dX7_meanWait_26 : decode cX7_meanWait 26 = .ok (.istore_n 1, 1) := by decide +kernel
theorem dX7_meanWait_27 : decode cX7_meanWait 27 = .ok (.iconst 0, 1) := by decide +kernel
theorem dX7_meanWait_28 : decode cX7_meanWait 28 = .ok (.istore_n 2, 1) := by decide +kernel
theorem dX7_meanWait_29 : decode cX7_meanWait 29 = .ok (.iload_n 2, 1) := by decide +kernel
theorem dX7_meanWait_30 : decode cX7_meanWait 30 = .ok (.aload_n 0, 1) := by decide +kernel
theorem dX7_meanWait_31 : decode cX7_meanWait 31 = .ok (.getfield 97, 3) := by decide +kernel
theorem dX7_meanWait_34 : decode cX7_meanWait 34 = .ok (.if_icmp .ge 18, 3) := by decide +kernel
theorem dX7_meanWait_37 : decode cX7_meanWait 37 = .ok (.iload_n 1, 1) := by decide +kernel
theorem dX7_meanWait_38 : decode cX7_meanWait 38 = .ok (.aload_n 0, 1) := by decide +kernel
theorem dX7_meanWait_39 : decode cX7_meanWait 39 = .ok (.getfield 29, 3) := by decide +kernel
theorem dX7_meanWait_42 : decode cX7_meanWait 42 = .ok (.iload_n 2, 1) := by decide +kernel
theorem dX7_meanWait_43 : decode cX7_meanWait 43 = .ok (.iaload, 1) := by decide +kernel
theorem dX7_meanWait_44 : decode cX7_meanWait 44 = .ok (.iadd, 1) := by decide +kernel
theorem dX7_meanWait_45 : decode cX7_meanWait 45 = .ok (.istore_n 1, 1) := by decide +kernel
theorem dX7_meanWait_46 : decode cX7_meanWait 46 = .ok (.iinc 2 1, 3) := by decide +kernel
theorem dX7_meanWait_49 : decode cX7_meanWait 49 = .ok (.goto (-20), 3) := by decide +kernel
theorem dX7_meanWait_52 : decode cX7_meanWait 52 = .ok (.iload_n 1, 1) := by decide +kernel
theorem dX7_meanWait_53 : decode cX7_meanWait 53 = .ok (.i2d, 1) := by decide +kernel
theorem dX7_meanWait_54 : decode cX7_meanWait 54 = .ok (.aload_n 0, 1) := by decide +kernel
theorem dX7_meanWait_55 : decode cX7_meanWait 55 = .ok (.getfield 97, 3) := by decide +kernel
theorem dX7_meanWait_58 : decode cX7_meanWait 58 = .ok (.i2d, 1) := by decide +kernel
theorem dX7_meanWait_59 : decode cX7_meanWait 59 = .ok (.ddiv, 1) := by decide +kernel
theorem dX7_meanWait_60 : decode cX7_meanWait 60 = .ok (.dreturn, 1) := by decide +kernel
theorem dX7_dockShare_0 : decode cX7_dockShare 0 = .ok (.iconst 0, 1) := by decide +kernel
theorem dX7_dockShare_1 : decode cX7_dockShare 1 = .ok (.istore_n 1, 1) := by decide +kernel
theorem dX7_dockShare_2 : decode cX7_dockShare 2 = .ok (.iconst 0, 1) := by decide +kernel
theorem dX7_dockShare_3 : decode cX7_dockShare 3 = .ok (.istore_n 2, 1) := by decide +kernel
theorem dX7_dockShare_4 : decode cX7_dockShare 4 = .ok (.iload_n 2, 1) := by decide +kernel
theorem dX7_dockShare_5 : decode cX7_dockShare 5 = .ok (.aload_n 0, 1) := by decide +kernel
theorem dX7_dockShare_6 : decode cX7_dockShare 6 = .ok (.getfield 97, 3) := by decide +kernel
theorem dX7_dockShare_9 : decode cX7_dockShare 9 = .ok (.if_icmp .ge 18, 3) := by decide +kernel
theorem dX7_dockShare_12 : decode cX7_dockShare 12 = .ok (.iload_n 1, 1) := by decide +kernel
theorem dX7_dockShare_13 : decode cX7_dockShare 13 = .ok (.aload_n 0, 1) := by decide +kernel
theorem dX7_dockShare_14 : decode cX7_dockShare 14 = .ok (.getfield 29, 3) := by decide +kernel
theorem dX7_dockShare_17 : decode cX7_dockShare 17 = .ok (.iload_n 2, 1) := by decide +kernel
theorem dX7_dockShare_18 : decode cX7_dockShare 18 = .ok (.iaload, 1) := by decide +kernel
theorem dX7_dockShare_19 : decode cX7_dockShare 19 = .ok (.iadd, 1) := by decide +kernel
theorem dX7_dockShare_20 : decode cX7_dockShare 20 = .ok (.istore_n 1, 1) := by decide +kernel
theorem dX7_dockShare_21 : decode cX7_dockShare 21 = .ok (.iinc 2 1, 3) := by decide +kernel
theorem dX7_dockShare_24 : decode cX7_dockShare 24 = .ok (.goto (-20), 3) := by decide +kernel
theorem dX7_dockShare_27 : decode cX7_dockShare 27 = .ok (.aload_n 0, 1) := by decide +kernel
theorem dX7_dockShare_28 : decode cX7_dockShare 28 = .ok (.iload_n 1, 1) := by decide +kernel
theorem dX7_dockShare_29 : decode cX7_dockShare 29 = .ok (.ifCond .ne 7, 3) := by decide +kernel
theorem dX7_dockShare_32 : decode cX7_dockShare 32 = .ok (.iconst 1, 1) := by decide +kernel
theorem dX7_dockShare_33 : decode cX7_dockShare 33 = .ok (.goto 4, 3) := by decide +kernel
theorem dX7_dockShare_36 : decode cX7_dockShare 36 = .ok (.iconst 0, 1) := by decide +kernel
theorem dX7_dockShare_37 : decode cX7_dockShare 37 = .ok (.putfield 93, 3) := by decide +kernel
theorem dX7_dockShare_40 : decode cX7_dockShare 40 = .ok (.iload_n 1, 1) := by decide +kernel
theorem dX7_dockShare_41 : decode cX7_dockShare 41 = .ok (.ifCond .ne 7, 3) := by decide +kernel
theorem dX7_dockShare_44 : decode cX7_dockShare 44 = .ok (.fconst 0, 1) := by decide +kernel
theorem dX7_dockShare_45 : decode cX7_dockShare 45 = .ok (.goto 11, 3) := by decide +kernel
theorem dX7_dockShare_48 : decode cX7_dockShare 48 = .ok (.aload_n 0, 1) := by decide +kernel
theorem dX7_dockShare_49 : decode cX7_dockShare 49 = .ok (.getfield 148, 3) := by decide +kernel
theorem dX7_dockShare_52 : decode cX7_dockShare 52 = .ok (.i2f, 1) := by decide +kernel
theorem dX7_dockShare_53 : decode cX7_dockShare 53 = .ok (.iload_n 1, 1) := by decide +kernel
theorem dX7_dockShare_54 : decode cX7_dockShare 54 = .ok (.i2f, 1) := by decide +kernel
theorem dX7_dockShare_55 : decode cX7_dockShare 55 = .ok (.fdiv, 1) := by decide +kernel
theorem dX7_dockShare_56 : decode cX7_dockShare 56 = .ok (.freturn, 1) := by decide +kernel
theorem dX7_waysOf_0 : decode cX7_waysOf 0 = .ok (.iconst 0, 1) := by decide +kernel
theorem dX7_waysOf_1 : decode cX7_waysOf 1 = .ok (.istore_n 2, 1) := by decide +kernel
theorem dX7_waysOf_2 : decode cX7_waysOf 2 = .ok (.iconst 0, 1) := by decide +kernel
theorem dX7_waysOf_3 : decode cX7_waysOf 3 = .ok (.istore_n 3, 1) := by decide +kernel
theorem dX7_waysOf_4 : decode cX7_waysOf 4 = .ok (.iload_n 3, 1) := by decide +kernel
theorem dX7_waysOf_5 : decode cX7_waysOf 5 = .ok (.aload_n 0, 1) := by decide +kernel
theorem dX7_waysOf_6 : decode cX7_waysOf 6 = .ok (.getfield 115, 3) := by decide +kernel
theorem dX7_waysOf_9 : decode cX7_waysOf 9 = .ok (.if_icmp .ge 79, 3) := by decide +kernel
theorem dX7_waysOf_12 : decode cX7_waysOf 12 = .ok (.aload_n 1, 1) := by decide +kernel
theorem dX7_waysOf_13 : decode cX7_waysOf 13 = .ok (.aload_n 0, 1) := by decide +kernel
theorem dX7_waysOf_14 : decode cX7_waysOf 14 = .ok (.getfield 48, 3) := by decide +kernel
theorem dX7_waysOf_17 : decode cX7_waysOf 17 = .ok (.iload_n 3, 1) := by decide +kernel
theorem dX7_waysOf_18 : decode cX7_waysOf 18 = .ok (.iaload, 1) := by decide +kernel
theorem dX7_waysOf_19 : decode cX7_waysOf 19 = .ok (.iaload, 1) := by decide +kernel
theorem dX7_waysOf_20 : decode cX7_waysOf 20 = .ok (.iconst (-1), 1) := by decide +kernel
theorem dX7_waysOf_21 : decode cX7_waysOf 21 = .ok (.if_icmp .eq 15, 3) := by decide +kernel
theorem dX7_waysOf_24 : decode cX7_waysOf 24 = .ok (.aload_n 1, 1) := by decide +kernel
theorem dX7_waysOf_25 : decode cX7_waysOf 25 = .ok (.aload_n 0, 1) := by decide +kernel
theorem dX7_waysOf_26 : decode cX7_waysOf 26 = .ok (.getfield 51, 3) := by decide +kernel
theorem dX7_waysOf_29 : decode cX7_waysOf 29 = .ok (.iload_n 3, 1) := by decide +kernel
theorem dX7_waysOf_30 : decode cX7_waysOf 30 = .ok (.iaload, 1) := by decide +kernel
theorem dX7_waysOf_31 : decode cX7_waysOf 31 = .ok (.iaload, 1) := by decide +kernel
theorem dX7_waysOf_32 : decode cX7_waysOf 32 = .ok (.iconst (-1), 1) := by decide +kernel
theorem dX7_waysOf_33 : decode cX7_waysOf 33 = .ok (.if_icmp .ne 7, 3) := by decide +kernel
theorem dX7_waysOf_36 : decode cX7_waysOf 36 = .ok (.iconst 0, 1) := by decide +kernel
theorem dX7_waysOf_37 : decode cX7_waysOf 37 = .ok (.goto 20, 3) := by decide +kernel
theorem dX7_waysOf_40 : decode cX7_waysOf 40 = .ok (.aload_n 1, 1) := by decide +kernel
theorem dX7_waysOf_41 : decode cX7_waysOf 41 = .ok (.aload_n 0, 1) := by decide +kernel
theorem dX7_waysOf_42 : decode cX7_waysOf 42 = .ok (.getfield 48, 3) := by decide +kernel
theorem dX7_waysOf_45 : decode cX7_waysOf 45 = .ok (.iload_n 3, 1) := by decide +kernel
theorem dX7_waysOf_46 : decode cX7_waysOf 46 = .ok (.iaload, 1) := by decide +kernel
theorem dX7_waysOf_47 : decode cX7_waysOf 47 = .ok (.iaload, 1) := by decide +kernel
theorem dX7_waysOf_48 : decode cX7_waysOf 48 = .ok (.aload_n 1, 1) := by decide +kernel
theorem dX7_waysOf_49 : decode cX7_waysOf 49 = .ok (.aload_n 0, 1) := by decide +kernel
theorem dX7_waysOf_50 : decode cX7_waysOf 50 = .ok (.getfield 51, 3) := by decide +kernel
theorem dX7_waysOf_53 : decode cX7_waysOf 53 = .ok (.iload_n 3, 1) := by decide +kernel
theorem dX7_waysOf_54 : decode cX7_waysOf 54 = .ok (.iaload, 1) := by decide +kernel
theorem dX7_waysOf_55 : decode cX7_waysOf 55 = .ok (.iaload, 1) := by decide +kernel
theorem dX7_waysOf_56 : decode cX7_waysOf 56 = .ok (.isub, 1) := by decide +kernel
theorem dX7_waysOf_57 : decode cX7_waysOf 57 = .ok (.istore 4, 2) := by decide +kernel
theorem dX7_waysOf_59 : decode cX7_waysOf 59 = .ok (.iload_n 2, 1) := by decide +kernel
theorem dX7_waysOf_60 : decode cX7_waysOf 60 = .ok (.aload_n 0, 1) := by decide +kernel
theorem dX7_waysOf_61 : decode cX7_waysOf 61 = .ok (.getfield 54, 3) := by decide +kernel
theorem dX7_waysOf_64 : decode cX7_waysOf 64 = .ok (.iload_n 3, 1) := by decide +kernel
theorem dX7_waysOf_65 : decode cX7_waysOf 65 = .ok (.iaload, 1) := by decide +kernel
theorem dX7_waysOf_66 : decode cX7_waysOf 66 = .ok (.iload 4, 2) := by decide +kernel
theorem dX7_waysOf_68 : decode cX7_waysOf 68 = .ok (.ifCond .ge 9, 3) := by decide +kernel
theorem dX7_waysOf_71 : decode cX7_waysOf 71 = .ok (.iload 4, 2) := by decide +kernel
theorem dX7_waysOf_73 : decode cX7_waysOf 73 = .ok (.ineg, 1) := by decide +kernel
theorem dX7_waysOf_74 : decode cX7_waysOf 74 = .ok (.goto 5, 3) := by decide +kernel
theorem dX7_waysOf_77 : decode cX7_waysOf 77 = .ok (.iload 4, 2) := by decide +kernel
theorem dX7_waysOf_79 : decode cX7_waysOf 79 = .ok (.imul, 1) := by decide +kernel
theorem dX7_waysOf_80 : decode cX7_waysOf 80 = .ok (.iadd, 1) := by decide +kernel
theorem dX7_waysOf_81 : decode cX7_waysOf 81 = .ok (.istore_n 2, 1) := by decide +kernel
theorem dX7_waysOf_82 : decode cX7_waysOf 82 = .ok (.iinc 3 1, 3) := by decide +kernel
theorem dX7_waysOf_85 : decode cX7_waysOf 85 = .ok (.goto (-81), 3) := by decide +kernel
theorem dX7_waysOf_88 : decode cX7_waysOf 88 = .ok (.iload_n 2, 1) := by decide +kernel
theorem dX7_waysOf_89 : decode cX7_waysOf 89 = .ok (.ireturn, 1) := by decide +kernel
set_option maxRecDepth 20000 in
theorem ggX7_ways_X7_waysOf : GoodIn wsX7_ways wsX7_waysOf := goodIn_ca (goodIn_r _ [6, 7, 8, 9, 10, 11, 12, 13, 14, 15, 16, 17, 18, 19, 20, 21, 22, 23, 24, 25, 26, 27, 28, 29, 30, 31, 32, 33, 34, 35, 36, 37, 38, 39, 40, 41, 42, 43, 44] (by decide +kernel) (by decide +kernel)) (goodIn_sub (fun _ h => List.mem_cons_of_mem _ (List.mem_append_right _ h)) (by decide +kernel))
set_option maxRecDepth 20000 in
theorem gX7_ways_X7_waysOf : GoodIn wsX7_ways (wsV RX7 173 RX7 yX7_waysOf wsX7_waysOf) := goodIn_app (goodIn_of _ (by decide +kernel)) ggX7_ways_X7_waysOf
theorem dX7_ways_0 : decode cX7_ways 0 = .ok (.aload_n 0, 1) := by decide +kernel
theorem dX7_ways_1 : decode cX7_ways 1 = .ok (.aload_n 0, 1) := by decide +kernel
theorem dX7_ways_2 : decode cX7_ways 2 = .ok (.getfield 23, 3) := by decide +kernel
theorem dX7_ways_5 : decode cX7_ways 5 = .ok (.invokevirtual 173, 3) := by decide +kernel
theorem dX7_ways_8 : decode cX7_ways 8 = .ok (.ireturn, 1) := by decide +kernel
theorem dX7_isNext_0 : decode cX7_isNext 0 = .ok (.aload_n 0, 1) := by decide +kernel
theorem dX7_isNext_1 : decode cX7_isNext 1 = .ok (.getfield 97, 3) := by decide +kernel
theorem dX7_isNext_4 : decode cX7_isNext 4 = .ok (.iconst 1, 1) := by decide +kernel
theorem dX7_isNext_5 : decode cX7_isNext 5 = .ok (.isub, 1) := by decide +kernel
theorem dX7_isNext_6 : decode cX7_isNext 6 = .ok (.istore_n 1, 1) := by decide +kernel
theorem dX7_isNext_7 : decode cX7_isNext 7 = .ok (.iload_n 1, 1) := by decide +kernel
theorem dX7_isNext_8 : decode cX7_isNext 8 = .ok (.ifCond .lt 52, 3) := by decide +kernel
theorem dX7_isNext_11 : decode cX7_isNext 11 = .ok (.aload_n 0, 1) := by decide +kernel
theorem dX7_isNext_12 : decode cX7_isNext 12 = .ok (.getfield 44, 3) := by decide +kernel
theorem dX7_isNext_15 : decode cX7_isNext 15 = .ok (.iload_n 1, 1) := by decide +kernel
theorem dX7_isNext_16 : decode cX7_isNext 16 = .ok (.caload, 1) := by decide +kernel
theorem dX7_isNext_17 : decode cX7_isNext 17 = .ok (.bipush 101, 2) := by decide +kernel
theorem dX7_isNext_19 : decode cX7_isNext 19 = .ok (.if_icmp .eq 6, 3) := by decide +kernel
theorem dX7_isNext_22 : decode cX7_isNext 22 = .ok (.goto 32, 3) := by decide +kernel
theorem dX7_isNext_25 : decode cX7_isNext 25 = .ok (.aload_n 0, 1) := by decide +kernel
theorem dX7_isNext_26 : decode cX7_isNext 26 = .ok (.getfield 87, 3) := by decide +kernel
theorem dX7_isNext_29 : decode cX7_isNext 29 = .ok (.iload_n 1, 1) := by decide +kernel
theorem dX7_isNext_30 : decode cX7_isNext 30 = .ok (.dup2, 1) := by decide +kernel
theorem dX7_isNext_31 : decode cX7_isNext 31 = .ok (.iaload, 1) := by decide +kernel
theorem dX7_isNext_32 : decode cX7_isNext 32 = .ok (.iconst 1, 1) := by decide +kernel
theorem dX7_isNext_33 : decode cX7_isNext 33 = .ok (.iadd, 1) := by decide +kernel
theorem dX7_isNext_34 : decode cX7_isNext 34 = .ok (.iastore, 1) := by decide +kernel
theorem dX7_isNext_35 : decode cX7_isNext 35 = .ok (.aload_n 0, 1) := by decide +kernel
theorem dX7_isNext_36 : decode cX7_isNext 36 = .ok (.getfield 87, 3) := by decide +kernel
theorem dX7_isNext_39 : decode cX7_isNext 39 = .ok (.iload_n 1, 1) := by decide +kernel
theorem dX7_isNext_40 : decode cX7_isNext 40 = .ok (.iaload, 1) := by decide +kernel
theorem dX7_isNext_41 : decode cX7_isNext 41 = .ok (.iconst 4, 1) := by decide +kernel
theorem dX7_isNext_42 : decode cX7_isNext 42 = .ok (.if_icmp .ge 5, 3) := by decide +kernel
theorem dX7_isNext_45 : decode cX7_isNext 45 = .ok (.iconst 1, 1) := by decide +kernel
theorem dX7_isNext_46 : decode cX7_isNext 46 = .ok (.ireturn, 1) := by decide +kernel
theorem dX7_isNext_47 : decode cX7_isNext 47 = .ok (.aload_n 0, 1) := by decide +kernel
theorem dX7_isNext_48 : decode cX7_isNext 48 = .ok (.getfield 87, 3) := by decide +kernel
theorem dX7_isNext_51 : decode cX7_isNext 51 = .ok (.iload_n 1, 1) := by decide +kernel
theorem dX7_isNext_52 : decode cX7_isNext 52 = .ok (.iconst 0, 1) := by decide +kernel
theorem dX7_isNext_53 : decode cX7_isNext 53 = .ok (.iastore, 1) := by decide +kernel
theorem dX7_isNext_54 : decode cX7_isNext 54 = .ok (.iinc 1 (-1), 3) := by decide +kernel
theorem dX7_isNext_57 : decode cX7_isNext 57 = .ok (.goto (-50), 3) := by decide +kernel
theorem dX7_isNext_60 : decode cX7_isNext 60 = .ok (.iconst 0, 1) := by decide +kernel
theorem dX7_isNext_61 : decode cX7_isNext 61 = .ok (.ireturn, 1) := by decide +kernel
set_option maxRecDepth 20000 in
theorem ggX7_leastWays_X7_waysOf : GoodIn wsX7_leastWays wsX7_waysOf := goodIn_ca (goodIn_r _ [11, 12, 13, 14, 15, 20, 21, 22, 23, 24, 25, 26, 27, 28, 29, 30, 31, 32, 33, 34, 35, 36, 37, 38, 39, 40, 41, 42, 43, 44, 45, 46, 47, 48, 49, 50, 51, 52, 53] (by decide +kernel) (by decide +kernel)) (goodIn_sub (fun _ h => List.mem_cons_of_mem _ (List.mem_append_right _ h)) (by decide +kernel))
set_option maxRecDepth 20000 in
theorem gX7_leastWays_X7_waysOf : GoodIn wsX7_leastWays (wsV RX7 173 RX7 yX7_waysOf wsX7_waysOf) := goodIn_app (goodIn_of _ (by decide +kernel)) ggX7_leastWays_X7_waysOf
set_option maxRecDepth 20000 in
theorem ggX7_leastWays_X7_isNext : GoodIn wsX7_leastWays wsX7_isNext := goodIn_ca (goodIn_r _ [19, 1, 3, 2, 20, 21, 22, 23, 24, 25, 26, 27, 28, 29, 30, 31, 32, 33, 34, 35, 36, 37, 38, 39, 40, 41, 42, 43, 44, 45, 46, 47, 48, 49, 50, 51, 52, 53] (by decide +kernel) (by decide +kernel)) (goodIn_sub (fun _ h => List.mem_cons_of_mem _ (List.mem_append_right _ h)) (by decide +kernel))
set_option maxRecDepth 20000 in
theorem gX7_leastWays_X7_isNext : GoodIn wsX7_leastWays (wsV RX7 180 RX7 yX7_isNext wsX7_isNext) := goodIn_app (goodIn_of _ (by decide +kernel)) ggX7_leastWays_X7_isNext
theorem dX7_leastWays_0 : decode cX7_leastWays 0 = .ok (.iconst 0, 1) := by decide +kernel
theorem dX7_leastWays_1 : decode cX7_leastWays 1 = .ok (.istore_n 1, 1) := by decide +kernel
theorem dX7_leastWays_2 : decode cX7_leastWays 2 = .ok (.iload_n 1, 1) := by decide +kernel
theorem dX7_leastWays_3 : decode cX7_leastWays 3 = .ok (.aload_n 0, 1) := by decide +kernel
theorem dX7_leastWays_4 : decode cX7_leastWays 4 = .ok (.getfield 97, 3) := by decide +kernel
theorem dX7_leastWays_7 : decode cX7_leastWays 7 = .ok (.if_icmp .ge 36, 3) := by decide +kernel
theorem dX7_leastWays_10 : decode cX7_leastWays 10 = .ok (.aload_n 0, 1) := by decide +kernel
theorem dX7_leastWays_11 : decode cX7_leastWays 11 = .ok (.getfield 87, 3) := by decide +kernel
theorem dX7_leastWays_14 : decode cX7_leastWays 14 = .ok (.iload_n 1, 1) := by decide +kernel
theorem dX7_leastWays_15 : decode cX7_leastWays 15 = .ok (.aload_n 0, 1) := by decide +kernel
theorem dX7_leastWays_16 : decode cX7_leastWays 16 = .ok (.getfield 44, 3) := by decide +kernel
theorem dX7_leastWays_19 : decode cX7_leastWays 19 = .ok (.iload_n 1, 1) := by decide +kernel
theorem dX7_leastWays_20 : decode cX7_leastWays 20 = .ok (.caload, 1) := by decide +kernel
theorem dX7_leastWays_21 : decode cX7_leastWays 21 = .ok (.bipush 101, 2) := by decide +kernel
theorem dX7_leastWays_23 : decode cX7_leastWays 23 = .ok (.if_icmp .ne 7, 3) := by decide +kernel
theorem dX7_leastWays_26 : decode cX7_leastWays 26 = .ok (.iconst 0, 1) := by decide +kernel
theorem dX7_leastWays_27 : decode cX7_leastWays 27 = .ok (.goto 9, 3) := by decide +kernel
theorem dX7_leastWays_30 : decode cX7_leastWays 30 = .ok (.aload_n 0, 1) := by decide +kernel
theorem dX7_leastWays_31 : decode cX7_leastWays 31 = .ok (.getfield 23, 3) := by decide +kernel
theorem dX7_leastWays_34 : decode cX7_leastWays 34 = .ok (.iload_n 1, 1) := by decide +kernel
theorem dX7_leastWays_35 : decode cX7_leastWays 35 = .ok (.iaload, 1) := by decide +kernel
theorem dX7_leastWays_36 : decode cX7_leastWays 36 = .ok (.iastore, 1) := by decide +kernel
theorem dX7_leastWays_37 : decode cX7_leastWays 37 = .ok (.iinc 1 1, 3) := by decide +kernel
theorem dX7_leastWays_40 : decode cX7_leastWays 40 = .ok (.goto (-38), 3) := by decide +kernel
theorem dX7_leastWays_43 : decode cX7_leastWays 43 = .ok (.aload_n 0, 1) := by decide +kernel
theorem dX7_leastWays_44 : decode cX7_leastWays 44 = .ok (.iconst (-1), 1) := by decide +kernel
theorem dX7_leastWays_45 : decode cX7_leastWays 45 = .ok (.putfield 177, 3) := by decide +kernel
theorem dX7_leastWays_48 : decode cX7_leastWays 48 = .ok (.iconst 1, 1) := by decide +kernel
theorem dX7_leastWays_49 : decode cX7_leastWays 49 = .ok (.istore_n 1, 1) := by decide +kernel
theorem dX7_leastWays_50 : decode cX7_leastWays 50 = .ok (.iload_n 1, 1) := by decide +kernel
theorem dX7_leastWays_51 : decode cX7_leastWays 51 = .ok (.ifCond .eq 69, 3) := by decide +kernel
theorem dX7_leastWays_54 : decode cX7_leastWays 54 = .ok (.aload_n 0, 1) := by decide +kernel
theorem dX7_leastWays_55 : decode cX7_leastWays 55 = .ok (.aload_n 0, 1) := by decide +kernel
theorem dX7_leastWays_56 : decode cX7_leastWays 56 = .ok (.getfield 87, 3) := by decide +kernel
theorem dX7_leastWays_59 : decode cX7_leastWays 59 = .ok (.invokevirtual 173, 3) := by decide +kernel
theorem dX7_leastWays_62 : decode cX7_leastWays 62 = .ok (.istore_n 2, 1) := by decide +kernel
theorem dX7_leastWays_63 : decode cX7_leastWays 63 = .ok (.aload_n 0, 1) := by decide +kernel
theorem dX7_leastWays_64 : decode cX7_leastWays 64 = .ok (.getfield 177, 3) := by decide +kernel
theorem dX7_leastWays_67 : decode cX7_leastWays 67 = .ok (.iconst (-1), 1) := by decide +kernel
theorem dX7_leastWays_68 : decode cX7_leastWays 68 = .ok (.if_icmp .eq 11, 3) := by decide +kernel
theorem dX7_leastWays_71 : decode cX7_leastWays 71 = .ok (.iload_n 2, 1) := by decide +kernel
theorem dX7_leastWays_72 : decode cX7_leastWays 72 = .ok (.aload_n 0, 1) := by decide +kernel
theorem dX7_leastWays_73 : decode cX7_leastWays 73 = .ok (.getfield 177, 3) := by decide +kernel
theorem dX7_leastWays_76 : decode cX7_leastWays 76 = .ok (.if_icmp .ge 36, 3) := by decide +kernel
theorem dX7_leastWays_79 : decode cX7_leastWays 79 = .ok (.aload_n 0, 1) := by decide +kernel
theorem dX7_leastWays_80 : decode cX7_leastWays 80 = .ok (.iload_n 2, 1) := by decide +kernel
theorem dX7_leastWays_81 : decode cX7_leastWays 81 = .ok (.putfield 177, 3) := by decide +kernel
theorem dX7_leastWays_84 : decode cX7_leastWays 84 = .ok (.iconst 0, 1) := by decide +kernel
theorem dX7_leastWays_85 : decode cX7_leastWays 85 = .ok (.istore_n 3, 1) := by decide +kernel
theorem dX7_leastWays_86 : decode cX7_leastWays 86 = .ok (.iload_n 3, 1) := by decide +kernel
theorem dX7_leastWays_87 : decode cX7_leastWays 87 = .ok (.aload_n 0, 1) := by decide +kernel
theorem dX7_leastWays_88 : decode cX7_leastWays 88 = .ok (.getfield 97, 3) := by decide +kernel
theorem dX7_leastWays_91 : decode cX7_leastWays 91 = .ok (.if_icmp .ge 21, 3) := by decide +kernel
theorem dX7_leastWays_94 : decode cX7_leastWays 94 = .ok (.aload_n 0, 1) := by decide +kernel
theorem dX7_leastWays_95 : decode cX7_leastWays 95 = .ok (.getfield 90, 3) := by decide +kernel
theorem dX7_leastWays_98 : decode cX7_leastWays 98 = .ok (.iload_n 3, 1) := by decide +kernel
theorem dX7_leastWays_99 : decode cX7_leastWays 99 = .ok (.aload_n 0, 1) := by decide +kernel
theorem dX7_leastWays_100 : decode cX7_leastWays 100 = .ok (.getfield 87, 3) := by decide +kernel
theorem dX7_leastWays_103 : decode cX7_leastWays 103 = .ok (.iload_n 3, 1) := by decide +kernel
theorem dX7_leastWays_104 : decode cX7_leastWays 104 = .ok (.iaload, 1) := by decide +kernel
theorem dX7_leastWays_105 : decode cX7_leastWays 105 = .ok (.iastore, 1) := by decide +kernel
theorem dX7_leastWays_106 : decode cX7_leastWays 106 = .ok (.iinc 3 1, 3) := by decide +kernel
theorem dX7_leastWays_109 : decode cX7_leastWays 109 = .ok (.goto (-23), 3) := by decide +kernel
theorem dX7_leastWays_112 : decode cX7_leastWays 112 = .ok (.aload_n 0, 1) := by decide +kernel
theorem dX7_leastWays_113 : decode cX7_leastWays 113 = .ok (.invokevirtual 180, 3) := by decide +kernel
theorem dX7_leastWays_116 : decode cX7_leastWays 116 = .ok (.istore_n 1, 1) := by decide +kernel
theorem dX7_leastWays_117 : decode cX7_leastWays 117 = .ok (.goto (-67), 3) := by decide +kernel
theorem dX7_leastWays_120 : decode cX7_leastWays 120 = .ok (.aload_n 0, 1) := by decide +kernel
theorem dX7_leastWays_121 : decode cX7_leastWays 121 = .ok (.getfield 177, 3) := by decide +kernel
theorem dX7_leastWays_124 : decode cX7_leastWays 124 = .ok (.ireturn, 1) := by decide +kernel
set_option maxRecDepth 20000 in
theorem ggX7_bestDoor_X7_noLorry : GoodIn wsX7_bestDoor wsX7_noLorry := goodIn_r _ [7, 8, 9, 10, 11, 6, 12, 36, 37, 38, 39, 40, 41, 42, 43, 44, 45, 46, 47, 48, 49, 50, 51, 52, 53, 54, 55, 56, 57, 58, 59, 60, 61, 62, 63, 64, 65, 66, 67, 68, 69] (by decide +kernel) (by decide +kernel)
set_option maxRecDepth 20000 in
theorem gX7_bestDoor_X7_noLorry : GoodIn wsX7_bestDoor (wsV RX7 108 RX7 yX7_noLorry wsX7_noLorry) := goodIn_app (goodIn_of _ (by decide +kernel)) ggX7_bestDoor_X7_noLorry
set_option maxRecDepth 20000 in
theorem ggX7_bestDoor_X7_fail : GoodIn wsX7_bestDoor wsX7_fail := goodIn_r _ [16, 9, 36, 37, 38, 39, 40, 41, 42, 43, 44, 45, 46, 47, 48, 49, 50, 51, 52, 53, 54, 55, 56, 57, 58, 59, 60, 61, 62, 63, 64, 65, 66, 67, 68, 69] (by decide +kernel) (by decide +kernel)
set_option maxRecDepth 20000 in
theorem gX7_bestDoor_X7_fail : GoodIn wsX7_bestDoor (wsV RX7 104 RX7 yX7_fail wsX7_fail) := goodIn_app (goodIn_of _ (by decide +kernel)) ggX7_bestDoor_X7_fail
set_option maxRecDepth 20000 in
theorem ggX7_bestDoor_X7_leastWays : GoodIn wsX7_bestDoor wsX7_leastWays := goodIn_ca (goodIn_r _ [20, 8, 21, 1, 22, 23, 2, 24, 25, 26, 6, 27, 28, 29, 30, 31, 32, 33, 34, 35, 36, 37, 38, 39, 40, 41, 42, 43, 44, 45, 46, 47, 48, 49, 50, 51, 52, 53, 54, 55, 56, 57, 58, 59, 60, 61, 62, 63, 64, 65, 66, 67, 68, 69] (by decide +kernel) (by decide +kernel)) (goodIn_sub (fun _ h => List.mem_cons_of_mem _ (List.mem_append_right _ h)) (by decide +kernel))
set_option maxRecDepth 20000 in
theorem gX7_bestDoor_X7_leastWays : GoodIn wsX7_bestDoor (wsV RX7 184 RX7 yX7_leastWays wsX7_leastWays) := goodIn_app (goodIn_of _ (by decide +kernel)) ggX7_bestDoor_X7_leastWays
theorem dX7_bestDoor_0 : decode cX7_bestDoor 0 = .ok (.aload_n 0, 1) := by decide +kernel
theorem dX7_bestDoor_1 : decode cX7_bestDoor 1 = .ok (.iload_n 1, 1) := by decide +kernel
theorem dX7_bestDoor_2 : decode cX7_bestDoor 2 = .ok (.invokevirtual 108, 3) := by decide +kernel
theorem dX7_bestDoor_5 : decode cX7_bestDoor 5 = .ok (.ifCond .eq 5, 3) := by decide +kernel
theorem dX7_bestDoor_8 : decode cX7_bestDoor 8 = .ok (.iconst 0, 1) := by decide +kernel
theorem dX7_bestDoor_9 : decode cX7_bestDoor 9 = .ok (.ireturn, 1) := by decide +kernel
theorem dX7_bestDoor_10 : decode cX7_bestDoor 10 = .ok (.aload_n 0, 1) := by decide +kernel
theorem dX7_bestDoor_11 : decode cX7_bestDoor 11 = .ok (.getfield 44, 3) := by decide +kernel
theorem dX7_bestDoor_14 : decode cX7_bestDoor 14 = .ok (.iload_n 1, 1) := by decide +kernel
theorem dX7_bestDoor_15 : decode cX7_bestDoor 15 = .ok (.caload, 1) := by decide +kernel
theorem dX7_bestDoor_16 : decode cX7_bestDoor 16 = .ok (.bipush 101, 2) := by decide +kernel
theorem dX7_bestDoor_18 : decode cX7_bestDoor 18 = .ok (.if_icmp .eq 9, 3) := by decide +kernel
theorem dX7_bestDoor_21 : decode cX7_bestDoor 21 = .ok (.aload_n 0, 1) := by decide +kernel
theorem dX7_bestDoor_22 : decode cX7_bestDoor 22 = .ok (.iconst 2, 1) := by decide +kernel
theorem dX7_bestDoor_23 : decode cX7_bestDoor 23 = .ok (.invokevirtual 104, 3) := by decide +kernel
theorem dX7_bestDoor_26 : decode cX7_bestDoor 26 = .ok (.ireturn, 1) := by decide +kernel
theorem dX7_bestDoor_27 : decode cX7_bestDoor 27 = .ok (.aload_n 0, 1) := by decide +kernel
theorem dX7_bestDoor_28 : decode cX7_bestDoor 28 = .ok (.invokevirtual 184, 3) := by decide +kernel
theorem dX7_bestDoor_31 : decode cX7_bestDoor 31 = .ok (.istore_n 2, 1) := by decide +kernel
theorem dX7_bestDoor_32 : decode cX7_bestDoor 32 = .ok (.aload_n 0, 1) := by decide +kernel
theorem dX7_bestDoor_33 : decode cX7_bestDoor 33 = .ok (.getfield 90, 3) := by decide +kernel
theorem dX7_bestDoor_36 : decode cX7_bestDoor 36 = .ok (.iload_n 1, 1) := by decide +kernel
theorem dX7_bestDoor_37 : decode cX7_bestDoor 37 = .ok (.iaload, 1) := by decide +kernel
theorem dX7_bestDoor_38 : decode cX7_bestDoor 38 = .ok (.ireturn, 1) := by decide +kernel
theorem dX7_isSound_0 : decode cX7_isSound 0 = .ok (.iconst 1, 1) := by decide +kernel
theorem dX7_isSound_1 : decode cX7_isSound 1 = .ok (.ireturn, 1) := by decide +kernel

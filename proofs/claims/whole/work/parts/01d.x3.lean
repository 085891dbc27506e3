theorem dX3_init_0 : decode cX3_init 0 = .ok (.aload_n 0, 1) := by decide +kernel
theorem dX3_init_1 : decode cX3_init 1 = .ok (.invokespecial 1, 3) := by decide +kernel
theorem dX3_init_4 : decode cX3_init 4 = .ok (.aload_n 0, 1) := by decide +kernel
theorem dX3_init_5 : decode cX3_init 5 = .ok (.iconst 4, 1) := by decide +kernel
theorem dX3_init_6 : decode cX3_init 6 = .ok (.newarray .int, 2) := by decide +kernel
theorem dX3_init_8 : decode cX3_init 8 = .ok (.putfield 7, 3) := by decide +kernel
theorem dX3_init_11 : decode cX3_init 11 = .ok (.aload_n 0, 1) := by decide +kernel
theorem dX3_init_12 : decode cX3_init 12 = .ok (.iconst 4, 1) := by decide +kernel
theorem dX3_init_13 : decode cX3_init 13 = .ok (.newarray .int, 2) := by decide +kernel
theorem dX3_init_15 : decode cX3_init 15 = .ok (.putfield 13, 3) := by decide +kernel
theorem dX3_init_18 : decode cX3_init 18 = .ok (.aload_n 0, 1) := by decide +kernel
theorem dX3_init_19 : decode cX3_init 19 = .ok (.iconst 4, 1) := by decide +kernel
theorem dX3_init_20 : decode cX3_init 20 = .ok (.newarray .int, 2) := by decide +kernel
theorem dX3_init_22 : decode cX3_init 22 = .ok (.putfield 16, 3) := by decide +kernel
theorem dX3_init_25 : decode cX3_init 25 = .ok (.aload_n 0, 1) := by decide +kernel
theorem dX3_init_26 : decode cX3_init 26 = .ok (.bipush 32, 2) := by decide +kernel
theorem dX3_init_28 : decode cX3_init 28 = .ok (.newarray .int, 2) := by decide +kernel
theorem dX3_init_30 : decode cX3_init 30 = .ok (.putfield 19, 3) := by decide +kernel
theorem dX3_init_33 : decode cX3_init 33 = .ok (.aload_n 0, 1) := by decide +kernel
theorem dX3_init_34 : decode cX3_init 34 = .ok (.bipush 32, 2) := by decide +kernel
theorem dX3_init_36 : decode cX3_init 36 = .ok (.newarray .int, 2) := by decide +kernel
theorem dX3_init_38 : decode cX3_init 38 = .ok (.putfield 22, 3) := by decide +kernel
theorem dX3_init_41 : decode cX3_init 41 = .ok (.aload_n 0, 1) := by decide +kernel
theorem dX3_init_42 : decode cX3_init 42 = .ok (.bipush 32, 2) := by decide +kernel
theorem dX3_init_44 : decode cX3_init 44 = .ok (.newarray .int, 2) := by decide +kernel
theorem dX3_init_46 : decode cX3_init 46 = .ok (.putfield 25, 3) := by decide +kernel
theorem dX3_init_49 : decode cX3_init 49 = .ok (.aload_n 0, 1) := by decide +kernel
theorem dX3_init_50 : decode cX3_init 50 = .ok (.iconst 4, 1) := by decide +kernel
theorem dX3_init_51 : decode cX3_init 51 = .ok (.newarray .int, 2) := by decide +kernel
theorem dX3_init_53 : decode cX3_init 53 = .ok (.putfield 28, 3) := by decide +kernel
theorem dX3_init_56 : decode cX3_init 56 = .ok (.aload_n 0, 1) := by decide +kernel
theorem dX3_init_57 : decode cX3_init 57 = .ok (.bipush 9, 2) := by decide +kernel
theorem dX3_init_59 : decode cX3_init 59 = .ok (.newarray .int, 2) := by decide +kernel
theorem dX3_init_61 : decode cX3_init 61 = .ok (.putfield 31, 3) := by decide +kernel
theorem dX3_init_64 : decode cX3_init 64 = .ok (.aload_n 0, 1) := by decide +kernel
theorem dX3_init_65 : decode cX3_init 65 = .ok (.bipush 40, 2) := by decide +kernel
theorem dX3_init_67 : decode cX3_init 67 = .ok (.newarray .int, 2) := by decide +kernel
theorem dX3_init_69 : decode cX3_init 69 = .ok (.putfield 34, 3) := by decide +kernel
theorem dX3_init_72 : decode cX3_init 72 = .ok (.aload_n 0, 1) := by decide +kernel
theorem dX3_init_73 : decode cX3_init 73 = .ok (.bipush 40, 2) := by decide +kernel
theorem dX3_init_75 : decode cX3_init 75 = .ok (.newarray .int, 2) := by decide +kernel
theorem dX3_init_77 : decode cX3_init 77 = .ok (.putfield 37, 3) := by decide +kernel
theorem dX3_init_80 : decode cX3_init 80 = .ok (.aload_n 0, 1) := by decide +kernel
theorem dX3_init_81 : decode cX3_init 81 = .ok (.bipush 40, 2) := by decide +kernel
theorem dX3_init_83 : decode cX3_init 83 = .ok (.newarray .int, 2) := by decide +kernel
theorem dX3_init_85 : decode cX3_init 85 = .ok (.putfield 40, 3) := by decide +kernel
theorem dX3_init_88 : decode cX3_init 88 = .ok (.aload_n 0, 1) := by decide +kernel
theorem dX3_init_89 : decode cX3_init 89 = .ok (.bipush 40, 2) := by decide +kernel
theorem dX3_init_91 : decode cX3_init 91 = .ok (.newarray .int, 2) := by decide +kernel
theorem dX3_init_93 : decode cX3_init 93 = .ok (.putfield 43, 3) := by decide +kernel
theorem dX3_init_96 : decode cX3_init 96 = .ok (.aload_n 0, 1) := by decide +kernel
theorem dX3_init_97 : decode cX3_init 97 = .ok (.bipush 40, 2) := by decide +kernel
theorem dX3_init_99 : decode cX3_init 99 = .ok (.newarray .int, 2) := by decide +kernel
theorem dX3_init_101 : decode cX3_init 101 = .ok (.putfield 46, 3) := by decide +kernel
theorem dX3_init_104 : decode cX3_init 104 = .ok (.aload_n 0, 1) := by decide +kernel
theorem dX3_init_105 : decode cX3_init 105 = .ok (.bipush 40, 2) := by decide +kernel
theorem dX3_init_107 : decode cX3_init 107 = .ok (.newarray .boolean, 2) := by decide +kernel
theorem dX3_init_109 : decode cX3_init 109 = .ok (.putfield 49, 3) := by decide +kernel
theorem dX3_init_112 : decode cX3_init 112 = .ok (.aload_n 0, 1) := by decide +kernel
theorem dX3_init_113 : decode cX3_init 113 = .ok (.bipush 120, 2) := by decide +kernel
theorem dX3_init_115 : decode cX3_init 115 = .ok (.newarray .int, 2) := by decide +kernel
theorem dX3_init_117 : decode cX3_init 117 = .ok (.putfield 53, 3) := by decide +kernel
theorem dX3_init_120 : decode cX3_init 120 = .ok (.aload_n 0, 1) := by decide +kernel
theorem dX3_init_121 : decode cX3_init 121 = .ok (.bipush 120, 2) := by decide +kernel
theorem dX3_init_123 : decode cX3_init 123 = .ok (.newarray .boolean, 2) := by decide +kernel
theorem dX3_init_125 : decode cX3_init 125 = .ok (.putfield 56, 3) := by decide +kernel
theorem dX3_init_128 : decode cX3_init 128 = .ok (.aload_n 0, 1) := by decide +kernel
theorem dX3_init_129 : decode cX3_init 129 = .ok (.iconst 4, 1) := by decide +kernel
theorem dX3_init_130 : decode cX3_init 130 = .ok (.newarray .int, 2) := by decide +kernel
theorem dX3_init_132 : decode cX3_init 132 = .ok (.putfield 59, 3) := by decide +kernel
theorem dX3_init_135 : decode cX3_init 135 = .ok (.aload_n 0, 1) := by decide +kernel
theorem dX3_init_136 : decode cX3_init 136 = .ok (.iconst 4, 1) := by decide +kernel
theorem dX3_init_137 : decode cX3_init 137 = .ok (.newarray .int, 2) := by decide +kernel
theorem dX3_init_139 : decode cX3_init 139 = .ok (.putfield 62, 3) := by decide +kernel
theorem dX3_init_142 : decode cX3_init 142 = .ok (.iconst 0, 1) := by decide +kernel
theorem dX3_init_143 : decode cX3_init 143 = .ok (.istore_n 1, 1) := by decide +kernel
theorem dX3_init_144 : decode cX3_init 144 = .ok (.iload_n 1, 1) := by decide +kernel
theorem dX3_init_145 : decode cX3_init 145 = .ok (.iconst 4, 1) := by decide +kernel
theorem dX3_init_146 : decode cX3_init 146 = .ok (.if_icmp .ge 33, 3) := by decide +kernel
theorem dX3_init_149 : decode cX3_init 149 = .ok (.aload_n 0, 1) := by decide +kernel
theorem dX3_init_150 : decode cX3_init 150 = .ok (.getfield 7, 3) := by decide +kernel
theorem dX3_init_153 : decode cX3_init 153 = .ok (.iload_n 1, 1) := by decide +kernel
theorem dX3_init_154 : decode cX3_init 154 = .ok (.bipush 31, 2) := by decide +kernel
theorem dX3_init_156 : decode cX3_init 156 = .ok (.iastore, 1) := by decide +kernel
theorem dX3_init_157 : decode cX3_init 157 = .ok (.aload_n 0, 1) := by decide +kernel
theorem dX3_init_158 : decode cX3_init 158 = .ok (.getfield 13, 3) := by decide +kernel
theorem dX3_init_161 : decode cX3_init 161 = .ok (.iload_n 1, 1) := by decide +kernel
theorem dX3_init_162 : decode cX3_init 162 = .ok (.bipush 8, 2) := by decide +kernel
theorem dX3_init_164 : decode cX3_init 164 = .ok (.iastore, 1) := by decide +kernel
theorem dX3_init_165 : decode cX3_init 165 = .ok (.aload_n 0, 1) := by decide +kernel
theorem dX3_init_166 : decode cX3_init 166 = .ok (.getfield 16, 3) := by decide +kernel
theorem dX3_init_169 : decode cX3_init 169 = .ok (.iload_n 1, 1) := by decide +kernel
theorem dX3_init_170 : decode cX3_init 170 = .ok (.bipush 17, 2) := by decide +kernel
theorem dX3_init_172 : decode cX3_init 172 = .ok (.iastore, 1) := by decide +kernel
theorem dX3_init_173 : decode cX3_init 173 = .ok (.iinc 1 1, 3) := by decide +kernel
theorem dX3_init_176 : decode cX3_init 176 = .ok (.goto (-32), 3) := by decide +kernel
theorem dX3_init_179 : decode cX3_init 179 = .ok (.iconst 0, 1) := by decide +kernel
theorem dX3_init_180 : decode cX3_init 180 = .ok (.istore_n 1, 1) := by decide +kernel
theorem dX3_init_181 : decode cX3_init 181 = .ok (.iload_n 1, 1) := by decide +kernel
theorem dX3_init_182 : decode cX3_init 182 = .ok (.bipush 9, 2) := by decide +kernel
theorem dX3_init_184 : decode cX3_init 184 = .ok (.if_icmp .ge 60, 3) := by decide +kernel
theorem dX3_init_187 : decode cX3_init 187 = .ok (.aload_n 0, 1) := by decide +kernel
theorem dX3_init_188 : decode cX3_init 188 = .ok (.getfield 31, 3) := by decide +kernel
theorem dX3_init_191 : decode cX3_init 191 = .ok (.iload_n 1, 1) := by decide +kernel
theorem dX3_init_192 : decode cX3_init 192 = .ok (.iload_n 1, 1) := by decide +kernel
theorem dX3_init_193 : decode cX3_init 193 = .ok (.iconst 3, 1) := by decide +kernel
theorem dX3_init_194 : decode cX3_init 194 = .ok (.idiv, 1) := by decide +kernel
theorem dX3_init_195 : decode cX3_init 195 = .ok (.ifCond .ne 7, 3) := by decide +kernel
theorem dX3_init_198 : decode cX3_init 198 = .ok (.iconst 4, 1) := by decide +kernel
theorem dX3_init_199 : decode cX3_init 199 = .ok (.goto 15, 3) := by decide +kernel
theorem dX3_init_202 : decode cX3_init 202 = .ok (.iload_n 1, 1) := by decide +kernel
theorem dX3_init_203 : decode cX3_init 203 = .ok (.iconst 3, 1) := by decide +kernel
theorem dX3_init_204 : decode cX3_init 204 = .ok (.idiv, 1) := by decide +kernel
theorem dX3_init_205 : decode cX3_init 205 = .ok (.iconst 1, 1) := by decide +kernel
theorem dX3_init_206 : decode cX3_init 206 = .ok (.if_icmp .ne 7, 3) := by decide +kernel
theorem dX3_init_209 : decode cX3_init 209 = .ok (.iconst 2, 1) := by decide +kernel
theorem dX3_init_210 : decode cX3_init 210 = .ok (.goto 4, 3) := by decide +kernel
theorem dX3_init_213 : decode cX3_init 213 = .ok (.iconst 1, 1) := by decide +kernel
theorem dX3_init_214 : decode cX3_init 214 = .ok (.iload_n 1, 1) := by decide +kernel
theorem dX3_init_215 : decode cX3_init 215 = .ok (.iconst 3, 1) := by decide +kernel
theorem dX3_init_216 : decode cX3_init 216 = .ok (.irem, 1) := by decide +kernel
theorem dX3_init_217 : decode cX3_init 217 = .ok (.ifCond .ne 7, 3) := by decide +kernel
theorem dX3_init_220 : decode cX3_init 220 = .ok (.iconst 1, 1) := by decide +kernel
theorem dX3_init_221 : decode cX3_init 221 = .ok (.goto 15, 3) := by decide +kernel
theorem dX3_init_224 : decode cX3_init 224 = .ok (.iload_n 1, 1) := by decide +kernel
theorem dX3_init_225 : decode cX3_init 225 = .ok (.iconst 3, 1) := by decide +kernel
theorem dX3_init_226 : decode cX3_init 226 = .ok (.irem, 1) := by decide +kernel
theorem dX3_init_227 : decode cX3_init 227 = .ok (.iconst 1, 1) := by decide +kernel
theorem dX3_init_228 : decode cX3_init 228 = .ok (.if_icmp .ne 7, 3) := by decide +kernel
theorem dX3_init_231 : decode cX3_init 231 = .ok (.iconst 2, 1) := by decide +kernel
theorem dX3_init_232 : decode cX3_init 232 = .ok (.goto 4, 3) := by decide +kernel
theorem dX3_init_235 : decode cX3_init 235 = .ok (.iconst 4, 1) := by decide +kernel
theorem dX3_init_236 : decode cX3_init 236 = .ok (.imul, 1) := by decide +kernel
theorem dX3_init_237 : decode cX3_init 237 = .ok (.iastore, 1) := by decide +kernel
theorem dX3_init_238 : decode cX3_init 238 = .ok (.iinc 1 1, 3) := by decide +kernel
theorem dX3_init_241 : decode cX3_init 241 = .ok (.goto (-60), 3) := by decide +kernel
theorem dX3_init_244 : decode cX3_init 244 = .ok (.return_, 1) := by decide +kernel
theorem dX3_thrown_0 : decode cX3_thrown 0 = .ok (.aload_n 0, 1) := by decide +kernel
theorem dX3_thrown_1 : decode cX3_thrown 1 = .ok (.getfield 65, 3) := by decide +kernel
theorem dX3_thrown_4 : decode cX3_thrown 4 = .ok (.ireturn, 1) := by decide +kernel
theorem dX3_in_0 : decode cX3_in 0 = .ok (.iload_n 0, 1) := by decide +kernel
theorem dX3_in_1 : decode cX3_in 1 = .ok (.iload_n 1, 1) := by decide +kernel
theorem dX3_in_2 : decode cX3_in 2 = .ok (.if_icmp .lt 12, 3) := by decide +kernel
theorem dX3_in_5 : decode cX3_in 5 = .ok (.iload_n 0, 1) := by decide +kernel
theorem dX3_in_6 : decode cX3_in 6 = .ok (.iload_n 2, 1) := by decide +kernel
theorem dX3_in_7 : decode cX3_in 7 = .ok (.if_icmp .gt 7, 3) := by decide +kernel
theorem dX3_in_10 : decode cX3_in 10 = .ok (.iconst 1, 1) := by decide +kernel
theorem dX3_in_11 : decode cX3_in 11 = .ok (.goto 4, 3) := by decide +kernel
theorem dX3_in_14 : decode cX3_in 14 = .ok (.iconst 0, 1) := by decide +kernel
theorem dX3_in_15 : decode cX3_in 15 = .ok (.ireturn, 1) := by decide +kernel
theorem dX3_asked_0 : decode cX3_asked 0 = .ok (.aload_n 0, 1) := by decide +kernel
theorem dX3_asked_1 : decode cX3_asked 1 = .ok (.iload_n 1, 1) := by decide +kernel
theorem dX3_asked_2 : decode cX3_asked 2 = .ok (.ifCond .eq 7, 3) := by decide +kernel
theorem dX3_asked_5 : decode cX3_asked 5 = .ok (.iconst 0, 1) := by decide +kernel
theorem dX3_asked_6 : decode cX3_asked 6 = .ok (.goto 4, 3) := by decide +kernel
theorem dX3_asked_9 : decode cX3_asked 9 = .ok (.iconst 1, 1) := by decide +kernel
theorem dX3_asked_10 : decode cX3_asked 10 = .ok (.putfield 65, 3) := by decide +kernel
theorem dX3_asked_13 : decode cX3_asked 13 = .ok (.iload_n 1, 1) := by decide +kernel
theorem dX3_asked_14 : decode cX3_asked 14 = .ok (.ireturn, 1) := by decide +kernel
theorem dX3_asked__0 : decode cX3_asked_ 0 = .ok (.aload_n 0, 1) := by decide +kernel
theorem dX3_asked__1 : decode cX3_asked_ 1 = .ok (.iload_n 1, 1) := by decide +kernel
theorem dX3_asked__2 : decode cX3_asked_ 2 = .ok (.ifCond .ne 7, 3) := by decide +kernel
theorem dX3_asked__5 : decode cX3_asked_ 5 = .ok (.iconst 1, 1) := by decide +kernel
theorem dX3_asked__6 : decode cX3_asked_ 6 = .ok (.goto 12, 3) := by decide +kernel
theorem dX3_asked__9 : decode cX3_asked_ 9 = .ok (.iload_n 2, 1) := by decide +kernel
theorem dX3_asked__10 : decode cX3_asked_ 10 = .ok (.ifCond .eq 7, 3) := by decide +kernel
theorem dX3_asked__13 : decode cX3_asked_ 13 = .ok (.iconst 0, 1) := by decide +kernel
theorem dX3_asked__14 : decode cX3_asked_ 14 = .ok (.goto 4, 3) := by decide +kernel
theorem dX3_asked__17 : decode cX3_asked_ 17 = .ok (.iconst 2, 1) := by decide +kernel
theorem dX3_asked__18 : decode cX3_asked_ 18 = .ok (.putfield 65, 3) := by decide +kernel
theorem dX3_asked__21 : decode cX3_asked_ 21 = .ok (.aload_n 0, 1) := by decide +kernel
theorem dX3_asked__22 : decode cX3_asked_ 22 = .ok (.getfield 65, 3) := by decide +kernel
theorem dX3_asked__25 : decode cX3_asked_ 25 = .ok (.ifCond .ne 7, 3) := by decide +kernel
theorem dX3_asked__28 : decode cX3_asked_ 28 = .ok (.iconst 1, 1) := by decide +kernel
theorem dX3_asked__29 : decode cX3_asked_ 29 = .ok (.goto 4, 3) := by decide +kernel
theorem dX3_asked__32 : decode cX3_asked_ 32 = .ok (.iconst 0, 1) := by decide +kernel
theorem dX3_asked__33 : decode cX3_asked_ 33 = .ok (.ireturn, 1) := by decide +kernel
theorem dX3_asked___0 : decode cX3_asked__ 0 = .ok (.aload_n 0, 1) := by decide +kernel
theorem dX3_asked___1 : decode cX3_asked__ 1 = .ok (.iload_n 1, 1) := by decide +kernel
theorem dX3_asked___2 : decode cX3_asked__ 2 = .ok (.ifCond .ne 7, 3) := by decide +kernel
theorem dX3_asked___5 : decode cX3_asked__ 5 = .ok (.iconst 1, 1) := by decide +kernel
theorem dX3_asked___6 : decode cX3_asked__ 6 = .ok (.goto 20, 3) := by decide +kernel
theorem dX3_asked___9 : decode cX3_asked__ 9 = .ok (.iload_n 2, 1) := by decide +kernel
theorem dX3_asked___10 : decode cX3_asked__ 10 = .ok (.ifCond .ne 7, 3) := by decide +kernel
theorem dX3_asked___13 : decode cX3_asked__ 13 = .ok (.iconst 2, 1) := by decide +kernel
theorem dX3_asked___14 : decode cX3_asked__ 14 = .ok (.goto 12, 3) := by decide +kernel
theorem dX3_asked___17 : decode cX3_asked__ 17 = .ok (.iload_n 3, 1) := by decide +kernel
theorem dX3_asked___18 : decode cX3_asked__ 18 = .ok (.ifCond .eq 7, 3) := by decide +kernel
theorem dX3_asked___21 : decode cX3_asked__ 21 = .ok (.iconst 0, 1) := by decide +kernel
theorem dX3_asked___22 : decode cX3_asked__ 22 = .ok (.goto 4, 3) := by decide +kernel
theorem dX3_asked___25 : decode cX3_asked__ 25 = .ok (.iconst 3, 1) := by decide +kernel
theorem dX3_asked___26 : decode cX3_asked__ 26 = .ok (.putfield 65, 3) := by decide +kernel
theorem dX3_asked___29 : decode cX3_asked__ 29 = .ok (.aload_n 0, 1) := by decide +kernel
theorem dX3_asked___30 : decode cX3_asked__ 30 = .ok (.getfield 65, 3) := by decide +kernel
theorem dX3_asked___33 : decode cX3_asked__ 33 = .ok (.ifCond .ne 7, 3) := by decide +kernel
theorem dX3_asked___36 : decode cX3_asked__ 36 = .ok (.iconst 1, 1) := by decide +kernel
theorem dX3_asked___37 : decode cX3_asked__ 37 = .ok (.goto 4, 3) := by decide +kernel
theorem dX3_asked___40 : decode cX3_asked__ 40 = .ok (.iconst 0, 1) := by decide +kernel
theorem dX3_asked___41 : decode cX3_asked__ 41 = .ok (.ireturn, 1) := by decide +kernel
theorem dX3_told_0 : decode cX3_told 0 = .ok (.aload_n 0, 1) := by decide +kernel
theorem dX3_told_1 : decode cX3_told 1 = .ok (.iconst 0, 1) := by decide +kernel
theorem dX3_told_2 : decode cX3_told 2 = .ok (.putfield 65, 3) := by decide +kernel
theorem dX3_told_5 : decode cX3_told 5 = .ok (.iload_n 1, 1) := by decide +kernel
theorem dX3_told_6 : decode cX3_told 6 = .ok (.ireturn, 1) := by decide +kernel
set_option maxRecDepth 20000 in
theorem ggX3_isSite_X3_in : GoodIn wsX3_isSite wsX3_in := goodIn_r _ [4] (by decide +kernel) (by decide +kernel)
set_option maxRecDepth 20000 in
theorem gX3_isSite_X3_in : GoodIn wsX3_isSite (va_wsS RX3 69 yX3_in wsX3_in) := goodIn_app (goodIn_of _ (by decide +kernel)) ggX3_isSite_X3_in
theorem dX3_isSite_0 : decode cX3_isSite 0 = .ok (.iload_n 0, 1) := by decide +kernel
theorem dX3_isSite_1 : decode cX3_isSite 1 = .ok (.iconst 0, 1) := by decide +kernel
theorem dX3_isSite_2 : decode cX3_isSite 2 = .ok (.iconst 3, 1) := by decide +kernel
theorem dX3_isSite_3 : decode cX3_isSite 3 = .ok (.invokestatic 69, 3) := by decide +kernel
theorem dX3_isSite_6 : decode cX3_isSite 6 = .ok (.ireturn, 1) := by decide +kernel
set_option maxRecDepth 20000 in
theorem ggX3_isKind_X3_in : GoodIn wsX3_isKind wsX3_in := goodIn_r _ [4] (by decide +kernel) (by decide +kernel)
set_option maxRecDepth 20000 in
theorem gX3_isKind_X3_in : GoodIn wsX3_isKind (va_wsS RX3 69 yX3_in wsX3_in) := goodIn_app (goodIn_of _ (by decide +kernel)) ggX3_isKind_X3_in
theorem dX3_isKind_0 : decode cX3_isKind 0 = .ok (.iload_n 0, 1) := by decide +kernel
theorem dX3_isKind_1 : decode cX3_isKind 1 = .ok (.iconst 0, 1) := by decide +kernel
theorem dX3_isKind_2 : decode cX3_isKind 2 = .ok (.iconst 3, 1) := by decide +kernel
theorem dX3_isKind_3 : decode cX3_isKind 3 = .ok (.invokestatic 69, 3) := by decide +kernel
theorem dX3_isKind_6 : decode cX3_isKind 6 = .ok (.ireturn, 1) := by decide +kernel
set_option maxRecDepth 20000 in
theorem ggX3_isCase_X3_in : GoodIn wsX3_isCase wsX3_in := goodIn_r _ [5] (by decide +kernel) (by decide +kernel)
set_option maxRecDepth 20000 in
theorem gX3_isCase_X3_in : GoodIn wsX3_isCase (va_wsS RX3 69 yX3_in wsX3_in) := goodIn_app (goodIn_of _ (by decide +kernel)) ggX3_isCase_X3_in
theorem dX3_isCase_0 : decode cX3_isCase 0 = .ok (.iload_n 1, 1) := by decide +kernel
theorem dX3_isCase_1 : decode cX3_isCase 1 = .ok (.iconst 0, 1) := by decide +kernel
theorem dX3_isCase_2 : decode cX3_isCase 2 = .ok (.aload_n 0, 1) := by decide +kernel
theorem dX3_isCase_3 : decode cX3_isCase 3 = .ok (.getfield 73, 3) := by decide +kernel
theorem dX3_isCase_6 : decode cX3_isCase 6 = .ok (.iconst 1, 1) := by decide +kernel
theorem dX3_isCase_7 : decode cX3_isCase 7 = .ok (.isub, 1) := by decide +kernel
theorem dX3_isCase_8 : decode cX3_isCase 8 = .ok (.invokestatic 69, 3) := by decide +kernel
theorem dX3_isCase_11 : decode cX3_isCase 11 = .ok (.ireturn, 1) := by decide +kernel
set_option maxRecDepth 20000 in
theorem ggX3_setCalendar_X3_isSite : GoodIn wsX3_setCalendar wsX3_isSite := goodIn_r _ [7, 8, 9, 6, 10] (by decide +kernel) (by decide +kernel)
set_option maxRecDepth 20000 in
theorem gX3_setCalendar_X3_isSite : GoodIn wsX3_setCalendar (va_wsS RX3 76 yX3_isSite wsX3_isSite) := goodIn_app (goodIn_of _ (by decide +kernel)) ggX3_setCalendar_X3_isSite
set_option maxRecDepth 20000 in
theorem ggX3_setCalendar_X3_in : GoodIn wsX3_setCalendar wsX3_in := goodIn_r _ [10] (by decide +kernel) (by decide +kernel)
set_option maxRecDepth 20000 in
theorem gX3_setCalendar_X3_in : GoodIn wsX3_setCalendar (va_wsS RX3 69 yX3_in wsX3_in) := goodIn_app (goodIn_of _ (by decide +kernel)) ggX3_setCalendar_X3_in
set_option maxRecDepth 20000 in
theorem ggX3_setCalendar_X3_asked_ : GoodIn wsX3_setCalendar wsX3_asked_ := goodIn_r _ [14, 15, 16, 17, 18, 19, 20, 21, 22, 23, 24, 25, 26, 27, 28, 29, 30, 31, 32, 33, 34, 35, 36] (by decide +kernel) (by decide +kernel)
set_option maxRecDepth 20000 in
theorem gX3_setCalendar_X3_asked_ : GoodIn wsX3_setCalendar (wsV RX3 80 RX3 yX3_asked_ wsX3_asked_) := goodIn_app (goodIn_of _ (by decide +kernel)) ggX3_setCalendar_X3_asked_
theorem dX3_setCalendar_0 : decode cX3_setCalendar 0 = .ok (.aload_n 0, 1) := by decide +kernel
theorem dX3_setCalendar_1 : decode cX3_setCalendar 1 = .ok (.iload_n 1, 1) := by decide +kernel
theorem dX3_setCalendar_2 : decode cX3_setCalendar 2 = .ok (.invokestatic 76, 3) := by decide +kernel
theorem dX3_setCalendar_5 : decode cX3_setCalendar 5 = .ok (.iload_n 2, 1) := by decide +kernel
theorem dX3_setCalendar_6 : decode cX3_setCalendar 6 = .ok (.iconst 0, 1) := by decide +kernel
theorem dX3_setCalendar_7 : decode cX3_setCalendar 7 = .ok (.bipush 127, 2) := by decide +kernel
theorem dX3_setCalendar_9 : decode cX3_setCalendar 9 = .ok (.invokestatic 69, 3) := by decide +kernel
theorem dX3_setCalendar_12 : decode cX3_setCalendar 12 = .ok (.ifCond .eq 28, 3) := by decide +kernel
theorem dX3_setCalendar_15 : decode cX3_setCalendar 15 = .ok (.iload_n 3, 1) := by decide +kernel
theorem dX3_setCalendar_16 : decode cX3_setCalendar 16 = .ok (.iconst 0, 1) := by decide +kernel
theorem dX3_setCalendar_17 : decode cX3_setCalendar 17 = .ok (.bipush 23, 2) := by decide +kernel
theorem dX3_setCalendar_19 : decode cX3_setCalendar 19 = .ok (.invokestatic 69, 3) := by decide +kernel
theorem dX3_setCalendar_22 : decode cX3_setCalendar 22 = .ok (.ifCond .eq 18, 3) := by decide +kernel
theorem dX3_setCalendar_25 : decode cX3_setCalendar 25 = .ok (.iload 4, 2) := by decide +kernel
theorem dX3_setCalendar_27 : decode cX3_setCalendar 27 = .ok (.iload_n 3, 1) := by decide +kernel
theorem dX3_setCalendar_28 : decode cX3_setCalendar 28 = .ok (.bipush 23, 2) := by decide +kernel
theorem dX3_setCalendar_30 : decode cX3_setCalendar 30 = .ok (.invokestatic 69, 3) := by decide +kernel
theorem dX3_setCalendar_33 : decode cX3_setCalendar 33 = .ok (.ifCond .eq 7, 3) := by decide +kernel
theorem dX3_setCalendar_36 : decode cX3_setCalendar 36 = .ok (.iconst 1, 1) := by decide +kernel
theorem dX3_setCalendar_37 : decode cX3_setCalendar 37 = .ok (.goto 4, 3) := by decide +kernel
theorem dX3_setCalendar_40 : decode cX3_setCalendar 40 = .ok (.iconst 0, 1) := by decide +kernel
theorem dX3_setCalendar_41 : decode cX3_setCalendar 41 = .ok (.invokevirtual 80, 3) := by decide +kernel
theorem dX3_setCalendar_44 : decode cX3_setCalendar 44 = .ok (.ifCond .ne 5, 3) := by decide +kernel
theorem dX3_setCalendar_47 : decode cX3_setCalendar 47 = .ok (.iconst 0, 1) := by decide +kernel
theorem dX3_setCalendar_48 : decode cX3_setCalendar 48 = .ok (.ireturn, 1) := by decide +kernel
theorem dX3_setCalendar_49 : decode cX3_setCalendar 49 = .ok (.aload_n 0, 1) := by decide +kernel
theorem dX3_setCalendar_50 : decode cX3_setCalendar 50 = .ok (.getfield 7, 3) := by decide +kernel
theorem dX3_setCalendar_53 : decode cX3_setCalendar 53 = .ok (.iload_n 1, 1) := by decide +kernel
theorem dX3_setCalendar_54 : decode cX3_setCalendar 54 = .ok (.iaload, 1) := by decide +kernel
theorem dX3_setCalendar_55 : decode cX3_setCalendar 55 = .ok (.istore 5, 2) := by decide +kernel
theorem dX3_setCalendar_57 : decode cX3_setCalendar 57 = .ok (.aload_n 0, 1) := by decide +kernel
theorem dX3_setCalendar_58 : decode cX3_setCalendar 58 = .ok (.getfield 7, 3) := by decide +kernel
theorem dX3_setCalendar_61 : decode cX3_setCalendar 61 = .ok (.iload_n 1, 1) := by decide +kernel
theorem dX3_setCalendar_62 : decode cX3_setCalendar 62 = .ok (.iload_n 2, 1) := by decide +kernel
theorem dX3_setCalendar_63 : decode cX3_setCalendar 63 = .ok (.iastore, 1) := by decide +kernel
theorem dX3_setCalendar_64 : decode cX3_setCalendar 64 = .ok (.aload_n 0, 1) := by decide +kernel
theorem dX3_setCalendar_65 : decode cX3_setCalendar 65 = .ok (.getfield 13, 3) := by decide +kernel
theorem dX3_setCalendar_68 : decode cX3_setCalendar 68 = .ok (.iload_n 1, 1) := by decide +kernel
theorem dX3_setCalendar_69 : decode cX3_setCalendar 69 = .ok (.iload_n 3, 1) := by decide +kernel
theorem dX3_setCalendar_70 : decode cX3_setCalendar 70 = .ok (.iastore, 1) := by decide +kernel
theorem dX3_setCalendar_71 : decode cX3_setCalendar 71 = .ok (.aload_n 0, 1) := by decide +kernel
theorem dX3_setCalendar_72 : decode cX3_setCalendar 72 = .ok (.getfield 16, 3) := by decide +kernel
theorem dX3_setCalendar_75 : decode cX3_setCalendar 75 = .ok (.iload_n 1, 1) := by decide +kernel
theorem dX3_setCalendar_76 : decode cX3_setCalendar 76 = .ok (.iload 4, 2) := by decide +kernel
theorem dX3_setCalendar_78 : decode cX3_setCalendar 78 = .ok (.iastore, 1) := by decide +kernel
theorem dX3_setCalendar_79 : decode cX3_setCalendar 79 = .ok (.iload 5, 2) := by decide +kernel
theorem dX3_setCalendar_81 : decode cX3_setCalendar 81 = .ok (.ireturn, 1) := by decide +kernel
set_option maxRecDepth 20000 in
theorem ggX3_addContract_X3_isSite : GoodIn wsX3_addContract wsX3_isSite := goodIn_r _ [8, 9, 10, 7, 11] (by decide +kernel) (by decide +kernel)
set_option maxRecDepth 20000 in
theorem gX3_addContract_X3_isSite : GoodIn wsX3_addContract (va_wsS RX3 76 yX3_isSite wsX3_isSite) := goodIn_app (goodIn_of _ (by decide +kernel)) ggX3_addContract_X3_isSite
set_option maxRecDepth 20000 in
theorem ggX3_addContract_X3_in : GoodIn wsX3_addContract wsX3_in := goodIn_r _ [11] (by decide +kernel) (by decide +kernel)
set_option maxRecDepth 20000 in
theorem gX3_addContract_X3_in : GoodIn wsX3_addContract (va_wsS RX3 69 yX3_in wsX3_in) := goodIn_app (goodIn_of _ (by decide +kernel)) ggX3_addContract_X3_in
set_option maxRecDepth 20000 in
theorem ggX3_addContract_X3_asked__ : GoodIn wsX3_addContract wsX3_asked__ := goodIn_r _ [15, 16, 17, 18, 19, 20, 21, 22, 23, 24, 25, 26, 27, 28, 29, 30, 31, 32, 33, 34, 35, 36, 37] (by decide +kernel) (by decide +kernel)
set_option maxRecDepth 20000 in
theorem gX3_addContract_X3_asked__ : GoodIn wsX3_addContract (wsV RX3 84 RX3 yX3_asked__ wsX3_asked__) := goodIn_app (goodIn_of _ (by decide +kernel)) ggX3_addContract_X3_asked__
theorem dX3_addContract_0 : decode cX3_addContract 0 = .ok (.iload_n 1, 1) := by decide +kernel
theorem dX3_addContract_1 : decode cX3_addContract 1 = .ok (.invokestatic 76, 3) := by decide +kernel
theorem dX3_addContract_4 : decode cX3_addContract 4 = .ok (.istore 5, 2) := by decide +kernel
theorem dX3_addContract_6 : decode cX3_addContract 6 = .ok (.aload_n 0, 1) := by decide +kernel
theorem dX3_addContract_7 : decode cX3_addContract 7 = .ok (.iload 5, 2) := by decide +kernel
theorem dX3_addContract_9 : decode cX3_addContract 9 = .ok (.iload_n 2, 1) := by decide +kernel
theorem dX3_addContract_10 : decode cX3_addContract 10 = .ok (.iconst 1, 1) := by decide +kernel
theorem dX3_addContract_11 : decode cX3_addContract 11 = .ok (.bipush 15, 2) := by decide +kernel
theorem dX3_addContract_13 : decode cX3_addContract 13 = .ok (.invokestatic 69, 3) := by decide +kernel
theorem dX3_addContract_16 : decode cX3_addContract 16 = .ok (.ifCond .eq 30, 3) := by decide +kernel
theorem dX3_addContract_19 : decode cX3_addContract 19 = .ok (.iload_n 3, 1) := by decide +kernel
theorem dX3_addContract_20 : decode cX3_addContract 20 = .ok (.iconst 0, 1) := by decide +kernel
theorem dX3_addContract_21 : decode cX3_addContract 21 = .ok (.sipush 1000, 3) := by decide +kernel
theorem dX3_addContract_24 : decode cX3_addContract 24 = .ok (.invokestatic 69, 3) := by decide +kernel
theorem dX3_addContract_27 : decode cX3_addContract 27 = .ok (.ifCond .eq 19, 3) := by decide +kernel
theorem dX3_addContract_30 : decode cX3_addContract 30 = .ok (.iload 4, 2) := by decide +kernel
theorem dX3_addContract_32 : decode cX3_addContract 32 = .ok (.iload_n 3, 1) := by decide +kernel
theorem dX3_addContract_33 : decode cX3_addContract 33 = .ok (.sipush 1000, 3) := by decide +kernel
theorem dX3_addContract_36 : decode cX3_addContract 36 = .ok (.invokestatic 69, 3) := by decide +kernel
theorem dX3_addContract_39 : decode cX3_addContract 39 = .ok (.ifCond .eq 7, 3) := by decide +kernel
theorem dX3_addContract_42 : decode cX3_addContract 42 = .ok (.iconst 1, 1) := by decide +kernel
theorem dX3_addContract_43 : decode cX3_addContract 43 = .ok (.goto 4, 3) := by decide +kernel
theorem dX3_addContract_46 : decode cX3_addContract 46 = .ok (.iconst 0, 1) := by decide +kernel
theorem dX3_addContract_47 : decode cX3_addContract 47 = .ok (.iload 5, 2) := by decide +kernel
theorem dX3_addContract_49 : decode cX3_addContract 49 = .ok (.ifCond .eq 18, 3) := by decide +kernel
theorem dX3_addContract_52 : decode cX3_addContract 52 = .ok (.aload_n 0, 1) := by decide +kernel
theorem dX3_addContract_53 : decode cX3_addContract 53 = .ok (.getfield 28, 3) := by decide +kernel
theorem dX3_addContract_56 : decode cX3_addContract 56 = .ok (.iload_n 1, 1) := by decide +kernel
theorem dX3_addContract_57 : decode cX3_addContract 57 = .ok (.iaload, 1) := by decide +kernel
theorem dX3_addContract_58 : decode cX3_addContract 58 = .ok (.bipush 8, 2) := by decide +kernel
theorem dX3_addContract_60 : decode cX3_addContract 60 = .ok (.if_icmp .ge 7, 3) := by decide +kernel
theorem dX3_addContract_63 : decode cX3_addContract 63 = .ok (.iconst 1, 1) := by decide +kernel
theorem dX3_addContract_64 : decode cX3_addContract 64 = .ok (.goto 4, 3) := by decide +kernel
theorem dX3_addContract_67 : decode cX3_addContract 67 = .ok (.iconst 0, 1) := by decide +kernel
theorem dX3_addContract_68 : decode cX3_addContract 68 = .ok (.invokevirtual 84, 3) := by decide +kernel
theorem dX3_addContract_71 : decode cX3_addContract 71 = .ok (.ifCond .ne 5, 3) := by decide +kernel
theorem dX3_addContract_74 : decode cX3_addContract 74 = .ok (.iconst 0, 1) := by decide +kernel
theorem dX3_addContract_75 : decode cX3_addContract 75 = .ok (.ireturn, 1) := by decide +kernel
theorem dX3_addContract_76 : decode cX3_addContract 76 = .ok (.bipush 8, 2) := by decide +kernel
theorem dX3_addContract_78 : decode cX3_addContract 78 = .ok (.iload_n 1, 1) := by decide +kernel
theorem dX3_addContract_79 : decode cX3_addContract 79 = .ok (.imul, 1) := by decide +kernel
theorem dX3_addContract_80 : decode cX3_addContract 80 = .ok (.aload_n 0, 1) := by decide +kernel
theorem dX3_addContract_81 : decode cX3_addContract 81 = .ok (.getfield 28, 3) := by decide +kernel
theorem dX3_addContract_84 : decode cX3_addContract 84 = .ok (.iload_n 1, 1) := by decide +kernel
theorem dX3_addContract_85 : decode cX3_addContract 85 = .ok (.iaload, 1) := by decide +kernel
theorem dX3_addContract_86 : decode cX3_addContract 86 = .ok (.iadd, 1) := by decide +kernel
theorem dX3_addContract_87 : decode cX3_addContract 87 = .ok (.istore 6, 2) := by decide +kernel
theorem dX3_addContract_89 : decode cX3_addContract 89 = .ok (.aload_n 0, 1) := by decide +kernel
theorem dX3_addContract_90 : decode cX3_addContract 90 = .ok (.getfield 19, 3) := by decide +kernel
theorem dX3_addContract_93 : decode cX3_addContract 93 = .ok (.iload 6, 2) := by decide +kernel
theorem dX3_addContract_95 : decode cX3_addContract 95 = .ok (.iload_n 2, 1) := by decide +kernel
theorem dX3_addContract_96 : decode cX3_addContract 96 = .ok (.iastore, 1) := by decide +kernel
theorem dX3_addContract_97 : decode cX3_addContract 97 = .ok (.aload_n 0, 1) := by decide +kernel
theorem dX3_addContract_98 : decode cX3_addContract 98 = .ok (.getfield 22, 3) := by decide +kernel
theorem dX3_addContract_101 : decode cX3_addContract 101 = .ok (.iload 6, 2) := by decide +kernel
theorem dX3_addContract_103 : decode cX3_addContract 103 = .ok (.iload_n 3, 1) := by decide +kernel
theorem dX3_addContract_104 : decode cX3_addContract 104 = .ok (.iastore, 1) := by decide +kernel
theorem dX3_addContract_105 : decode cX3_addContract 105 = .ok (.aload_n 0, 1) := by decide +kernel
theorem dX3_addContract_106 : decode cX3_addContract 106 = .ok (.getfield 25, 3) := by decide +kernel
theorem dX3_addContract_109 : decode cX3_addContract 109 = .ok (.iload 6, 2) := by decide +kernel
theorem dX3_addContract_111 : decode cX3_addContract 111 = .ok (.iload 4, 2) := by decide +kernel
theorem dX3_addContract_113 : decode cX3_addContract 113 = .ok (.iastore, 1) := by decide +kernel
theorem dX3_addContract_114 : decode cX3_addContract 114 = .ok (.aload_n 0, 1) := by decide +kernel
theorem dX3_addContract_115 : decode cX3_addContract 115 = .ok (.getfield 28, 3) := by decide +kernel
theorem dX3_addContract_118 : decode cX3_addContract 118 = .ok (.iload_n 1, 1) := by decide +kernel
theorem dX3_addContract_119 : decode cX3_addContract 119 = .ok (.dup2, 1) := by decide +kernel
theorem dX3_addContract_120 : decode cX3_addContract 120 = .ok (.iaload, 1) := by decide +kernel
theorem dX3_addContract_121 : decode cX3_addContract 121 = .ok (.iconst 1, 1) := by decide +kernel
theorem dX3_addContract_122 : decode cX3_addContract 122 = .ok (.iadd, 1) := by decide +kernel
theorem dX3_addContract_123 : decode cX3_addContract 123 = .ok (.iastore, 1) := by decide +kernel
theorem dX3_addContract_124 : decode cX3_addContract 124 = .ok (.aload_n 0, 1) := by decide +kernel
theorem dX3_addContract_125 : decode cX3_addContract 125 = .ok (.getfield 28, 3) := by decide +kernel
theorem dX3_addContract_128 : decode cX3_addContract 128 = .ok (.iload_n 1, 1) := by decide +kernel
theorem dX3_addContract_129 : decode cX3_addContract 129 = .ok (.iaload, 1) := by decide +kernel
theorem dX3_addContract_130 : decode cX3_addContract 130 = .ok (.ireturn, 1) := by decide +kernel
set_option maxRecDepth 20000 in
theorem ggX3_setPromise_X3_in : GoodIn wsX3_setPromise wsX3_in := goodIn_r _ [5] (by decide +kernel) (by decide +kernel)
set_option maxRecDepth 20000 in
theorem gX3_setPromise_X3_in : GoodIn wsX3_setPromise (va_wsS RX3 69 yX3_in wsX3_in) := goodIn_app (goodIn_of _ (by decide +kernel)) ggX3_setPromise_X3_in
set_option maxRecDepth 20000 in
theorem ggX3_setPromise_X3_asked : GoodIn wsX3_setPromise wsX3_asked := goodIn_r _ [9, 10, 11, 12, 13, 14, 15, 16, 17, 18, 19, 20, 21, 22, 23, 24, 25, 26, 27, 28, 29, 30, 31] (by decide +kernel) (by decide +kernel)
set_option maxRecDepth 20000 in
theorem gX3_setPromise_X3_asked : GoodIn wsX3_setPromise (wsV RX3 87 RX3 yX3_asked wsX3_asked) := goodIn_app (goodIn_of _ (by decide +kernel)) ggX3_setPromise_X3_asked
theorem dX3_setPromise_0 : decode cX3_setPromise 0 = .ok (.aload_n 0, 1) := by decide +kernel
theorem dX3_setPromise_1 : decode cX3_setPromise 1 = .ok (.iload_n 1, 1) := by decide +kernel
theorem dX3_setPromise_2 : decode cX3_setPromise 2 = .ok (.iconst 0, 1) := by decide +kernel
theorem dX3_setPromise_3 : decode cX3_setPromise 3 = .ok (.iconst 2, 1) := by decide +kernel
theorem dX3_setPromise_4 : decode cX3_setPromise 4 = .ok (.invokestatic 69, 3) := by decide +kernel
theorem dX3_setPromise_7 : decode cX3_setPromise 7 = .ok (.ifCond .eq 27, 3) := by decide +kernel
theorem dX3_setPromise_10 : decode cX3_setPromise 10 = .ok (.iload_n 2, 1) := by decide +kernel
theorem dX3_setPromise_11 : decode cX3_setPromise 11 = .ok (.iconst 0, 1) := by decide +kernel
theorem dX3_setPromise_12 : decode cX3_setPromise 12 = .ok (.iconst 2, 1) := by decide +kernel
theorem dX3_setPromise_13 : decode cX3_setPromise 13 = .ok (.invokestatic 69, 3) := by decide +kernel
theorem dX3_setPromise_16 : decode cX3_setPromise 16 = .ok (.ifCond .eq 18, 3) := by decide +kernel
theorem dX3_setPromise_19 : decode cX3_setPromise 19 = .ok (.iload_n 3, 1) := by decide +kernel
theorem dX3_setPromise_20 : decode cX3_setPromise 20 = .ok (.iconst 1, 1) := by decide +kernel
theorem dX3_setPromise_21 : decode cX3_setPromise 21 = .ok (.sipush 1000, 3) := by decide +kernel
theorem dX3_setPromise_24 : decode cX3_setPromise 24 = .ok (.invokestatic 69, 3) := by decide +kernel
theorem dX3_setPromise_27 : decode cX3_setPromise 27 = .ok (.ifCond .eq 7, 3) := by decide +kernel
theorem dX3_setPromise_30 : decode cX3_setPromise 30 = .ok (.iconst 1, 1) := by decide +kernel
theorem dX3_setPromise_31 : decode cX3_setPromise 31 = .ok (.goto 4, 3) := by decide +kernel
theorem dX3_setPromise_34 : decode cX3_setPromise 34 = .ok (.iconst 0, 1) := by decide +kernel
theorem dX3_setPromise_35 : decode cX3_setPromise 35 = .ok (.invokevirtual 87, 3) := by decide +kernel
theorem dX3_setPromise_38 : decode cX3_setPromise 38 = .ok (.ifCond .ne 5, 3) := by decide +kernel
theorem dX3_setPromise_41 : decode cX3_setPromise 41 = .ok (.iconst 0, 1) := by decide +kernel
theorem dX3_setPromise_42 : decode cX3_setPromise 42 = .ok (.ireturn, 1) := by decide +kernel
theorem dX3_setPromise_43 : decode cX3_setPromise 43 = .ok (.aload_n 0, 1) := by decide +kernel
theorem dX3_setPromise_44 : decode cX3_setPromise 44 = .ok (.getfield 31, 3) := by decide +kernel
theorem dX3_setPromise_47 : decode cX3_setPromise 47 = .ok (.iconst 3, 1) := by decide +kernel
theorem dX3_setPromise_48 : decode cX3_setPromise 48 = .ok (.iload_n 1, 1) := by decide +kernel
theorem dX3_setPromise_49 : decode cX3_setPromise 49 = .ok (.imul, 1) := by decide +kernel
theorem dX3_setPromise_50 : decode cX3_setPromise 50 = .ok (.iload_n 2, 1) := by decide +kernel
theorem dX3_setPromise_51 : decode cX3_setPromise 51 = .ok (.iadd, 1) := by decide +kernel
theorem dX3_setPromise_52 : decode cX3_setPromise 52 = .ok (.iaload, 1) := by decide +kernel
theorem dX3_setPromise_53 : decode cX3_setPromise 53 = .ok (.istore 4, 2) := by decide +kernel
theorem dX3_setPromise_55 : decode cX3_setPromise 55 = .ok (.aload_n 0, 1) := by decide +kernel
theorem dX3_setPromise_56 : decode cX3_setPromise 56 = .ok (.getfield 31, 3) := by decide +kernel
theorem dX3_setPromise_59 : decode cX3_setPromise 59 = .ok (.iconst 3, 1) := by decide +kernel
theorem dX3_setPromise_60 : decode cX3_setPromise 60 = .ok (.iload_n 1, 1) := by decide +kernel
theorem dX3_setPromise_61 : decode cX3_setPromise 61 = .ok (.imul, 1) := by decide +kernel
theorem dX3_setPromise_62 : decode cX3_setPromise 62 = .ok (.iload_n 2, 1) := by decide +kernel
theorem dX3_setPromise_63 : decode cX3_setPromise 63 = .ok (.iadd, 1) := by decide +kernel
theorem dX3_setPromise_64 : decode cX3_setPromise 64 = .ok (.iload_n 3, 1) := by decide +kernel
theorem dX3_setPromise_65 : decode cX3_setPromise 65 = .ok (.iastore, 1) := by decide +kernel
theorem dX3_setPromise_66 : decode cX3_setPromise 66 = .ok (.iload 4, 2) := by decide +kernel
theorem dX3_setPromise_68 : decode cX3_setPromise 68 = .ok (.ireturn, 1) := by decide +kernel
set_option maxRecDepth 20000 in
theorem ggX3_covered_X3_in : GoodIn wsX3_covered wsX3_in := goodIn_r _ [8] (by decide +kernel) (by decide +kernel)
set_option maxRecDepth 20000 in
theorem gX3_covered_X3_in : GoodIn wsX3_covered (va_wsS RX3 69 yX3_in wsX3_in) := goodIn_app (goodIn_of _ (by decide +kernel)) ggX3_covered_X3_in
theorem dX3_covered_0 : decode cX3_covered 0 = .ok (.iconst 0, 1) := by decide +kernel
theorem dX3_covered_1 : decode cX3_covered 1 = .ok (.istore 4, 2) := by decide +kernel
theorem dX3_covered_3 : decode cX3_covered 3 = .ok (.bipush 8, 2) := by decide +kernel
theorem dX3_covered_5 : decode cX3_covered 5 = .ok (.iload_n 1, 1) := by decide +kernel
theorem dX3_covered_6 : decode cX3_covered 6 = .ok (.imul, 1) := by decide +kernel
theorem dX3_covered_7 : decode cX3_covered 7 = .ok (.istore 5, 2) := by decide +kernel
theorem dX3_covered_9 : decode cX3_covered 9 = .ok (.iload 5, 2) := by decide +kernel
theorem dX3_covered_11 : decode cX3_covered 11 = .ok (.bipush 8, 2) := by decide +kernel
theorem dX3_covered_13 : decode cX3_covered 13 = .ok (.iload_n 1, 1) := by decide +kernel
theorem dX3_covered_14 : decode cX3_covered 14 = .ok (.imul, 1) := by decide +kernel
theorem dX3_covered_15 : decode cX3_covered 15 = .ok (.aload_n 0, 1) := by decide +kernel
theorem dX3_covered_16 : decode cX3_covered 16 = .ok (.getfield 28, 3) := by decide +kernel
theorem dX3_covered_19 : decode cX3_covered 19 = .ok (.iload_n 1, 1) := by decide +kernel
theorem dX3_covered_20 : decode cX3_covered 20 = .ok (.iaload, 1) := by decide +kernel
theorem dX3_covered_21 : decode cX3_covered 21 = .ok (.iadd, 1) := by decide +kernel
theorem dX3_covered_22 : decode cX3_covered 22 = .ok (.if_icmp .ge 57, 3) := by decide +kernel
theorem dX3_covered_25 : decode cX3_covered 25 = .ok (.iload 4, 2) := by decide +kernel
theorem dX3_covered_27 : decode cX3_covered 27 = .ok (.ifCond .ne 39, 3) := by decide +kernel
theorem dX3_covered_30 : decode cX3_covered 30 = .ok (.aload_n 0, 1) := by decide +kernel
theorem dX3_covered_31 : decode cX3_covered 31 = .ok (.getfield 19, 3) := by decide +kernel
theorem dX3_covered_34 : decode cX3_covered 34 = .ok (.iload 5, 2) := by decide +kernel
theorem dX3_covered_36 : decode cX3_covered 36 = .ok (.iaload, 1) := by decide +kernel
theorem dX3_covered_37 : decode cX3_covered 37 = .ok (.iload_n 2, 1) := by decide +kernel
theorem dX3_covered_38 : decode cX3_covered 38 = .ok (.ishr, 1) := by decide +kernel
theorem dX3_covered_39 : decode cX3_covered 39 = .ok (.iconst 1, 1) := by decide +kernel
theorem dX3_covered_40 : decode cX3_covered 40 = .ok (.iand, 1) := by decide +kernel
theorem dX3_covered_41 : decode cX3_covered 41 = .ok (.iconst 1, 1) := by decide +kernel
theorem dX3_covered_42 : decode cX3_covered 42 = .ok (.if_icmp .ne 28, 3) := by decide +kernel
theorem dX3_covered_45 : decode cX3_covered 45 = .ok (.iload_n 3, 1) := by decide +kernel
theorem dX3_covered_46 : decode cX3_covered 46 = .ok (.aload_n 0, 1) := by decide +kernel
theorem dX3_covered_47 : decode cX3_covered 47 = .ok (.getfield 22, 3) := by decide +kernel
theorem dX3_covered_50 : decode cX3_covered 50 = .ok (.iload 5, 2) := by decide +kernel
theorem dX3_covered_52 : decode cX3_covered 52 = .ok (.iaload, 1) := by decide +kernel
theorem dX3_covered_53 : decode cX3_covered 53 = .ok (.aload_n 0, 1) := by decide +kernel
theorem dX3_covered_54 : decode cX3_covered 54 = .ok (.getfield 25, 3) := by decide +kernel
theorem dX3_covered_57 : decode cX3_covered 57 = .ok (.iload 5, 2) := by decide +kernel
theorem dX3_covered_59 : decode cX3_covered 59 = .ok (.iaload, 1) := by decide +kernel
theorem dX3_covered_60 : decode cX3_covered 60 = .ok (.invokestatic 69, 3) := by decide +kernel
theorem dX3_covered_63 : decode cX3_covered 63 = .ok (.ifCond .eq 7, 3) := by decide +kernel
theorem dX3_covered_66 : decode cX3_covered 66 = .ok (.iconst 1, 1) := by decide +kernel
theorem dX3_covered_67 : decode cX3_covered 67 = .ok (.goto 4, 3) := by decide +kernel
theorem dX3_covered_70 : decode cX3_covered 70 = .ok (.iconst 0, 1) := by decide +kernel
theorem dX3_covered_71 : decode cX3_covered 71 = .ok (.istore 4, 2) := by decide +kernel
theorem dX3_covered_73 : decode cX3_covered 73 = .ok (.iinc 5 1, 3) := by decide +kernel
theorem dX3_covered_76 : decode cX3_covered 76 = .ok (.goto (-67), 3) := by decide +kernel
theorem dX3_covered_79 : decode cX3_covered 79 = .ok (.iload 4, 2) := by decide +kernel
theorem dX3_covered_81 : decode cX3_covered 81 = .ok (.ireturn, 1) := by decide +kernel
set_option maxRecDepth 20000 in
theorem ggX3_isCovered_X3_isSite : GoodIn wsX3_isCovered wsX3_isSite := goodIn_r _ [4, 5, 6, 3, 7] (by decide +kernel) (by decide +kernel)
set_option maxRecDepth 20000 in
theorem gX3_isCovered_X3_isSite : GoodIn wsX3_isCovered (va_wsS RX3 76 yX3_isSite wsX3_isSite) := goodIn_app (goodIn_of _ (by decide +kernel)) ggX3_isCovered_X3_isSite
set_option maxRecDepth 20000 in
theorem ggX3_isCovered_X3_isKind : GoodIn wsX3_isCovered wsX3_isKind := goodIn_r _ [10, 5, 6, 3, 7] (by decide +kernel) (by decide +kernel)
set_option maxRecDepth 20000 in
theorem gX3_isCovered_X3_isKind : GoodIn wsX3_isCovered (va_wsS RX3 90 yX3_isKind wsX3_isKind) := goodIn_app (goodIn_of _ (by decide +kernel)) ggX3_isCovered_X3_isKind
set_option maxRecDepth 20000 in
theorem ggX3_isCovered_X3_in : GoodIn wsX3_isCovered wsX3_in := goodIn_r _ [7] (by decide +kernel) (by decide +kernel)
set_option maxRecDepth 20000 in
theorem gX3_isCovered_X3_in : GoodIn wsX3_isCovered (va_wsS RX3 69 yX3_in wsX3_in) := goodIn_app (goodIn_of _ (by decide +kernel)) ggX3_isCovered_X3_in
set_option maxRecDepth 20000 in
theorem ggX3_isCovered_X3_asked_ : GoodIn wsX3_isCovered wsX3_asked_ := goodIn_r _ [14, 15, 24, 25, 26, 27, 28, 29, 30, 31, 32, 33, 34, 35, 36, 37, 38, 39, 40, 41, 42, 43, 44] (by decide +kernel) (by decide +kernel)
set_option maxRecDepth 20000 in
theorem gX3_isCovered_X3_asked_ : GoodIn wsX3_isCovered (wsV RX3 80 RX3 yX3_asked_ wsX3_asked_) := goodIn_app (goodIn_of _ (by decide +kernel)) ggX3_isCovered_X3_asked_
set_option maxRecDepth 20000 in
theorem ggX3_isCovered_X3_covered : GoodIn wsX3_isCovered wsX3_covered := goodIn_r _ [19, 20, 21, 22, 23, 5, 6, 3, 7, 24, 25, 26, 27, 28, 29, 30, 31, 32, 33, 34, 35, 36, 37, 38, 39, 40, 41, 42, 43, 44] (by decide +kernel) (by decide +kernel)
set_option maxRecDepth 20000 in
theorem gX3_isCovered_X3_covered : GoodIn wsX3_isCovered (wsV RX3 93 RX3 yX3_covered wsX3_covered) := goodIn_app (goodIn_of _ (by decide +kernel)) ggX3_isCovered_X3_covered
theorem dX3_isCovered_0 : decode cX3_isCovered 0 = .ok (.aload_n 0, 1) := by decide +kernel
theorem dX3_isCovered_1 : decode cX3_isCovered 1 = .ok (.iload_n 1, 1) := by decide +kernel
theorem dX3_isCovered_2 : decode cX3_isCovered 2 = .ok (.invokestatic 76, 3) := by decide +kernel
theorem dX3_isCovered_5 : decode cX3_isCovered 5 = .ok (.ifCond .eq 14, 3) := by decide +kernel
theorem dX3_isCovered_8 : decode cX3_isCovered 8 = .ok (.iload_n 2, 1) := by decide +kernel
theorem dX3_isCovered_9 : decode cX3_isCovered 9 = .ok (.invokestatic 90, 3) := by decide +kernel
theorem dX3_isCovered_12 : decode cX3_isCovered 12 = .ok (.ifCond .eq 7, 3) := by decide +kernel
theorem dX3_isCovered_15 : decode cX3_isCovered 15 = .ok (.iconst 1, 1) := by decide +kernel
theorem dX3_isCovered_16 : decode cX3_isCovered 16 = .ok (.goto 4, 3) := by decide +kernel
theorem dX3_isCovered_19 : decode cX3_isCovered 19 = .ok (.iconst 0, 1) := by decide +kernel
theorem dX3_isCovered_20 : decode cX3_isCovered 20 = .ok (.iload_n 3, 1) := by decide +kernel
theorem dX3_isCovered_21 : decode cX3_isCovered 21 = .ok (.iconst 0, 1) := by decide +kernel
theorem dX3_isCovered_22 : decode cX3_isCovered 22 = .ok (.sipush 1000, 3) := by decide +kernel
theorem dX3_isCovered_25 : decode cX3_isCovered 25 = .ok (.invokestatic 69, 3) := by decide +kernel
theorem dX3_isCovered_28 : decode cX3_isCovered 28 = .ok (.invokevirtual 80, 3) := by decide +kernel
theorem dX3_isCovered_31 : decode cX3_isCovered 31 = .ok (.ifCond .eq 17, 3) := by decide +kernel
theorem dX3_isCovered_34 : decode cX3_isCovered 34 = .ok (.aload_n 0, 1) := by decide +kernel
theorem dX3_isCovered_35 : decode cX3_isCovered 35 = .ok (.iload_n 1, 1) := by decide +kernel
theorem dX3_isCovered_36 : decode cX3_isCovered 36 = .ok (.iload_n 2, 1) := by decide +kernel
theorem dX3_isCovered_37 : decode cX3_isCovered 37 = .ok (.iload_n 3, 1) := by decide +kernel
theorem dX3_isCovered_38 : decode cX3_isCovered 38 = .ok (.invokevirtual 93, 3) := by decide +kernel
theorem dX3_isCovered_41 : decode cX3_isCovered 41 = .ok (.ifCond .eq 7, 3) := by decide +kernel
theorem dX3_isCovered_44 : decode cX3_isCovered 44 = .ok (.iconst 1, 1) := by decide +kernel
theorem dX3_isCovered_45 : decode cX3_isCovered 45 = .ok (.goto 4, 3) := by decide +kernel
theorem dX3_isCovered_48 : decode cX3_isCovered 48 = .ok (.iconst 0, 1) := by decide +kernel
theorem dX3_isCovered_49 : decode cX3_isCovered 49 = .ok (.ireturn, 1) := by decide +kernel
set_option maxRecDepth 20000 in
theorem ggX3_nextGap_X3_isSite : GoodIn wsX3_nextGap wsX3_isSite := goodIn_r _ [4, 5, 6, 3, 7] (by decide +kernel) (by decide +kernel)
set_option maxRecDepth 20000 in
theorem gX3_nextGap_X3_isSite : GoodIn wsX3_nextGap (va_wsS RX3 76 yX3_isSite wsX3_isSite) := goodIn_app (goodIn_of _ (by decide +kernel)) ggX3_nextGap_X3_isSite
set_option maxRecDepth 20000 in
theorem ggX3_nextGap_X3_isKind : GoodIn wsX3_nextGap wsX3_isKind := goodIn_r _ [10, 5, 6, 3, 7] (by decide +kernel) (by decide +kernel)
set_option maxRecDepth 20000 in
theorem gX3_nextGap_X3_isKind : GoodIn wsX3_nextGap (va_wsS RX3 90 yX3_isKind wsX3_isKind) := goodIn_app (goodIn_of _ (by decide +kernel)) ggX3_nextGap_X3_isKind
set_option maxRecDepth 20000 in
theorem ggX3_nextGap_X3_in : GoodIn wsX3_nextGap wsX3_in := goodIn_r _ [7] (by decide +kernel) (by decide +kernel)
set_option maxRecDepth 20000 in
theorem gX3_nextGap_X3_in : GoodIn wsX3_nextGap (va_wsS RX3 69 yX3_in wsX3_in) := goodIn_app (goodIn_of _ (by decide +kernel)) ggX3_nextGap_X3_in
set_option maxRecDepth 20000 in
theorem ggX3_nextGap_X3_asked_ : GoodIn wsX3_nextGap wsX3_asked_ := goodIn_r _ [14, 15, 24, 25, 26, 27, 28, 29, 30, 31, 32, 33, 34, 35, 36, 37, 38, 39, 40, 41, 42, 43, 44] (by decide +kernel) (by decide +kernel)
set_option maxRecDepth 20000 in
theorem gX3_nextGap_X3_asked_ : GoodIn wsX3_nextGap (wsV RX3 80 RX3 yX3_asked_ wsX3_asked_) := goodIn_app (goodIn_of _ (by decide +kernel)) ggX3_nextGap_X3_asked_
set_option maxRecDepth 20000 in
theorem ggX3_nextGap_X3_covered : GoodIn wsX3_nextGap wsX3_covered := goodIn_r _ [19, 20, 21, 22, 23, 5, 6, 3, 7, 24, 25, 26, 27, 28, 29, 30, 31, 32, 33, 34, 35, 36, 37, 38, 39, 40, 41, 42, 43, 44] (by decide +kernel) (by decide +kernel)
set_option maxRecDepth 20000 in
theorem gX3_nextGap_X3_covered : GoodIn wsX3_nextGap (wsV RX3 93 RX3 yX3_covered wsX3_covered) := goodIn_app (goodIn_of _ (by decide +kernel)) ggX3_nextGap_X3_covered
theorem dX3_nextGap_0 : decode cX3_nextGap 0 = .ok (.aload_n 0, 1) := by decide +kernel
theorem dX3_nextGap_1 : decode cX3_nextGap 1 = .ok (.iload_n 1, 1) := by decide +kernel
theorem dX3_nextGap_2 : decode cX3_nextGap 2 = .ok (.invokestatic 76, 3) := by decide +kernel
theorem dX3_nextGap_5 : decode cX3_nextGap 5 = .ok (.ifCond .eq 14, 3) := by decide +kernel
theorem dX3_nextGap_8 : decode cX3_nextGap 8 = .ok (.iload_n 2, 1) := by decide +kernel
theorem dX3_nextGap_9 : decode cX3_nextGap 9 = .ok (.invokestatic 90, 3) := by decide +kernel
theorem dX3_nextGap_12 : decode cX3_nextGap 12 = .ok (.ifCond .eq 7, 3) := by decide +kernel
theorem dX3_nextGap_15 : decode cX3_nextGap 15 = .ok (.iconst 1, 1) := by decide +kernel
theorem dX3_nextGap_16 : decode cX3_nextGap 16 = .ok (.goto 4, 3) := by decide +kernel
theorem dX3_nextGap_19 : decode cX3_nextGap 19 = .ok (.iconst 0, 1) := by decide +kernel
theorem dX3_nextGap_20 : decode cX3_nextGap 20 = .ok (.iload_n 3, 1) := by decide +kernel
theorem dX3_nextGap_21 : decode cX3_nextGap 21 = .ok (.iconst 0, 1) := by decide +kernel
theorem dX3_nextGap_22 : decode cX3_nextGap 22 = .ok (.sipush 1000, 3) := by decide +kernel
theorem dX3_nextGap_25 : decode cX3_nextGap 25 = .ok (.invokestatic 69, 3) := by decide +kernel
theorem dX3_nextGap_28 : decode cX3_nextGap 28 = .ok (.invokevirtual 80, 3) := by decide +kernel
theorem dX3_nextGap_31 : decode cX3_nextGap 31 = .ok (.ifCond .ne 5, 3) := by decide +kernel
theorem dX3_nextGap_34 : decode cX3_nextGap 34 = .ok (.iconst 0, 1) := by decide +kernel
theorem dX3_nextGap_35 : decode cX3_nextGap 35 = .ok (.ireturn, 1) := by decide +kernel
theorem dX3_nextGap_36 : decode cX3_nextGap 36 = .ok (.iload_n 3, 1) := by decide +kernel
theorem dX3_nextGap_37 : decode cX3_nextGap 37 = .ok (.istore 4, 2) := by decide +kernel
theorem dX3_nextGap_39 : decode cX3_nextGap 39 = .ok (.iload 4, 2) := by decide +kernel
theorem dX3_nextGap_41 : decode cX3_nextGap 41 = .ok (.sipush 1000, 3) := by decide +kernel
theorem dX3_nextGap_44 : decode cX3_nextGap 44 = .ok (.if_icmp .gt 23, 3) := by decide +kernel
theorem dX3_nextGap_47 : decode cX3_nextGap 47 = .ok (.aload_n 0, 1) := by decide +kernel
theorem dX3_nextGap_48 : decode cX3_nextGap 48 = .ok (.iload_n 1, 1) := by decide +kernel
theorem dX3_nextGap_49 : decode cX3_nextGap 49 = .ok (.iload_n 2, 1) := by decide +kernel
theorem dX3_nextGap_50 : decode cX3_nextGap 50 = .ok (.iload 4, 2) := by decide +kernel
theorem dX3_nextGap_52 : decode cX3_nextGap 52 = .ok (.invokevirtual 93, 3) := by decide +kernel
theorem dX3_nextGap_55 : decode cX3_nextGap 55 = .ok (.ifCond .ne 6, 3) := by decide +kernel
theorem dX3_nextGap_58 : decode cX3_nextGap 58 = .ok (.iload 4, 2) := by decide +kernel
theorem dX3_nextGap_60 : decode cX3_nextGap 60 = .ok (.ireturn, 1) := by decide +kernel
theorem dX3_nextGap_61 : decode cX3_nextGap 61 = .ok (.iinc 4 1, 3) := by decide +kernel
theorem dX3_nextGap_64 : decode cX3_nextGap 64 = .ok (.goto (-25), 3) := by decide +kernel
theorem dX3_nextGap_67 : decode cX3_nextGap 67 = .ok (.iconst (-1), 1) := by decide +kernel
theorem dX3_nextGap_68 : decode cX3_nextGap 68 = .ok (.ireturn, 1) := by decide +kernel
set_option maxRecDepth 20000 in
theorem ggX3_counts_X3_in : GoodIn wsX3_counts wsX3_in := goodIn_r _ [7] (by decide +kernel) (by decide +kernel)
set_option maxRecDepth 20000 in
theorem gX3_counts_X3_in : GoodIn wsX3_counts (va_wsS RX3 69 yX3_in wsX3_in) := goodIn_app (goodIn_of _ (by decide +kernel)) ggX3_counts_X3_in
theorem dX3_counts_0 : decode cX3_counts 0 = .ok (.aload_n 0, 1) := by decide +kernel
theorem dX3_counts_1 : decode cX3_counts 1 = .ok (.getfield 7, 3) := by decide +kernel
theorem dX3_counts_4 : decode cX3_counts 4 = .ok (.iload_n 1, 1) := by decide +kernel
theorem dX3_counts_5 : decode cX3_counts 5 = .ok (.iaload, 1) := by decide +kernel
theorem dX3_counts_6 : decode cX3_counts 6 = .ok (.iload_n 2, 1) := by decide +kernel
theorem dX3_counts_7 : decode cX3_counts 7 = .ok (.bipush 24, 2) := by decide +kernel
theorem dX3_counts_9 : decode cX3_counts 9 = .ok (.idiv, 1) := by decide +kernel
theorem dX3_counts_10 : decode cX3_counts 10 = .ok (.bipush 7, 2) := by decide +kernel
theorem dX3_counts_12 : decode cX3_counts 12 = .ok (.irem, 1) := by decide +kernel
theorem dX3_counts_13 : decode cX3_counts 13 = .ok (.ishr, 1) := by decide +kernel
theorem dX3_counts_14 : decode cX3_counts 14 = .ok (.iconst 1, 1) := by decide +kernel
theorem dX3_counts_15 : decode cX3_counts 15 = .ok (.iand, 1) := by decide +kernel
theorem dX3_counts_16 : decode cX3_counts 16 = .ok (.iconst 1, 1) := by decide +kernel
theorem dX3_counts_17 : decode cX3_counts 17 = .ok (.if_icmp .ne 29, 3) := by decide +kernel
theorem dX3_counts_20 : decode cX3_counts 20 = .ok (.iload_n 2, 1) := by decide +kernel
theorem dX3_counts_21 : decode cX3_counts 21 = .ok (.bipush 24, 2) := by decide +kernel
theorem dX3_counts_23 : decode cX3_counts 23 = .ok (.irem, 1) := by decide +kernel
theorem dX3_counts_24 : decode cX3_counts 24 = .ok (.aload_n 0, 1) := by decide +kernel
theorem dX3_counts_25 : decode cX3_counts 25 = .ok (.getfield 13, 3) := by decide +kernel
theorem dX3_counts_28 : decode cX3_counts 28 = .ok (.iload_n 1, 1) := by decide +kernel
theorem dX3_counts_29 : decode cX3_counts 29 = .ok (.iaload, 1) := by decide +kernel
theorem dX3_counts_30 : decode cX3_counts 30 = .ok (.aload_n 0, 1) := by decide +kernel
theorem dX3_counts_31 : decode cX3_counts 31 = .ok (.getfield 16, 3) := by decide +kernel
theorem dX3_counts_34 : decode cX3_counts 34 = .ok (.iload_n 1, 1) := by decide +kernel
theorem dX3_counts_35 : decode cX3_counts 35 = .ok (.iaload, 1) := by decide +kernel
theorem dX3_counts_36 : decode cX3_counts 36 = .ok (.invokestatic 69, 3) := by decide +kernel
theorem dX3_counts_39 : decode cX3_counts 39 = .ok (.ifCond .eq 7, 3) := by decide +kernel
theorem dX3_counts_42 : decode cX3_counts 42 = .ok (.iconst 1, 1) := by decide +kernel
theorem dX3_counts_43 : decode cX3_counts 43 = .ok (.goto 4, 3) := by decide +kernel
theorem dX3_counts_46 : decode cX3_counts 46 = .ok (.iconst 0, 1) := by decide +kernel
theorem dX3_counts_47 : decode cX3_counts 47 = .ok (.ireturn, 1) := by decide +kernel
set_option maxRecDepth 20000 in
theorem ggX3_pass_X3_in : GoodIn wsX3_pass wsX3_in := goodIn_r _ [11] (by decide +kernel) (by decide +kernel)
set_option maxRecDepth 20000 in
theorem gX3_pass_X3_in : GoodIn wsX3_pass (va_wsS RX3 69 yX3_in wsX3_in) := goodIn_app (goodIn_of _ (by decide +kernel)) ggX3_pass_X3_in
set_option maxRecDepth 20000 in
theorem ggX3_pass_X3_asked_ : GoodIn wsX3_pass wsX3_asked_ := goodIn_r _ [15, 16, 24, 25, 26, 27, 28, 29, 30, 31, 32, 33, 34, 35, 36, 37, 38, 39, 40, 41, 42, 43, 44] (by decide +kernel) (by decide +kernel)
set_option maxRecDepth 20000 in
theorem gX3_pass_X3_asked_ : GoodIn wsX3_pass (wsV RX3 80 RX3 yX3_asked_ wsX3_asked_) := goodIn_app (goodIn_of _ (by decide +kernel)) ggX3_pass_X3_asked_
set_option maxRecDepth 20000 in
theorem ggX3_pass_X3_counts : GoodIn wsX3_pass wsX3_counts := goodIn_r _ [20, 21, 22, 23, 8, 9, 10, 11, 24, 25, 26, 27, 28, 29, 30, 31, 32, 33, 34, 35, 36, 37, 38, 39, 40, 41, 42, 43, 44] (by decide +kernel) (by decide +kernel)
set_option maxRecDepth 20000 in
theorem gX3_pass_X3_counts : GoodIn wsX3_pass (wsV RX3 99 RX3 yX3_counts wsX3_counts) := goodIn_app (goodIn_of _ (by decide +kernel)) ggX3_pass_X3_counts
theorem dX3_pass_0 : decode cX3_pass 0 = .ok (.iload_n 1, 1) := by decide +kernel
theorem dX3_pass_1 : decode cX3_pass 1 = .ok (.iconst 1, 1) := by decide +kernel
theorem dX3_pass_2 : decode cX3_pass 2 = .ok (.sipush 1000, 3) := by decide +kernel
theorem dX3_pass_5 : decode cX3_pass 5 = .ok (.invokestatic 69, 3) := by decide +kernel
theorem dX3_pass_8 : decode cX3_pass 8 = .ok (.istore_n 2, 1) := by decide +kernel
theorem dX3_pass_9 : decode cX3_pass 9 = .ok (.aload_n 0, 1) := by decide +kernel
theorem dX3_pass_10 : decode cX3_pass 10 = .ok (.iload_n 2, 1) := by decide +kernel
theorem dX3_pass_11 : decode cX3_pass 11 = .ok (.iload_n 2, 1) := by decide +kernel
theorem dX3_pass_12 : decode cX3_pass 12 = .ok (.ifCond .eq 19, 3) := by decide +kernel
theorem dX3_pass_15 : decode cX3_pass 15 = .ok (.aload_n 0, 1) := by decide +kernel
theorem dX3_pass_16 : decode cX3_pass 16 = .ok (.getfield 96, 3) := by decide +kernel
theorem dX3_pass_19 : decode cX3_pass 19 = .ok (.iload_n 1, 1) := by decide +kernel
theorem dX3_pass_20 : decode cX3_pass 20 = .ok (.iadd, 1) := by decide +kernel
theorem dX3_pass_21 : decode cX3_pass 21 = .ok (.sipush 24000, 3) := by decide +kernel
theorem dX3_pass_24 : decode cX3_pass 24 = .ok (.if_icmp .gt 7, 3) := by decide +kernel
theorem dX3_pass_27 : decode cX3_pass 27 = .ok (.iconst 1, 1) := by decide +kernel
theorem dX3_pass_28 : decode cX3_pass 28 = .ok (.goto 4, 3) := by decide +kernel
theorem dX3_pass_31 : decode cX3_pass 31 = .ok (.iconst 0, 1) := by decide +kernel
theorem dX3_pass_32 : decode cX3_pass 32 = .ok (.invokevirtual 80, 3) := by decide +kernel
theorem dX3_pass_35 : decode cX3_pass 35 = .ok (.ifCond .ne 5, 3) := by decide +kernel
theorem dX3_pass_38 : decode cX3_pass 38 = .ok (.iconst 0, 1) := by decide +kernel
theorem dX3_pass_39 : decode cX3_pass 39 = .ok (.ireturn, 1) := by decide +kernel
theorem dX3_pass_40 : decode cX3_pass 40 = .ok (.iconst 0, 1) := by decide +kernel
theorem dX3_pass_41 : decode cX3_pass 41 = .ok (.istore_n 3, 1) := by decide +kernel
theorem dX3_pass_42 : decode cX3_pass 42 = .ok (.iload_n 3, 1) := by decide +kernel
theorem dX3_pass_43 : decode cX3_pass 43 = .ok (.iload_n 1, 1) := by decide +kernel
theorem dX3_pass_44 : decode cX3_pass 44 = .ok (.if_icmp .ge 125, 3) := by decide +kernel
theorem dX3_pass_47 : decode cX3_pass 47 = .ok (.iconst 0, 1) := by decide +kernel
theorem dX3_pass_48 : decode cX3_pass 48 = .ok (.istore 4, 2) := by decide +kernel
theorem dX3_pass_50 : decode cX3_pass 50 = .ok (.iload 4, 2) := by decide +kernel
theorem dX3_pass_52 : decode cX3_pass 52 = .ok (.aload_n 0, 1) := by decide +kernel
theorem dX3_pass_53 : decode cX3_pass 53 = .ok (.getfield 73, 3) := by decide +kernel
theorem dX3_pass_56 : decode cX3_pass 56 = .ok (.if_icmp .ge 97, 3) := by decide +kernel
theorem dX3_pass_59 : decode cX3_pass 59 = .ok (.aload_n 0, 1) := by decide +kernel
theorem dX3_pass_60 : decode cX3_pass 60 = .ok (.getfield 43, 3) := by decide +kernel
theorem dX3_pass_63 : decode cX3_pass 63 = .ok (.iload 4, 2) := by decide +kernel
theorem dX3_pass_65 : decode cX3_pass 65 = .ok (.iaload, 1) := by decide +kernel
theorem dX3_pass_66 : decode cX3_pass 66 = .ok (.ifCond .ne 81, 3) := by decide +kernel
theorem dX3_pass_69 : decode cX3_pass 69 = .ok (.aload_n 0, 1) := by decide +kernel
theorem dX3_pass_70 : decode cX3_pass 70 = .ok (.getfield 49, 3) := by decide +kernel
theorem dX3_pass_73 : decode cX3_pass 73 = .ok (.iload 4, 2) := by decide +kernel
theorem dX3_pass_75 : decode cX3_pass 75 = .ok (.baload, 1) := by decide +kernel
theorem dX3_pass_76 : decode cX3_pass 76 = .ok (.ifCond .ne 71, 3) := by decide +kernel
theorem dX3_pass_79 : decode cX3_pass 79 = .ok (.aload_n 0, 1) := by decide +kernel
theorem dX3_pass_80 : decode cX3_pass 80 = .ok (.aload_n 0, 1) := by decide +kernel
theorem dX3_pass_81 : decode cX3_pass 81 = .ok (.getfield 34, 3) := by decide +kernel
theorem dX3_pass_84 : decode cX3_pass 84 = .ok (.iload 4, 2) := by decide +kernel
theorem dX3_pass_86 : decode cX3_pass 86 = .ok (.iaload, 1) := by decide +kernel
theorem dX3_pass_87 : decode cX3_pass 87 = .ok (.aload_n 0, 1) := by decide +kernel
theorem dX3_pass_88 : decode cX3_pass 88 = .ok (.getfield 96, 3) := by decide +kernel
theorem dX3_pass_91 : decode cX3_pass 91 = .ok (.invokevirtual 99, 3) := by decide +kernel
theorem dX3_pass_94 : decode cX3_pass 94 = .ok (.ifCond .eq 53, 3) := by decide +kernel
theorem dX3_pass_97 : decode cX3_pass 97 = .ok (.iconst 0, 1) := by decide +kernel
theorem dX3_pass_98 : decode cX3_pass 98 = .ok (.istore 5, 2) := by decide +kernel
theorem dX3_pass_100 : decode cX3_pass 100 = .ok (.iload 5, 2) := by decide +kernel
theorem dX3_pass_102 : decode cX3_pass 102 = .ok (.iconst 2, 1) := by decide +kernel
theorem dX3_pass_103 : decode cX3_pass 103 = .ok (.if_icmp .gt 44, 3) := by decide +kernel
theorem dX3_pass_106 : decode cX3_pass 106 = .ok (.aload_n 0, 1) := by decide +kernel
theorem dX3_pass_107 : decode cX3_pass 107 = .ok (.getfield 53, 3) := by decide +kernel
theorem dX3_pass_110 : decode cX3_pass 110 = .ok (.iconst 3, 1) := by decide +kernel
theorem dX3_pass_111 : decode cX3_pass 111 = .ok (.iload 4, 2) := by decide +kernel
theorem dX3_pass_113 : decode cX3_pass 113 = .ok (.imul, 1) := by decide +kernel
theorem dX3_pass_114 : decode cX3_pass 114 = .ok (.iload 5, 2) := by decide +kernel
theorem dX3_pass_116 : decode cX3_pass 116 = .ok (.iadd, 1) := by decide +kernel
theorem dX3_pass_117 : decode cX3_pass 117 = .ok (.dup2, 1) := by decide +kernel
theorem dX3_pass_118 : decode cX3_pass 118 = .ok (.iaload, 1) := by decide +kernel
theorem dX3_pass_119 : decode cX3_pass 119 = .ok (.aload_n 0, 1) := by decide +kernel
theorem dX3_pass_120 : decode cX3_pass 120 = .ok (.getfield 56, 3) := by decide +kernel
theorem dX3_pass_123 : decode cX3_pass 123 = .ok (.iconst 3, 1) := by decide +kernel
theorem dX3_pass_124 : decode cX3_pass 124 = .ok (.iload 4, 2) := by decide +kernel
theorem dX3_pass_126 : decode cX3_pass 126 = .ok (.imul, 1) := by decide +kernel
theorem dX3_pass_127 : decode cX3_pass 127 = .ok (.iload 5, 2) := by decide +kernel
theorem dX3_pass_129 : decode cX3_pass 129 = .ok (.iadd, 1) := by decide +kernel
theorem dX3_pass_130 : decode cX3_pass 130 = .ok (.baload, 1) := by decide +kernel
theorem dX3_pass_131 : decode cX3_pass 131 = .ok (.ifCond .eq 7, 3) := by decide +kernel
theorem dX3_pass_134 : decode cX3_pass 134 = .ok (.iconst 0, 1) := by decide +kernel
theorem dX3_pass_135 : decode cX3_pass 135 = .ok (.goto 4, 3) := by decide +kernel
theorem dX3_pass_138 : decode cX3_pass 138 = .ok (.iconst 1, 1) := by decide +kernel
theorem dX3_pass_139 : decode cX3_pass 139 = .ok (.iadd, 1) := by decide +kernel
theorem dX3_pass_140 : decode cX3_pass 140 = .ok (.iastore, 1) := by decide +kernel
theorem dX3_pass_141 : decode cX3_pass 141 = .ok (.iinc 5 1, 3) := by decide +kernel
theorem dX3_pass_144 : decode cX3_pass 144 = .ok (.goto (-44), 3) := by decide +kernel
theorem dX3_pass_147 : decode cX3_pass 147 = .ok (.iinc 4 1, 3) := by decide +kernel
theorem dX3_pass_150 : decode cX3_pass 150 = .ok (.goto (-100), 3) := by decide +kernel
theorem dX3_pass_153 : decode cX3_pass 153 = .ok (.aload_n 0, 1) := by decide +kernel
theorem dX3_pass_154 : decode cX3_pass 154 = .ok (.dup, 1) := by decide +kernel
theorem dX3_pass_155 : decode cX3_pass 155 = .ok (.getfield 96, 3) := by decide +kernel
theorem dX3_pass_158 : decode cX3_pass 158 = .ok (.iconst 1, 1) := by decide +kernel
theorem dX3_pass_159 : decode cX3_pass 159 = .ok (.iadd, 1) := by decide +kernel
theorem dX3_pass_160 : decode cX3_pass 160 = .ok (.putfield 96, 3) := by decide +kernel
theorem dX3_pass_163 : decode cX3_pass 163 = .ok (.iinc 3 1, 3) := by decide +kernel
theorem dX3_pass_166 : decode cX3_pass 166 = .ok (.goto (-124), 3) := by decide +kernel
theorem dX3_pass_169 : decode cX3_pass 169 = .ok (.aload_n 0, 1) := by decide +kernel
theorem dX3_pass_170 : decode cX3_pass 170 = .ok (.getfield 96, 3) := by decide +kernel
theorem dX3_pass_173 : decode cX3_pass 173 = .ok (.ireturn, 1) := by decide +kernel
set_option maxRecDepth 20000 in
theorem ggX3_time_X3_told : GoodIn wsX3_time wsX3_told := goodIn_r _ [6, 7, 8, 9, 10, 11, 12, 13, 14, 15, 16, 17, 18, 19, 20, 21, 22, 23, 24, 25, 26, 27, 28] (by decide +kernel) (by decide +kernel)
set_option maxRecDepth 20000 in
theorem gX3_time_X3_told : GoodIn wsX3_time (wsV RX3 103 RX3 yX3_told wsX3_told) := goodIn_app (goodIn_of _ (by decide +kernel)) ggX3_time_X3_told
theorem dX3_time_0 : decode cX3_time 0 = .ok (.aload_n 0, 1) := by decide +kernel
theorem dX3_time_1 : decode cX3_time 1 = .ok (.aload_n 0, 1) := by decide +kernel
theorem dX3_time_2 : decode cX3_time 2 = .ok (.getfield 96, 3) := by decide +kernel
theorem dX3_time_5 : decode cX3_time 5 = .ok (.invokevirtual 103, 3) := by decide +kernel
theorem dX3_time_8 : decode cX3_time 8 = .ok (.ireturn, 1) := by decide +kernel
set_option maxRecDepth 20000 in
theorem ggX3_hours_X3_isSite : GoodIn wsX3_hours wsX3_isSite := goodIn_r _ [4, 5, 6, 3, 7] (by decide +kernel) (by decide +kernel)
set_option maxRecDepth 20000 in
theorem gX3_hours_X3_isSite : GoodIn wsX3_hours (va_wsS RX3 76 yX3_isSite wsX3_isSite) := goodIn_app (goodIn_of _ (by decide +kernel)) ggX3_hours_X3_isSite
set_option maxRecDepth 20000 in
theorem ggX3_hours_X3_in : GoodIn wsX3_hours wsX3_in := goodIn_r _ [7] (by decide +kernel) (by decide +kernel)
set_option maxRecDepth 20000 in
theorem gX3_hours_X3_in : GoodIn wsX3_hours (va_wsS RX3 69 yX3_in wsX3_in) := goodIn_app (goodIn_of _ (by decide +kernel)) ggX3_hours_X3_in
set_option maxRecDepth 20000 in
theorem ggX3_hours_X3_asked_ : GoodIn wsX3_hours wsX3_asked_ := goodIn_r _ [11, 12, 20, 21, 22, 23, 24, 25, 26, 27, 28, 29, 30, 31, 32, 33, 34, 35, 36, 37, 38, 39, 40] (by decide +kernel) (by decide +kernel)
set_option maxRecDepth 20000 in
theorem gX3_hours_X3_asked_ : GoodIn wsX3_hours (wsV RX3 80 RX3 yX3_asked_ wsX3_asked_) := goodIn_app (goodIn_of _ (by decide +kernel)) ggX3_hours_X3_asked_
set_option maxRecDepth 20000 in
theorem ggX3_hours_X3_counts : GoodIn wsX3_hours wsX3_counts := goodIn_r _ [16, 17, 18, 19, 5, 6, 3, 7, 20, 21, 22, 23, 24, 25, 26, 27, 28, 29, 30, 31, 32, 33, 34, 35, 36, 37, 38, 39, 40] (by decide +kernel) (by decide +kernel)
set_option maxRecDepth 20000 in
theorem gX3_hours_X3_counts : GoodIn wsX3_hours (wsV RX3 99 RX3 yX3_counts wsX3_counts) := goodIn_app (goodIn_of _ (by decide +kernel)) ggX3_hours_X3_counts
theorem dX3_hours_0 : decode cX3_hours 0 = .ok (.iconst 0, 1) := by decide +kernel
theorem dX3_hours_1 : decode cX3_hours 1 = .ok (.istore 4, 2) := by decide +kernel
theorem dX3_hours_3 : decode cX3_hours 3 = .ok (.aload_n 0, 1) := by decide +kernel
theorem dX3_hours_4 : decode cX3_hours 4 = .ok (.iload_n 1, 1) := by decide +kernel
theorem dX3_hours_5 : decode cX3_hours 5 = .ok (.invokestatic 76, 3) := by decide +kernel
theorem dX3_hours_8 : decode cX3_hours 8 = .ok (.iload_n 2, 1) := by decide +kernel
theorem dX3_hours_9 : decode cX3_hours 9 = .ok (.iconst 0, 1) := by decide +kernel
theorem dX3_hours_10 : decode cX3_hours 10 = .ok (.sipush 24000, 3) := by decide +kernel
theorem dX3_hours_13 : decode cX3_hours 13 = .ok (.invokestatic 69, 3) := by decide +kernel
theorem dX3_hours_16 : decode cX3_hours 16 = .ok (.ifCond .eq 18, 3) := by decide +kernel
theorem dX3_hours_19 : decode cX3_hours 19 = .ok (.iload_n 3, 1) := by decide +kernel
theorem dX3_hours_20 : decode cX3_hours 20 = .ok (.iload_n 2, 1) := by decide +kernel
theorem dX3_hours_21 : decode cX3_hours 21 = .ok (.sipush 24000, 3) := by decide +kernel
theorem dX3_hours_24 : decode cX3_hours 24 = .ok (.invokestatic 69, 3) := by decide +kernel
theorem dX3_hours_27 : decode cX3_hours 27 = .ok (.ifCond .eq 7, 3) := by decide +kernel
theorem dX3_hours_30 : decode cX3_hours 30 = .ok (.iconst 1, 1) := by decide +kernel
theorem dX3_hours_31 : decode cX3_hours 31 = .ok (.goto 4, 3) := by decide +kernel
theorem dX3_hours_34 : decode cX3_hours 34 = .ok (.iconst 0, 1) := by decide +kernel
theorem dX3_hours_35 : decode cX3_hours 35 = .ok (.invokevirtual 80, 3) := by decide +kernel
theorem dX3_hours_38 : decode cX3_hours 38 = .ok (.istore 5, 2) := by decide +kernel
theorem dX3_hours_40 : decode cX3_hours 40 = .ok (.iload_n 2, 1) := by decide +kernel
theorem dX3_hours_41 : decode cX3_hours 41 = .ok (.istore 6, 2) := by decide +kernel
theorem dX3_hours_43 : decode cX3_hours 43 = .ok (.iload 5, 2) := by decide +kernel
theorem dX3_hours_45 : decode cX3_hours 45 = .ok (.ifCond .eq 35, 3) := by decide +kernel
theorem dX3_hours_48 : decode cX3_hours 48 = .ok (.iload 6, 2) := by decide +kernel
theorem dX3_hours_50 : decode cX3_hours 50 = .ok (.iload_n 3, 1) := by decide +kernel
theorem dX3_hours_51 : decode cX3_hours 51 = .ok (.if_icmp .ge 29, 3) := by decide +kernel
theorem dX3_hours_54 : decode cX3_hours 54 = .ok (.iload 4, 2) := by decide +kernel
theorem dX3_hours_56 : decode cX3_hours 56 = .ok (.aload_n 0, 1) := by decide +kernel
theorem dX3_hours_57 : decode cX3_hours 57 = .ok (.iload_n 1, 1) := by decide +kernel
theorem dX3_hours_58 : decode cX3_hours 58 = .ok (.iload 6, 2) := by decide +kernel
theorem dX3_hours_60 : decode cX3_hours 60 = .ok (.invokevirtual 99, 3) := by decide +kernel
theorem dX3_hours_63 : decode cX3_hours 63 = .ok (.ifCond .eq 7, 3) := by decide +kernel
theorem dX3_hours_66 : decode cX3_hours 66 = .ok (.iconst 1, 1) := by decide +kernel
theorem dX3_hours_67 : decode cX3_hours 67 = .ok (.goto 4, 3) := by decide +kernel
theorem dX3_hours_70 : decode cX3_hours 70 = .ok (.iconst 0, 1) := by decide +kernel
theorem dX3_hours_71 : decode cX3_hours 71 = .ok (.iadd, 1) := by decide +kernel
theorem dX3_hours_72 : decode cX3_hours 72 = .ok (.istore 4, 2) := by decide +kernel
theorem dX3_hours_74 : decode cX3_hours 74 = .ok (.iinc 6 1, 3) := by decide +kernel
theorem dX3_hours_77 : decode cX3_hours 77 = .ok (.goto (-34), 3) := by decide +kernel
theorem dX3_hours_80 : decode cX3_hours 80 = .ok (.iload 4, 2) := by decide +kernel
theorem dX3_hours_82 : decode cX3_hours 82 = .ok (.ireturn, 1) := by decide +kernel
set_option maxRecDepth 20000 in
theorem ggX3_hoursOneByOne_X3_hours : GoodIn wsX3_hoursOneByOne wsX3_hours := goodIn_r _ [5, 6, 7, 4, 8, 9, 10, 11, 12, 13, 14, 15, 16, 17, 18, 19, 20, 21, 22, 23, 24, 25, 26, 27, 28, 29, 30, 31, 32, 33, 34, 35, 36, 37, 38, 39, 40, 41, 42, 43, 44] (by decide +kernel) (by decide +kernel)
set_option maxRecDepth 20000 in
theorem gX3_hoursOneByOne_X3_hours : GoodIn wsX3_hoursOneByOne (wsV RX3 107 RX3 yX3_hours wsX3_hours) := goodIn_app (goodIn_of _ (by decide +kernel)) ggX3_hoursOneByOne_X3_hours
theorem dX3_hoursOneByOne_0 : decode cX3_hoursOneByOne 0 = .ok (.aload_n 0, 1) := by decide +kernel
theorem dX3_hoursOneByOne_1 : decode cX3_hoursOneByOne 1 = .ok (.iload_n 1, 1) := by decide +kernel
theorem dX3_hoursOneByOne_2 : decode cX3_hoursOneByOne 2 = .ok (.iload_n 2, 1) := by decide +kernel
theorem dX3_hoursOneByOne_3 : decode cX3_hoursOneByOne 3 = .ok (.iload_n 3, 1) := by decide +kernel
theorem dX3_hoursOneByOne_4 : decode cX3_hoursOneByOne 4 = .ok (.invokevirtual 107, 3) := by decide +kernel
theorem dX3_hoursOneByOne_7 : decode cX3_hoursOneByOne 7 = .ok (.ireturn, 1) := by decide +kernel
set_option maxRecDepth 20000 in
theorem ggX3_open_X3_isSite : GoodIn wsX3_open wsX3_isSite := goodIn_r _ [10, 11, 12, 9, 13] (by decide +kernel) (by decide +kernel)
set_option maxRecDepth 20000 in
theorem gX3_open_X3_isSite : GoodIn wsX3_open (va_wsS RX3 76 yX3_isSite wsX3_isSite) := goodIn_app (goodIn_of _ (by decide +kernel)) ggX3_open_X3_isSite
set_option maxRecDepth 20000 in
theorem ggX3_open_X3_isKind : GoodIn wsX3_open wsX3_isKind := goodIn_r _ [16, 11, 12, 9, 13] (by decide +kernel) (by decide +kernel)
set_option maxRecDepth 20000 in
theorem gX3_open_X3_isKind : GoodIn wsX3_open (va_wsS RX3 90 yX3_isKind wsX3_isKind) := goodIn_app (goodIn_of _ (by decide +kernel)) ggX3_open_X3_isKind
set_option maxRecDepth 20000 in
theorem ggX3_open_X3_in : GoodIn wsX3_open wsX3_in := goodIn_r _ [13] (by decide +kernel) (by decide +kernel)
set_option maxRecDepth 20000 in
theorem gX3_open_X3_in : GoodIn wsX3_open (va_wsS RX3 69 yX3_in wsX3_in) := goodIn_app (goodIn_of _ (by decide +kernel)) ggX3_open_X3_in
set_option maxRecDepth 20000 in
theorem ggX3_open_X3_asked__ : GoodIn wsX3_open wsX3_asked__ := goodIn_r _ [20, 21, 22, 23, 24, 25, 26, 27, 28, 29, 30, 31, 32, 33, 34, 35, 36, 37, 38, 39, 40, 41, 42] (by decide +kernel) (by decide +kernel)
set_option maxRecDepth 20000 in
theorem gX3_open_X3_asked__ : GoodIn wsX3_open (wsV RX3 84 RX3 yX3_asked__ wsX3_asked__) := goodIn_app (goodIn_of _ (by decide +kernel)) ggX3_open_X3_asked__
theorem dX3_open_0 : decode cX3_open 0 = .ok (.aload_n 0, 1) := by decide +kernel
theorem dX3_open_1 : decode cX3_open 1 = .ok (.iload_n 1, 1) := by decide +kernel
theorem dX3_open_2 : decode cX3_open 2 = .ok (.invokestatic 76, 3) := by decide +kernel
theorem dX3_open_5 : decode cX3_open 5 = .ok (.ifCond .eq 14, 3) := by decide +kernel
theorem dX3_open_8 : decode cX3_open 8 = .ok (.iload_n 2, 1) := by decide +kernel
theorem dX3_open_9 : decode cX3_open 9 = .ok (.invokestatic 90, 3) := by decide +kernel
theorem dX3_open_12 : decode cX3_open 12 = .ok (.ifCond .eq 7, 3) := by decide +kernel
theorem dX3_open_15 : decode cX3_open 15 = .ok (.iconst 1, 1) := by decide +kernel
theorem dX3_open_16 : decode cX3_open 16 = .ok (.goto 4, 3) := by decide +kernel
theorem dX3_open_19 : decode cX3_open 19 = .ok (.iconst 0, 1) := by decide +kernel
theorem dX3_open_20 : decode cX3_open 20 = .ok (.iload_n 3, 1) := by decide +kernel
theorem dX3_open_21 : decode cX3_open 21 = .ok (.iconst 0, 1) := by decide +kernel
theorem dX3_open_22 : decode cX3_open 22 = .ok (.iconst 2, 1) := by decide +kernel
theorem dX3_open_23 : decode cX3_open 23 = .ok (.invokestatic 69, 3) := by decide +kernel
theorem dX3_open_26 : decode cX3_open 26 = .ok (.aload_n 0, 1) := by decide +kernel
theorem dX3_open_27 : decode cX3_open 27 = .ok (.getfield 73, 3) := by decide +kernel
theorem dX3_open_30 : decode cX3_open 30 = .ok (.bipush 40, 2) := by decide +kernel
theorem dX3_open_32 : decode cX3_open 32 = .ok (.if_icmp .ge 7, 3) := by decide +kernel
theorem dX3_open_35 : decode cX3_open 35 = .ok (.iconst 1, 1) := by decide +kernel
theorem dX3_open_36 : decode cX3_open 36 = .ok (.goto 4, 3) := by decide +kernel
theorem dX3_open_39 : decode cX3_open 39 = .ok (.iconst 0, 1) := by decide +kernel
theorem dX3_open_40 : decode cX3_open 40 = .ok (.invokevirtual 84, 3) := by decide +kernel
theorem dX3_open_43 : decode cX3_open 43 = .ok (.ifCond .ne 5, 3) := by decide +kernel
theorem dX3_open_46 : decode cX3_open 46 = .ok (.iconst 0, 1) := by decide +kernel
theorem dX3_open_47 : decode cX3_open 47 = .ok (.ireturn, 1) := by decide +kernel
theorem dX3_open_48 : decode cX3_open 48 = .ok (.aload_n 0, 1) := by decide +kernel
theorem dX3_open_49 : decode cX3_open 49 = .ok (.getfield 34, 3) := by decide +kernel
theorem dX3_open_52 : decode cX3_open 52 = .ok (.aload_n 0, 1) := by decide +kernel
theorem dX3_open_53 : decode cX3_open 53 = .ok (.getfield 73, 3) := by decide +kernel
theorem dX3_open_56 : decode cX3_open 56 = .ok (.iload_n 1, 1) := by decide +kernel
theorem dX3_open_57 : decode cX3_open 57 = .ok (.iastore, 1) := by decide +kernel
theorem dX3_open_58 : decode cX3_open 58 = .ok (.aload_n 0, 1) := by decide +kernel
theorem dX3_open_59 : decode cX3_open 59 = .ok (.getfield 37, 3) := by decide +kernel
theorem dX3_open_62 : decode cX3_open 62 = .ok (.aload_n 0, 1) := by decide +kernel
theorem dX3_open_63 : decode cX3_open 63 = .ok (.getfield 73, 3) := by decide +kernel
theorem dX3_open_66 : decode cX3_open 66 = .ok (.iload_n 2, 1) := by decide +kernel
theorem dX3_open_67 : decode cX3_open 67 = .ok (.iastore, 1) := by decide +kernel
theorem dX3_open_68 : decode cX3_open 68 = .ok (.aload_n 0, 1) := by decide +kernel
theorem dX3_open_69 : decode cX3_open 69 = .ok (.getfield 40, 3) := by decide +kernel
theorem dX3_open_72 : decode cX3_open 72 = .ok (.aload_n 0, 1) := by decide +kernel
theorem dX3_open_73 : decode cX3_open 73 = .ok (.getfield 73, 3) := by decide +kernel
theorem dX3_open_76 : decode cX3_open 76 = .ok (.iload_n 3, 1) := by decide +kernel
theorem dX3_open_77 : decode cX3_open 77 = .ok (.iastore, 1) := by decide +kernel
theorem dX3_open_78 : decode cX3_open 78 = .ok (.aload_n 0, 1) := by decide +kernel
theorem dX3_open_79 : decode cX3_open 79 = .ok (.getfield 43, 3) := by decide +kernel
theorem dX3_open_82 : decode cX3_open 82 = .ok (.aload_n 0, 1) := by decide +kernel
theorem dX3_open_83 : decode cX3_open 83 = .ok (.getfield 73, 3) := by decide +kernel
theorem dX3_open_86 : decode cX3_open 86 = .ok (.iconst 0, 1) := by decide +kernel
theorem dX3_open_87 : decode cX3_open 87 = .ok (.iastore, 1) := by decide +kernel
theorem dX3_open_88 : decode cX3_open 88 = .ok (.aload_n 0, 1) := by decide +kernel
theorem dX3_open_89 : decode cX3_open 89 = .ok (.getfield 46, 3) := by decide +kernel
theorem dX3_open_92 : decode cX3_open 92 = .ok (.aload_n 0, 1) := by decide +kernel
theorem dX3_open_93 : decode cX3_open 93 = .ok (.getfield 73, 3) := by decide +kernel
theorem dX3_open_96 : decode cX3_open 96 = .ok (.iconst (-1), 1) := by decide +kernel
theorem dX3_open_97 : decode cX3_open 97 = .ok (.iastore, 1) := by decide +kernel
theorem dX3_open_98 : decode cX3_open 98 = .ok (.aload_n 0, 1) := by decide +kernel
theorem dX3_open_99 : decode cX3_open 99 = .ok (.dup, 1) := by decide +kernel
theorem dX3_open_100 : decode cX3_open 100 = .ok (.getfield 73, 3) := by decide +kernel
theorem dX3_open_103 : decode cX3_open 103 = .ok (.iconst 1, 1) := by decide +kernel
theorem dX3_open_104 : decode cX3_open 104 = .ok (.iadd, 1) := by decide +kernel
theorem dX3_open_105 : decode cX3_open 105 = .ok (.putfield 73, 3) := by decide +kernel
theorem dX3_open_108 : decode cX3_open 108 = .ok (.aload_n 0, 1) := by decide +kernel
theorem dX3_open_109 : decode cX3_open 109 = .ok (.getfield 73, 3) := by decide +kernel
theorem dX3_open_112 : decode cX3_open 112 = .ok (.iconst 1, 1) := by decide +kernel
theorem dX3_open_113 : decode cX3_open 113 = .ok (.isub, 1) := by decide +kernel
theorem dX3_open_114 : decode cX3_open 114 = .ok (.ireturn, 1) := by decide +kernel
theorem dX3_missed_0 : decode cX3_missed 0 = .ok (.aload_n 0, 1) := by decide +kernel
theorem dX3_missed_1 : decode cX3_missed 1 = .ok (.getfield 53, 3) := by decide +kernel
theorem dX3_missed_4 : decode cX3_missed 4 = .ok (.iconst 3, 1) := by decide +kernel
theorem dX3_missed_5 : decode cX3_missed 5 = .ok (.iload_n 1, 1) := by decide +kernel
theorem dX3_missed_6 : decode cX3_missed 6 = .ok (.imul, 1) := by decide +kernel
theorem dX3_missed_7 : decode cX3_missed 7 = .ok (.iload_n 2, 1) := by decide +kernel
theorem dX3_missed_8 : decode cX3_missed 8 = .ok (.iadd, 1) := by decide +kernel
theorem dX3_missed_9 : decode cX3_missed 9 = .ok (.iaload, 1) := by decide +kernel
theorem dX3_missed_10 : decode cX3_missed 10 = .ok (.aload_n 0, 1) := by decide +kernel
theorem dX3_missed_11 : decode cX3_missed 11 = .ok (.getfield 31, 3) := by decide +kernel
theorem dX3_missed_14 : decode cX3_missed 14 = .ok (.iconst 3, 1) := by decide +kernel
theorem dX3_missed_15 : decode cX3_missed 15 = .ok (.aload_n 0, 1) := by decide +kernel
theorem dX3_missed_16 : decode cX3_missed 16 = .ok (.getfield 40, 3) := by decide +kernel
theorem dX3_missed_19 : decode cX3_missed 19 = .ok (.iload_n 1, 1) := by decide +kernel
theorem dX3_missed_20 : decode cX3_missed 20 = .ok (.iaload, 1) := by decide +kernel
theorem dX3_missed_21 : decode cX3_missed 21 = .ok (.imul, 1) := by decide +kernel
theorem dX3_missed_22 : decode cX3_missed 22 = .ok (.iload_n 2, 1) := by decide +kernel
theorem dX3_missed_23 : decode cX3_missed 23 = .ok (.iadd, 1) := by decide +kernel
theorem dX3_missed_24 : decode cX3_missed 24 = .ok (.iaload, 1) := by decide +kernel
theorem dX3_missed_25 : decode cX3_missed 25 = .ok (.if_icmp .le 7, 3) := by decide +kernel
theorem dX3_missed_28 : decode cX3_missed 28 = .ok (.iconst 1, 1) := by decide +kernel
theorem dX3_missed_29 : decode cX3_missed 29 = .ok (.goto 4, 3) := by decide +kernel
theorem dX3_missed_32 : decode cX3_missed 32 = .ok (.iconst 0, 1) := by decide +kernel
theorem dX3_missed_33 : decode cX3_missed 33 = .ok (.ireturn, 1) := by decide +kernel
set_option maxRecDepth 20000 in
theorem ggX3_missedOf_X3_missed : GoodIn wsX3_missedOf wsX3_missed := goodIn_r _ [6, 7, 8, 9, 10, 11, 12, 13, 14, 15, 16, 17, 18, 19, 20, 21, 22, 23, 24, 25, 26, 27, 28, 29, 30] (by decide +kernel) (by decide +kernel)
set_option maxRecDepth 20000 in
theorem gX3_missedOf_X3_missed : GoodIn wsX3_missedOf (wsV RX3 111 RX3 yX3_missed wsX3_missed) := goodIn_app (goodIn_of _ (by decide +kernel)) ggX3_missedOf_X3_missed
theorem dX3_missedOf_0 : decode cX3_missedOf 0 = .ok (.iconst 0, 1) := by decide +kernel
theorem dX3_missedOf_1 : decode cX3_missedOf 1 = .ok (.istore_n 2, 1) := by decide +kernel
theorem dX3_missedOf_2 : decode cX3_missedOf 2 = .ok (.iconst 0, 1) := by decide +kernel
theorem dX3_missedOf_3 : decode cX3_missedOf 3 = .ok (.istore_n 3, 1) := by decide +kernel
theorem dX3_missedOf_4 : decode cX3_missedOf 4 = .ok (.iload_n 3, 1) := by decide +kernel
theorem dX3_missedOf_5 : decode cX3_missedOf 5 = .ok (.iconst 2, 1) := by decide +kernel
theorem dX3_missedOf_6 : decode cX3_missedOf 6 = .ok (.if_icmp .gt 39, 3) := by decide +kernel
theorem dX3_missedOf_9 : decode cX3_missedOf 9 = .ok (.iload_n 2, 1) := by decide +kernel
theorem dX3_missedOf_10 : decode cX3_missedOf 10 = .ok (.aload_n 0, 1) := by decide +kernel
theorem dX3_missedOf_11 : decode cX3_missedOf 11 = .ok (.getfield 56, 3) := by decide +kernel
theorem dX3_missedOf_14 : decode cX3_missedOf 14 = .ok (.iconst 3, 1) := by decide +kernel
theorem dX3_missedOf_15 : decode cX3_missedOf 15 = .ok (.iload_n 1, 1) := by decide +kernel
theorem dX3_missedOf_16 : decode cX3_missedOf 16 = .ok (.imul, 1) := by decide +kernel
theorem dX3_missedOf_17 : decode cX3_missedOf 17 = .ok (.iload_n 3, 1) := by decide +kernel
theorem dX3_missedOf_18 : decode cX3_missedOf 18 = .ok (.iadd, 1) := by decide +kernel
theorem dX3_missedOf_19 : decode cX3_missedOf 19 = .ok (.baload, 1) := by decide +kernel
theorem dX3_missedOf_20 : decode cX3_missedOf 20 = .ok (.ifCond .eq 16, 3) := by decide +kernel
theorem dX3_missedOf_23 : decode cX3_missedOf 23 = .ok (.aload_n 0, 1) := by decide +kernel
theorem dX3_missedOf_24 : decode cX3_missedOf 24 = .ok (.iload_n 1, 1) := by decide +kernel
theorem dX3_missedOf_25 : decode cX3_missedOf 25 = .ok (.iload_n 3, 1) := by decide +kernel
theorem dX3_missedOf_26 : decode cX3_missedOf 26 = .ok (.invokevirtual 111, 3) := by decide +kernel
theorem dX3_missedOf_29 : decode cX3_missedOf 29 = .ok (.ifCond .eq 7, 3) := by decide +kernel
theorem dX3_missedOf_32 : decode cX3_missedOf 32 = .ok (.iconst 1, 1) := by decide +kernel
theorem dX3_missedOf_33 : decode cX3_missedOf 33 = .ok (.goto 4, 3) := by decide +kernel
theorem dX3_missedOf_36 : decode cX3_missedOf 36 = .ok (.iconst 0, 1) := by decide +kernel
theorem dX3_missedOf_37 : decode cX3_missedOf 37 = .ok (.iadd, 1) := by decide +kernel
theorem dX3_missedOf_38 : decode cX3_missedOf 38 = .ok (.istore_n 2, 1) := by decide +kernel
theorem dX3_missedOf_39 : decode cX3_missedOf 39 = .ok (.iinc 3 1, 3) := by decide +kernel
theorem dX3_missedOf_42 : decode cX3_missedOf 42 = .ok (.goto (-38), 3) := by decide +kernel
theorem dX3_missedOf_45 : decode cX3_missedOf 45 = .ok (.iload_n 2, 1) := by decide +kernel
theorem dX3_missedOf_46 : decode cX3_missedOf 46 = .ok (.ireturn, 1) := by decide +kernel
set_option maxRecDepth 20000 in
theorem ggX3_reach_X3_isCase : GoodIn wsX3_reach wsX3_isCase := goodIn_r _ [13, 3, 14, 15, 12, 16, 41, 42, 43, 44, 45, 46, 47, 48, 49, 50, 51, 52, 53, 54, 55, 56, 57, 58, 59, 60, 61] (by decide +kernel) (by decide +kernel)
set_option maxRecDepth 20000 in
theorem gX3_reach_X3_isCase : GoodIn wsX3_reach (wsV RX3 114 RX3 yX3_isCase wsX3_isCase) := goodIn_app (goodIn_of _ (by decide +kernel)) ggX3_reach_X3_isCase
set_option maxRecDepth 20000 in
theorem ggX3_reach_X3_in : GoodIn wsX3_reach wsX3_in := goodIn_r _ [16] (by decide +kernel) (by decide +kernel)
set_option maxRecDepth 20000 in
theorem gX3_reach_X3_in : GoodIn wsX3_reach (va_wsS RX3 69 yX3_in wsX3_in) := goodIn_app (goodIn_of _ (by decide +kernel)) ggX3_reach_X3_in
set_option maxRecDepth 20000 in
theorem ggX3_reach_X3_asked__ : GoodIn wsX3_reach wsX3_asked__ := goodIn_r _ [20, 21, 41, 42, 43, 44, 45, 46, 47, 48, 49, 50, 51, 52, 53, 54, 55, 56, 57, 58, 59, 60, 61] (by decide +kernel) (by decide +kernel)
set_option maxRecDepth 20000 in
theorem gX3_reach_X3_asked__ : GoodIn wsX3_reach (wsV RX3 84 RX3 yX3_asked__ wsX3_asked__) := goodIn_app (goodIn_of _ (by decide +kernel)) ggX3_reach_X3_asked__
set_option maxRecDepth 20000 in
theorem ggX3_reach_X3_missedOf : GoodIn wsX3_reach wsX3_missedOf := goodIn_r _ [25, 2, 26, 27, 28, 12, 29, 30, 31, 32, 41, 42, 43, 44, 45, 46, 47, 48, 49, 50, 51, 52, 53, 54, 55, 56, 57, 58, 59, 60, 61] (by decide +kernel) (by decide +kernel)
set_option maxRecDepth 20000 in
theorem gX3_reach_X3_missedOf : GoodIn wsX3_reach (wsV RX3 117 RX3 yX3_missedOf wsX3_missedOf) := goodIn_app (goodIn_of _ (by decide +kernel)) ggX3_reach_X3_missedOf
set_option maxRecDepth 20000 in
theorem ggX3_reach_X3_covered : GoodIn wsX3_reach wsX3_covered := goodIn_r _ [36, 37, 38, 39, 40, 14, 15, 12, 16, 41, 42, 43, 44, 45, 46, 47, 48, 49, 50, 51, 52, 53, 54, 55, 56, 57, 58, 59, 60, 61] (by decide +kernel) (by decide +kernel)
set_option maxRecDepth 20000 in
theorem gX3_reach_X3_covered : GoodIn wsX3_reach (wsV RX3 93 RX3 yX3_covered wsX3_covered) := goodIn_app (goodIn_of _ (by decide +kernel)) ggX3_reach_X3_covered
theorem dX3_reach_0 : decode cX3_reach 0 = .ok (.aload_n 0, 1) := by decide +kernel
theorem dX3_reach_1 : decode cX3_reach 1 = .ok (.iload_n 1, 1) := by decide +kernel
theorem dX3_reach_2 : decode cX3_reach 2 = .ok (.invokevirtual 114, 3) := by decide +kernel
theorem dX3_reach_5 : decode cX3_reach 5 = .ok (.istore_n 3, 1) := by decide +kernel
theorem dX3_reach_6 : decode cX3_reach 6 = .ok (.iload_n 2, 1) := by decide +kernel
theorem dX3_reach_7 : decode cX3_reach 7 = .ok (.iconst 0, 1) := by decide +kernel
theorem dX3_reach_8 : decode cX3_reach 8 = .ok (.iconst 2, 1) := by decide +kernel
theorem dX3_reach_9 : decode cX3_reach 9 = .ok (.invokestatic 69, 3) := by decide +kernel
theorem dX3_reach_12 : decode cX3_reach 12 = .ok (.istore 4, 2) := by decide +kernel
theorem dX3_reach_14 : decode cX3_reach 14 = .ok (.aload_n 0, 1) := by decide +kernel
theorem dX3_reach_15 : decode cX3_reach 15 = .ok (.iload_n 3, 1) := by decide +kernel
theorem dX3_reach_16 : decode cX3_reach 16 = .ok (.iload 4, 2) := by decide +kernel
theorem dX3_reach_18 : decode cX3_reach 18 = .ok (.iload_n 3, 1) := by decide +kernel
theorem dX3_reach_19 : decode cX3_reach 19 = .ok (.ifCond .eq 34, 3) := by decide +kernel
theorem dX3_reach_22 : decode cX3_reach 22 = .ok (.iload 4, 2) := by decide +kernel
theorem dX3_reach_24 : decode cX3_reach 24 = .ok (.ifCond .eq 29, 3) := by decide +kernel
theorem dX3_reach_27 : decode cX3_reach 27 = .ok (.aload_n 0, 1) := by decide +kernel
theorem dX3_reach_28 : decode cX3_reach 28 = .ok (.getfield 43, 3) := by decide +kernel
theorem dX3_reach_31 : decode cX3_reach 31 = .ok (.iload_n 1, 1) := by decide +kernel
theorem dX3_reach_32 : decode cX3_reach 32 = .ok (.iaload, 1) := by decide +kernel
theorem dX3_reach_33 : decode cX3_reach 33 = .ok (.ifCond .ne 20, 3) := by decide +kernel
theorem dX3_reach_36 : decode cX3_reach 36 = .ok (.aload_n 0, 1) := by decide +kernel
theorem dX3_reach_37 : decode cX3_reach 37 = .ok (.getfield 56, 3) := by decide +kernel
theorem dX3_reach_40 : decode cX3_reach 40 = .ok (.iconst 3, 1) := by decide +kernel
theorem dX3_reach_41 : decode cX3_reach 41 = .ok (.iload_n 1, 1) := by decide +kernel
theorem dX3_reach_42 : decode cX3_reach 42 = .ok (.imul, 1) := by decide +kernel
theorem dX3_reach_43 : decode cX3_reach 43 = .ok (.iload_n 2, 1) := by decide +kernel
theorem dX3_reach_44 : decode cX3_reach 44 = .ok (.iadd, 1) := by decide +kernel
theorem dX3_reach_45 : decode cX3_reach 45 = .ok (.baload, 1) := by decide +kernel
theorem dX3_reach_46 : decode cX3_reach 46 = .ok (.ifCond .ne 7, 3) := by decide +kernel
theorem dX3_reach_49 : decode cX3_reach 49 = .ok (.iconst 1, 1) := by decide +kernel
theorem dX3_reach_50 : decode cX3_reach 50 = .ok (.goto 4, 3) := by decide +kernel
theorem dX3_reach_53 : decode cX3_reach 53 = .ok (.iconst 0, 1) := by decide +kernel
theorem dX3_reach_54 : decode cX3_reach 54 = .ok (.invokevirtual 84, 3) := by decide +kernel
theorem dX3_reach_57 : decode cX3_reach 57 = .ok (.ifCond .ne 5, 3) := by decide +kernel
theorem dX3_reach_60 : decode cX3_reach 60 = .ok (.iconst 0, 1) := by decide +kernel
theorem dX3_reach_61 : decode cX3_reach 61 = .ok (.ireturn, 1) := by decide +kernel
theorem dX3_reach_62 : decode cX3_reach 62 = .ok (.iconst 0, 1) := by decide +kernel
theorem dX3_reach_63 : decode cX3_reach 63 = .ok (.istore 5, 2) := by decide +kernel
theorem dX3_reach_65 : decode cX3_reach 65 = .ok (.iload 5, 2) := by decide +kernel
theorem dX3_reach_67 : decode cX3_reach 67 = .ok (.iload_n 2, 1) := by decide +kernel
theorem dX3_reach_68 : decode cX3_reach 68 = .ok (.if_icmp .gt 21, 3) := by decide +kernel
theorem dX3_reach_71 : decode cX3_reach 71 = .ok (.aload_n 0, 1) := by decide +kernel
theorem dX3_reach_72 : decode cX3_reach 72 = .ok (.getfield 56, 3) := by decide +kernel
theorem dX3_reach_75 : decode cX3_reach 75 = .ok (.iconst 3, 1) := by decide +kernel
theorem dX3_reach_76 : decode cX3_reach 76 = .ok (.iload_n 1, 1) := by decide +kernel
theorem dX3_reach_77 : decode cX3_reach 77 = .ok (.imul, 1) := by decide +kernel
theorem dX3_reach_78 : decode cX3_reach 78 = .ok (.iload 5, 2) := by decide +kernel
theorem dX3_reach_80 : decode cX3_reach 80 = .ok (.iadd, 1) := by decide +kernel
theorem dX3_reach_81 : decode cX3_reach 81 = .ok (.iconst 1, 1) := by decide +kernel
theorem dX3_reach_82 : decode cX3_reach 82 = .ok (.bastore, 1) := by decide +kernel
theorem dX3_reach_83 : decode cX3_reach 83 = .ok (.iinc 5 1, 3) := by decide +kernel
theorem dX3_reach_86 : decode cX3_reach 86 = .ok (.goto (-21), 3) := by decide +kernel
theorem dX3_reach_89 : decode cX3_reach 89 = .ok (.aload_n 0, 1) := by decide +kernel
theorem dX3_reach_90 : decode cX3_reach 90 = .ok (.iload_n 1, 1) := by decide +kernel
theorem dX3_reach_91 : decode cX3_reach 91 = .ok (.invokevirtual 117, 3) := by decide +kernel
theorem dX3_reach_94 : decode cX3_reach 94 = .ok (.istore 5, 2) := by decide +kernel
theorem dX3_reach_96 : decode cX3_reach 96 = .ok (.iload_n 2, 1) := by decide +kernel
theorem dX3_reach_97 : decode cX3_reach 97 = .ok (.iconst 2, 1) := by decide +kernel
theorem dX3_reach_98 : decode cX3_reach 98 = .ok (.if_icmp .ne 114, 3) := by decide +kernel
theorem dX3_reach_101 : decode cX3_reach 101 = .ok (.aload_n 0, 1) := by decide +kernel
theorem dX3_reach_102 : decode cX3_reach 102 = .ok (.getfield 43, 3) := by decide +kernel
theorem dX3_reach_105 : decode cX3_reach 105 = .ok (.iload_n 1, 1) := by decide +kernel
theorem dX3_reach_106 : decode cX3_reach 106 = .ok (.iconst 2, 1) := by decide +kernel
theorem dX3_reach_107 : decode cX3_reach 107 = .ok (.iastore, 1) := by decide +kernel
theorem dX3_reach_108 : decode cX3_reach 108 = .ok (.iconst 0, 1) := by decide +kernel
theorem dX3_reach_109 : decode cX3_reach 109 = .ok (.istore 6, 2) := by decide +kernel
theorem dX3_reach_111 : decode cX3_reach 111 = .ok (.iload 6, 2) := by decide +kernel
theorem dX3_reach_113 : decode cX3_reach 113 = .ok (.aload_n 0, 1) := by decide +kernel
theorem dX3_reach_114 : decode cX3_reach 114 = .ok (.getfield 73, 3) := by decide +kernel
theorem dX3_reach_117 : decode cX3_reach 117 = .ok (.if_icmp .ge 49, 3) := by decide +kernel
theorem dX3_reach_120 : decode cX3_reach 120 = .ok (.aload_n 0, 1) := by decide +kernel
theorem dX3_reach_121 : decode cX3_reach 121 = .ok (.getfield 43, 3) := by decide +kernel
theorem dX3_reach_124 : decode cX3_reach 124 = .ok (.iload 6, 2) := by decide +kernel
theorem dX3_reach_126 : decode cX3_reach 126 = .ok (.aload_n 0, 1) := by decide +kernel
theorem dX3_reach_127 : decode cX3_reach 127 = .ok (.getfield 43, 3) := by decide +kernel
theorem dX3_reach_130 : decode cX3_reach 130 = .ok (.iload 6, 2) := by decide +kernel
theorem dX3_reach_132 : decode cX3_reach 132 = .ok (.iaload, 1) := by decide +kernel
theorem dX3_reach_133 : decode cX3_reach 133 = .ok (.iconst 1, 1) := by decide +kernel
theorem dX3_reach_134 : decode cX3_reach 134 = .ok (.if_icmp .ne 18, 3) := by decide +kernel
theorem dX3_reach_137 : decode cX3_reach 137 = .ok (.aload_n 0, 1) := by decide +kernel
theorem dX3_reach_138 : decode cX3_reach 138 = .ok (.getfield 46, 3) := by decide +kernel
theorem dX3_reach_141 : decode cX3_reach 141 = .ok (.iload 6, 2) := by decide +kernel
theorem dX3_reach_143 : decode cX3_reach 143 = .ok (.iaload, 1) := by decide +kernel
theorem dX3_reach_144 : decode cX3_reach 144 = .ok (.iload_n 1, 1) := by decide +kernel
theorem dX3_reach_145 : decode cX3_reach 145 = .ok (.if_icmp .ne 7, 3) := by decide +kernel
theorem dX3_reach_148 : decode cX3_reach 148 = .ok (.iconst 2, 1) := by decide +kernel
theorem dX3_reach_149 : decode cX3_reach 149 = .ok (.goto 10, 3) := by decide +kernel
theorem dX3_reach_152 : decode cX3_reach 152 = .ok (.aload_n 0, 1) := by decide +kernel
theorem dX3_reach_153 : decode cX3_reach 153 = .ok (.getfield 43, 3) := by decide +kernel
theorem dX3_reach_156 : decode cX3_reach 156 = .ok (.iload 6, 2) := by decide +kernel
theorem dX3_reach_158 : decode cX3_reach 158 = .ok (.iaload, 1) := by decide +kernel
theorem dX3_reach_159 : decode cX3_reach 159 = .ok (.iastore, 1) := by decide +kernel
theorem dX3_reach_160 : decode cX3_reach 160 = .ok (.iinc 6 1, 3) := by decide +kernel
theorem dX3_reach_163 : decode cX3_reach 163 = .ok (.goto (-52), 3) := by decide +kernel
theorem dX3_reach_166 : decode cX3_reach 166 = .ok (.aload_n 0, 1) := by decide +kernel
theorem dX3_reach_167 : decode cX3_reach 167 = .ok (.aload_n 0, 1) := by decide +kernel
theorem dX3_reach_168 : decode cX3_reach 168 = .ok (.getfield 34, 3) := by decide +kernel
theorem dX3_reach_171 : decode cX3_reach 171 = .ok (.iload_n 1, 1) := by decide +kernel
theorem dX3_reach_172 : decode cX3_reach 172 = .ok (.iaload, 1) := by decide +kernel
theorem dX3_reach_173 : decode cX3_reach 173 = .ok (.aload_n 0, 1) := by decide +kernel
theorem dX3_reach_174 : decode cX3_reach 174 = .ok (.getfield 37, 3) := by decide +kernel
theorem dX3_reach_177 : decode cX3_reach 177 = .ok (.iload_n 1, 1) := by decide +kernel
theorem dX3_reach_178 : decode cX3_reach 178 = .ok (.iaload, 1) := by decide +kernel
theorem dX3_reach_179 : decode cX3_reach 179 = .ok (.aload_n 0, 1) := by decide +kernel
theorem dX3_reach_180 : decode cX3_reach 180 = .ok (.getfield 96, 3) := by decide +kernel
theorem dX3_reach_183 : decode cX3_reach 183 = .ok (.bipush 24, 2) := by decide +kernel
theorem dX3_reach_185 : decode cX3_reach 185 = .ok (.idiv, 1) := by decide +kernel
theorem dX3_reach_186 : decode cX3_reach 186 = .ok (.invokevirtual 93, 3) := by decide +kernel
theorem dX3_reach_189 : decode cX3_reach 189 = .ok (.ifCond .eq 23, 3) := by decide +kernel
theorem dX3_reach_192 : decode cX3_reach 192 = .ok (.aload_n 0, 1) := by decide +kernel
theorem dX3_reach_193 : decode cX3_reach 193 = .ok (.getfield 62, 3) := by decide +kernel
theorem dX3_reach_196 : decode cX3_reach 196 = .ok (.aload_n 0, 1) := by decide +kernel
theorem dX3_reach_197 : decode cX3_reach 197 = .ok (.getfield 34, 3) := by decide +kernel
theorem dX3_reach_200 : decode cX3_reach 200 = .ok (.iload_n 1, 1) := by decide +kernel
theorem dX3_reach_201 : decode cX3_reach 201 = .ok (.iaload, 1) := by decide +kernel
theorem dX3_reach_202 : decode cX3_reach 202 = .ok (.dup2, 1) := by decide +kernel
theorem dX3_reach_203 : decode cX3_reach 203 = .ok (.iaload, 1) := by decide +kernel
theorem dX3_reach_204 : decode cX3_reach 204 = .ok (.sipush 2500, 3) := by decide +kernel
theorem dX3_reach_207 : decode cX3_reach 207 = .ok (.iload 5, 2) := by decide +kernel
theorem dX3_reach_209 : decode cX3_reach 209 = .ok (.imul, 1) := by decide +kernel
theorem dX3_reach_210 : decode cX3_reach 210 = .ok (.isub, 1) := by decide +kernel
theorem dX3_reach_211 : decode cX3_reach 211 = .ok (.iastore, 1) := by decide +kernel
theorem dX3_reach_212 : decode cX3_reach 212 = .ok (.iload 5, 2) := by decide +kernel
theorem dX3_reach_214 : decode cX3_reach 214 = .ok (.ireturn, 1) := by decide +kernel
set_option maxRecDepth 20000 in
theorem ggX3_rest_X3_isCase : GoodIn wsX3_rest wsX3_isCase := goodIn_r _ [7, 8, 9, 10, 6, 11, 17, 18, 19, 20, 21, 22, 23, 24, 25, 26, 27, 28, 29, 30, 31, 32, 33, 34, 35, 36, 37] (by decide +kernel) (by decide +kernel)
set_option maxRecDepth 20000 in
theorem gX3_rest_X3_isCase : GoodIn wsX3_rest (wsV RX3 114 RX3 yX3_isCase wsX3_isCase) := goodIn_app (goodIn_of _ (by decide +kernel)) ggX3_rest_X3_isCase
set_option maxRecDepth 20000 in
theorem ggX3_rest_X3_asked_ : GoodIn wsX3_rest wsX3_asked_ := goodIn_r _ [15, 16, 17, 18, 19, 20, 21, 22, 23, 24, 25, 26, 27, 28, 29, 30, 31, 32, 33, 34, 35, 36, 37] (by decide +kernel) (by decide +kernel)
set_option maxRecDepth 20000 in
theorem gX3_rest_X3_asked_ : GoodIn wsX3_rest (wsV RX3 80 RX3 yX3_asked_ wsX3_asked_) := goodIn_app (goodIn_of _ (by decide +kernel)) ggX3_rest_X3_asked_
theorem dX3_rest_0 : decode cX3_rest 0 = .ok (.aload_n 0, 1) := by decide +kernel
theorem dX3_rest_1 : decode cX3_rest 1 = .ok (.iload_n 1, 1) := by decide +kernel
theorem dX3_rest_2 : decode cX3_rest 2 = .ok (.invokevirtual 114, 3) := by decide +kernel
theorem dX3_rest_5 : decode cX3_rest 5 = .ok (.istore_n 3, 1) := by decide +kernel
theorem dX3_rest_6 : decode cX3_rest 6 = .ok (.aload_n 0, 1) := by decide +kernel
theorem dX3_rest_7 : decode cX3_rest 7 = .ok (.iload_n 3, 1) := by decide +kernel
theorem dX3_rest_8 : decode cX3_rest 8 = .ok (.iload_n 3, 1) := by decide +kernel
theorem dX3_rest_9 : decode cX3_rest 9 = .ok (.ifCond .eq 16, 3) := by decide +kernel
theorem dX3_rest_12 : decode cX3_rest 12 = .ok (.aload_n 0, 1) := by decide +kernel
theorem dX3_rest_13 : decode cX3_rest 13 = .ok (.getfield 43, 3) := by decide +kernel
theorem dX3_rest_16 : decode cX3_rest 16 = .ok (.iload_n 1, 1) := by decide +kernel
theorem dX3_rest_17 : decode cX3_rest 17 = .ok (.iaload, 1) := by decide +kernel
theorem dX3_rest_18 : decode cX3_rest 18 = .ok (.ifCond .ne 7, 3) := by decide +kernel
theorem dX3_rest_21 : decode cX3_rest 21 = .ok (.iconst 1, 1) := by decide +kernel
theorem dX3_rest_22 : decode cX3_rest 22 = .ok (.goto 4, 3) := by decide +kernel
theorem dX3_rest_25 : decode cX3_rest 25 = .ok (.iconst 0, 1) := by decide +kernel
theorem dX3_rest_26 : decode cX3_rest 26 = .ok (.invokevirtual 80, 3) := by decide +kernel
theorem dX3_rest_29 : decode cX3_rest 29 = .ok (.ifCond .ne 5, 3) := by decide +kernel
theorem dX3_rest_32 : decode cX3_rest 32 = .ok (.iconst 0, 1) := by decide +kernel
theorem dX3_rest_33 : decode cX3_rest 33 = .ok (.ireturn, 1) := by decide +kernel
theorem dX3_rest_34 : decode cX3_rest 34 = .ok (.aload_n 0, 1) := by decide +kernel
theorem dX3_rest_35 : decode cX3_rest 35 = .ok (.getfield 49, 3) := by decide +kernel
theorem dX3_rest_38 : decode cX3_rest 38 = .ok (.iload_n 1, 1) := by decide +kernel
theorem dX3_rest_39 : decode cX3_rest 39 = .ok (.baload, 1) := by decide +kernel
theorem dX3_rest_40 : decode cX3_rest 40 = .ok (.istore 4, 2) := by decide +kernel
theorem dX3_rest_42 : decode cX3_rest 42 = .ok (.aload_n 0, 1) := by decide +kernel
theorem dX3_rest_43 : decode cX3_rest 43 = .ok (.getfield 49, 3) := by decide +kernel
theorem dX3_rest_46 : decode cX3_rest 46 = .ok (.iload_n 1, 1) := by decide +kernel
theorem dX3_rest_47 : decode cX3_rest 47 = .ok (.iload_n 2, 1) := by decide +kernel
theorem dX3_rest_48 : decode cX3_rest 48 = .ok (.bastore, 1) := by decide +kernel
theorem dX3_rest_49 : decode cX3_rest 49 = .ok (.iload 4, 2) := by decide +kernel
theorem dX3_rest_51 : decode cX3_rest 51 = .ok (.ireturn, 1) := by decide +kernel
set_option maxRecDepth 20000 in
theorem ggX3_setGravity_X3_isCase : GoodIn wsX3_setGravity wsX3_isCase := goodIn_r _ [7, 8, 9, 10, 6, 11, 17, 18, 19, 20, 21, 22, 23, 24, 25, 26, 27, 28, 29, 30, 31, 32, 33, 34, 35, 36, 37] (by decide +kernel) (by decide +kernel)
set_option maxRecDepth 20000 in
theorem gX3_setGravity_X3_isCase : GoodIn wsX3_setGravity (wsV RX3 114 RX3 yX3_isCase wsX3_isCase) := goodIn_app (goodIn_of _ (by decide +kernel)) ggX3_setGravity_X3_isCase
set_option maxRecDepth 20000 in
theorem ggX3_setGravity_X3_in : GoodIn wsX3_setGravity wsX3_in := goodIn_r _ [11] (by decide +kernel) (by decide +kernel)
set_option maxRecDepth 20000 in
theorem gX3_setGravity_X3_in : GoodIn wsX3_setGravity (va_wsS RX3 69 yX3_in wsX3_in) := goodIn_app (goodIn_of _ (by decide +kernel)) ggX3_setGravity_X3_in
set_option maxRecDepth 20000 in
theorem ggX3_setGravity_X3_asked__ : GoodIn wsX3_setGravity wsX3_asked__ := goodIn_r _ [15, 16, 17, 18, 19, 20, 21, 22, 23, 24, 25, 26, 27, 28, 29, 30, 31, 32, 33, 34, 35, 36, 37] (by decide +kernel) (by decide +kernel)
set_option maxRecDepth 20000 in
theorem gX3_setGravity_X3_asked__ : GoodIn wsX3_setGravity (wsV RX3 84 RX3 yX3_asked__ wsX3_asked__) := goodIn_app (goodIn_of _ (by decide +kernel)) ggX3_setGravity_X3_asked__
theorem dX3_setGravity_0 : decode cX3_setGravity 0 = .ok (.aload_n 0, 1) := by decide +kernel
theorem dX3_setGravity_1 : decode cX3_setGravity 1 = .ok (.iload_n 1, 1) := by decide +kernel
theorem dX3_setGravity_2 : decode cX3_setGravity 2 = .ok (.invokevirtual 114, 3) := by decide +kernel
theorem dX3_setGravity_5 : decode cX3_setGravity 5 = .ok (.istore_n 3, 1) := by decide +kernel
theorem dX3_setGravity_6 : decode cX3_setGravity 6 = .ok (.aload_n 0, 1) := by decide +kernel
theorem dX3_setGravity_7 : decode cX3_setGravity 7 = .ok (.iload_n 3, 1) := by decide +kernel
theorem dX3_setGravity_8 : decode cX3_setGravity 8 = .ok (.iload_n 2, 1) := by decide +kernel
theorem dX3_setGravity_9 : decode cX3_setGravity 9 = .ok (.iconst 0, 1) := by decide +kernel
theorem dX3_setGravity_10 : decode cX3_setGravity 10 = .ok (.iconst 2, 1) := by decide +kernel
theorem dX3_setGravity_11 : decode cX3_setGravity 11 = .ok (.invokestatic 69, 3) := by decide +kernel
theorem dX3_setGravity_14 : decode cX3_setGravity 14 = .ok (.iload_n 3, 1) := by decide +kernel
theorem dX3_setGravity_15 : decode cX3_setGravity 15 = .ok (.ifCond .eq 16, 3) := by decide +kernel
theorem dX3_setGravity_18 : decode cX3_setGravity 18 = .ok (.aload_n 0, 1) := by decide +kernel
theorem dX3_setGravity_19 : decode cX3_setGravity 19 = .ok (.getfield 43, 3) := by decide +kernel
theorem dX3_setGravity_22 : decode cX3_setGravity 22 = .ok (.iload_n 1, 1) := by decide +kernel
theorem dX3_setGravity_23 : decode cX3_setGravity 23 = .ok (.iaload, 1) := by decide +kernel
theorem dX3_setGravity_24 : decode cX3_setGravity 24 = .ok (.ifCond .ne 7, 3) := by decide +kernel
theorem dX3_setGravity_27 : decode cX3_setGravity 27 = .ok (.iconst 1, 1) := by decide +kernel
theorem dX3_setGravity_28 : decode cX3_setGravity 28 = .ok (.goto 4, 3) := by decide +kernel
theorem dX3_setGravity_31 : decode cX3_setGravity 31 = .ok (.iconst 0, 1) := by decide +kernel
theorem dX3_setGravity_32 : decode cX3_setGravity 32 = .ok (.invokevirtual 84, 3) := by decide +kernel
theorem dX3_setGravity_35 : decode cX3_setGravity 35 = .ok (.ifCond .ne 5, 3) := by decide +kernel
theorem dX3_setGravity_38 : decode cX3_setGravity 38 = .ok (.iconst 0, 1) := by decide +kernel
theorem dX3_setGravity_39 : decode cX3_setGravity 39 = .ok (.ireturn, 1) := by decide +kernel
theorem dX3_setGravity_40 : decode cX3_setGravity 40 = .ok (.aload_n 0, 1) := by decide +kernel
theorem dX3_setGravity_41 : decode cX3_setGravity 41 = .ok (.getfield 40, 3) := by decide +kernel
theorem dX3_setGravity_44 : decode cX3_setGravity 44 = .ok (.iload_n 1, 1) := by decide +kernel
theorem dX3_setGravity_45 : decode cX3_setGravity 45 = .ok (.iaload, 1) := by decide +kernel
theorem dX3_setGravity_46 : decode cX3_setGravity 46 = .ok (.istore 4, 2) := by decide +kernel
theorem dX3_setGravity_48 : decode cX3_setGravity 48 = .ok (.aload_n 0, 1) := by decide +kernel
theorem dX3_setGravity_49 : decode cX3_setGravity 49 = .ok (.getfield 40, 3) := by decide +kernel
theorem dX3_setGravity_52 : decode cX3_setGravity 52 = .ok (.iload_n 1, 1) := by decide +kernel
theorem dX3_setGravity_53 : decode cX3_setGravity 53 = .ok (.iload_n 2, 1) := by decide +kernel
theorem dX3_setGravity_54 : decode cX3_setGravity 54 = .ok (.iastore, 1) := by decide +kernel
theorem dX3_setGravity_55 : decode cX3_setGravity 55 = .ok (.iload 4, 2) := by decide +kernel
theorem dX3_setGravity_57 : decode cX3_setGravity 57 = .ok (.ireturn, 1) := by decide +kernel
theorem dX3_joinedTo_0 : decode cX3_joinedTo 0 = .ok (.iconst 0, 1) := by decide +kernel
theorem dX3_joinedTo_1 : decode cX3_joinedTo 1 = .ok (.istore_n 2, 1) := by decide +kernel
theorem dX3_joinedTo_2 : decode cX3_joinedTo 2 = .ok (.iconst 0, 1) := by decide +kernel
theorem dX3_joinedTo_3 : decode cX3_joinedTo 3 = .ok (.istore_n 3, 1) := by decide +kernel
theorem dX3_joinedTo_4 : decode cX3_joinedTo 4 = .ok (.iload_n 3, 1) := by decide +kernel
theorem dX3_joinedTo_5 : decode cX3_joinedTo 5 = .ok (.aload_n 0, 1) := by decide +kernel
theorem dX3_joinedTo_6 : decode cX3_joinedTo 6 = .ok (.getfield 73, 3) := by decide +kernel
theorem dX3_joinedTo_9 : decode cX3_joinedTo 9 = .ok (.if_icmp .ge 37, 3) := by decide +kernel
theorem dX3_joinedTo_12 : decode cX3_joinedTo 12 = .ok (.iload_n 2, 1) := by decide +kernel
theorem dX3_joinedTo_13 : decode cX3_joinedTo 13 = .ok (.aload_n 0, 1) := by decide +kernel
theorem dX3_joinedTo_14 : decode cX3_joinedTo 14 = .ok (.getfield 43, 3) := by decide +kernel
theorem dX3_joinedTo_17 : decode cX3_joinedTo 17 = .ok (.iload_n 3, 1) := by decide +kernel
theorem dX3_joinedTo_18 : decode cX3_joinedTo 18 = .ok (.iaload, 1) := by decide +kernel
theorem dX3_joinedTo_19 : decode cX3_joinedTo 19 = .ok (.iconst 1, 1) := by decide +kernel
theorem dX3_joinedTo_20 : decode cX3_joinedTo 20 = .ok (.if_icmp .ne 17, 3) := by decide +kernel
theorem dX3_joinedTo_23 : decode cX3_joinedTo 23 = .ok (.aload_n 0, 1) := by decide +kernel
theorem dX3_joinedTo_24 : decode cX3_joinedTo 24 = .ok (.getfield 46, 3) := by decide +kernel
theorem dX3_joinedTo_27 : decode cX3_joinedTo 27 = .ok (.iload_n 3, 1) := by decide +kernel
theorem dX3_joinedTo_28 : decode cX3_joinedTo 28 = .ok (.iaload, 1) := by decide +kernel
theorem dX3_joinedTo_29 : decode cX3_joinedTo 29 = .ok (.iload_n 1, 1) := by decide +kernel
theorem dX3_joinedTo_30 : decode cX3_joinedTo 30 = .ok (.if_icmp .ne 7, 3) := by decide +kernel
theorem dX3_joinedTo_33 : decode cX3_joinedTo 33 = .ok (.iconst 1, 1) := by decide +kernel
theorem dX3_joinedTo_34 : decode cX3_joinedTo 34 = .ok (.goto 4, 3) := by decide +kernel
theorem dX3_joinedTo_37 : decode cX3_joinedTo 37 = .ok (.iconst 0, 1) := by decide +kernel
theorem dX3_joinedTo_38 : decode cX3_joinedTo 38 = .ok (.iadd, 1) := by decide +kernel
theorem dX3_joinedTo_39 : decode cX3_joinedTo 39 = .ok (.istore_n 2, 1) := by decide +kernel
theorem dX3_joinedTo_40 : decode cX3_joinedTo 40 = .ok (.iinc 3 1, 3) := by decide +kernel
theorem dX3_joinedTo_43 : decode cX3_joinedTo 43 = .ok (.goto (-39), 3) := by decide +kernel
theorem dX3_joinedTo_46 : decode cX3_joinedTo 46 = .ok (.iload_n 2, 1) := by decide +kernel
theorem dX3_joinedTo_47 : decode cX3_joinedTo 47 = .ok (.ireturn, 1) := by decide +kernel
set_option maxRecDepth 20000 in
theorem ggX3_join_X3_isCase : GoodIn wsX3_join wsX3_isCase := goodIn_r _ [8, 9, 10, 11, 7, 12, 22, 23, 24, 25, 26, 27, 28, 29, 30, 31, 32, 33, 34, 35, 36, 37, 38, 39, 40, 41, 42] (by decide +kernel) (by decide +kernel)
set_option maxRecDepth 20000 in
theorem gX3_join_X3_isCase : GoodIn wsX3_join (wsV RX3 114 RX3 yX3_isCase wsX3_isCase) := goodIn_app (goodIn_of _ (by decide +kernel)) ggX3_join_X3_isCase
set_option maxRecDepth 20000 in
theorem ggX3_join_X3_joinedTo : GoodIn wsX3_join wsX3_joinedTo := goodIn_r _ [16, 9, 2, 3, 22, 23, 24, 25, 26, 27, 28, 29, 30, 31, 32, 33, 34, 35, 36, 37, 38, 39, 40, 41, 42] (by decide +kernel) (by decide +kernel)
set_option maxRecDepth 20000 in
theorem gX3_join_X3_joinedTo : GoodIn wsX3_join (wsV RX3 120 RX3 yX3_joinedTo wsX3_joinedTo) := goodIn_app (goodIn_of _ (by decide +kernel)) ggX3_join_X3_joinedTo
set_option maxRecDepth 20000 in
theorem ggX3_join_X3_asked__ : GoodIn wsX3_join wsX3_asked__ := goodIn_r _ [20, 21, 22, 23, 24, 25, 26, 27, 28, 29, 30, 31, 32, 33, 34, 35, 36, 37, 38, 39, 40, 41, 42] (by decide +kernel) (by decide +kernel)
set_option maxRecDepth 20000 in
theorem gX3_join_X3_asked__ : GoodIn wsX3_join (wsV RX3 84 RX3 yX3_asked__ wsX3_asked__) := goodIn_app (goodIn_of _ (by decide +kernel)) ggX3_join_X3_asked__
theorem dX3_join_0 : decode cX3_join 0 = .ok (.aload_n 0, 1) := by decide +kernel
theorem dX3_join_1 : decode cX3_join 1 = .ok (.iload_n 1, 1) := by decide +kernel
theorem dX3_join_2 : decode cX3_join 2 = .ok (.invokevirtual 114, 3) := by decide +kernel
theorem dX3_join_5 : decode cX3_join 5 = .ok (.ifCond .eq 15, 3) := by decide +kernel
theorem dX3_join_8 : decode cX3_join 8 = .ok (.aload_n 0, 1) := by decide +kernel
theorem dX3_join_9 : decode cX3_join 9 = .ok (.iload_n 2, 1) := by decide +kernel
theorem dX3_join_10 : decode cX3_join 10 = .ok (.invokevirtual 114, 3) := by decide +kernel
theorem dX3_join_13 : decode cX3_join 13 = .ok (.ifCond .eq 7, 3) := by decide +kernel
theorem dX3_join_16 : decode cX3_join 16 = .ok (.iconst 1, 1) := by decide +kernel
theorem dX3_join_17 : decode cX3_join 17 = .ok (.goto 4, 3) := by decide +kernel
theorem dX3_join_20 : decode cX3_join 20 = .ok (.iconst 0, 1) := by decide +kernel
theorem dX3_join_21 : decode cX3_join 21 = .ok (.istore_n 3, 1) := by decide +kernel
theorem dX3_join_22 : decode cX3_join 22 = .ok (.iload_n 3, 1) := by decide +kernel
theorem dX3_join_23 : decode cX3_join 23 = .ok (.ifCond .eq 27, 3) := by decide +kernel
theorem dX3_join_26 : decode cX3_join 26 = .ok (.iload_n 1, 1) := by decide +kernel
theorem dX3_join_27 : decode cX3_join 27 = .ok (.iload_n 2, 1) := by decide +kernel
theorem dX3_join_28 : decode cX3_join 28 = .ok (.if_icmp .eq 22, 3) := by decide +kernel
theorem dX3_join_31 : decode cX3_join 31 = .ok (.aload_n 0, 1) := by decide +kernel
theorem dX3_join_32 : decode cX3_join 32 = .ok (.getfield 34, 3) := by decide +kernel
theorem dX3_join_35 : decode cX3_join 35 = .ok (.iload_n 1, 1) := by decide +kernel
theorem dX3_join_36 : decode cX3_join 36 = .ok (.iaload, 1) := by decide +kernel
theorem dX3_join_37 : decode cX3_join 37 = .ok (.aload_n 0, 1) := by decide +kernel
theorem dX3_join_38 : decode cX3_join 38 = .ok (.getfield 34, 3) := by decide +kernel
theorem dX3_join_41 : decode cX3_join 41 = .ok (.iload_n 2, 1) := by decide +kernel
theorem dX3_join_42 : decode cX3_join 42 = .ok (.iaload, 1) := by decide +kernel
theorem dX3_join_43 : decode cX3_join 43 = .ok (.if_icmp .ne 7, 3) := by decide +kernel
theorem dX3_join_46 : decode cX3_join 46 = .ok (.iconst 1, 1) := by decide +kernel
theorem dX3_join_47 : decode cX3_join 47 = .ok (.goto 4, 3) := by decide +kernel
theorem dX3_join_50 : decode cX3_join 50 = .ok (.iconst 0, 1) := by decide +kernel
theorem dX3_join_51 : decode cX3_join 51 = .ok (.istore 4, 2) := by decide +kernel
theorem dX3_join_53 : decode cX3_join 53 = .ok (.aload_n 0, 1) := by decide +kernel
theorem dX3_join_54 : decode cX3_join 54 = .ok (.iload_n 3, 1) := by decide +kernel
theorem dX3_join_55 : decode cX3_join 55 = .ok (.iload 4, 2) := by decide +kernel
theorem dX3_join_57 : decode cX3_join 57 = .ok (.iload 4, 2) := by decide +kernel
theorem dX3_join_59 : decode cX3_join 59 = .ok (.ifCond .eq 33, 3) := by decide +kernel
theorem dX3_join_62 : decode cX3_join 62 = .ok (.aload_n 0, 1) := by decide +kernel
theorem dX3_join_63 : decode cX3_join 63 = .ok (.getfield 43, 3) := by decide +kernel
theorem dX3_join_66 : decode cX3_join 66 = .ok (.iload_n 1, 1) := by decide +kernel
theorem dX3_join_67 : decode cX3_join 67 = .ok (.iaload, 1) := by decide +kernel
theorem dX3_join_68 : decode cX3_join 68 = .ok (.ifCond .ne 24, 3) := by decide +kernel
theorem dX3_join_71 : decode cX3_join 71 = .ok (.aload_n 0, 1) := by decide +kernel
theorem dX3_join_72 : decode cX3_join 72 = .ok (.getfield 43, 3) := by decide +kernel
theorem dX3_join_75 : decode cX3_join 75 = .ok (.iload_n 2, 1) := by decide +kernel
theorem dX3_join_76 : decode cX3_join 76 = .ok (.iaload, 1) := by decide +kernel
theorem dX3_join_77 : decode cX3_join 77 = .ok (.ifCond .ne 15, 3) := by decide +kernel
theorem dX3_join_80 : decode cX3_join 80 = .ok (.aload_n 0, 1) := by decide +kernel
theorem dX3_join_81 : decode cX3_join 81 = .ok (.iload_n 1, 1) := by decide +kernel
theorem dX3_join_82 : decode cX3_join 82 = .ok (.invokevirtual 120, 3) := by decide +kernel
theorem dX3_join_85 : decode cX3_join 85 = .ok (.ifCond .ne 7, 3) := by decide +kernel
theorem dX3_join_88 : decode cX3_join 88 = .ok (.iconst 1, 1) := by decide +kernel
theorem dX3_join_89 : decode cX3_join 89 = .ok (.goto 4, 3) := by decide +kernel
theorem dX3_join_92 : decode cX3_join 92 = .ok (.iconst 0, 1) := by decide +kernel
theorem dX3_join_93 : decode cX3_join 93 = .ok (.invokevirtual 84, 3) := by decide +kernel
theorem dX3_join_96 : decode cX3_join 96 = .ok (.ifCond .ne 5, 3) := by decide +kernel
theorem dX3_join_99 : decode cX3_join 99 = .ok (.iconst 0, 1) := by decide +kernel
theorem dX3_join_100 : decode cX3_join 100 = .ok (.ireturn, 1) := by decide +kernel
theorem dX3_join_101 : decode cX3_join 101 = .ok (.aload_n 0, 1) := by decide +kernel
theorem dX3_join_102 : decode cX3_join 102 = .ok (.getfield 43, 3) := by decide +kernel
theorem dX3_join_105 : decode cX3_join 105 = .ok (.iload_n 1, 1) := by decide +kernel
theorem dX3_join_106 : decode cX3_join 106 = .ok (.iconst 1, 1) := by decide +kernel
theorem dX3_join_107 : decode cX3_join 107 = .ok (.iastore, 1) := by decide +kernel
theorem dX3_join_108 : decode cX3_join 108 = .ok (.aload_n 0, 1) := by decide +kernel
theorem dX3_join_109 : decode cX3_join 109 = .ok (.getfield 46, 3) := by decide +kernel
theorem dX3_join_112 : decode cX3_join 112 = .ok (.iload_n 1, 1) := by decide +kernel
theorem dX3_join_113 : decode cX3_join 113 = .ok (.iload_n 2, 1) := by decide +kernel
theorem dX3_join_114 : decode cX3_join 114 = .ok (.iastore, 1) := by decide +kernel
theorem dX3_join_115 : decode cX3_join 115 = .ok (.aload_n 0, 1) := by decide +kernel
theorem dX3_join_116 : decode cX3_join 116 = .ok (.iload_n 2, 1) := by decide +kernel
theorem dX3_join_117 : decode cX3_join 117 = .ok (.invokevirtual 120, 3) := by decide +kernel
theorem dX3_join_120 : decode cX3_join 120 = .ok (.ireturn, 1) := by decide +kernel
set_option maxRecDepth 20000 in
theorem ggX3_openAnew_X3_isCase : GoodIn wsX3_openAnew wsX3_isCase := goodIn_r _ [9, 10, 11, 12, 8, 13, 19, 20, 21, 22, 23, 24, 25, 26, 27, 28, 29, 30, 31, 32, 33, 34, 35, 36, 37, 38, 39] (by decide +kernel) (by decide +kernel)
set_option maxRecDepth 20000 in
theorem gX3_openAnew_X3_isCase : GoodIn wsX3_openAnew (wsV RX3 114 RX3 yX3_isCase wsX3_isCase) := goodIn_app (goodIn_of _ (by decide +kernel)) ggX3_openAnew_X3_isCase
set_option maxRecDepth 20000 in
theorem ggX3_openAnew_X3_asked_ : GoodIn wsX3_openAnew wsX3_asked_ := goodIn_r _ [17, 18, 19, 20, 21, 22, 23, 24, 25, 26, 27, 28, 29, 30, 31, 32, 33, 34, 35, 36, 37, 38, 39] (by decide +kernel) (by decide +kernel)
set_option maxRecDepth 20000 in
theorem gX3_openAnew_X3_asked_ : GoodIn wsX3_openAnew (wsV RX3 80 RX3 yX3_asked_ wsX3_asked_) := goodIn_app (goodIn_of _ (by decide +kernel)) ggX3_openAnew_X3_asked_
theorem dX3_openAnew_0 : decode cX3_openAnew 0 = .ok (.aload_n 0, 1) := by decide +kernel
theorem dX3_openAnew_1 : decode cX3_openAnew 1 = .ok (.iload_n 1, 1) := by decide +kernel
theorem dX3_openAnew_2 : decode cX3_openAnew 2 = .ok (.invokevirtual 114, 3) := by decide +kernel
theorem dX3_openAnew_5 : decode cX3_openAnew 5 = .ok (.istore_n 2, 1) := by decide +kernel
theorem dX3_openAnew_6 : decode cX3_openAnew 6 = .ok (.aload_n 0, 1) := by decide +kernel
theorem dX3_openAnew_7 : decode cX3_openAnew 7 = .ok (.iload_n 2, 1) := by decide +kernel
theorem dX3_openAnew_8 : decode cX3_openAnew 8 = .ok (.iload_n 2, 1) := by decide +kernel
theorem dX3_openAnew_9 : decode cX3_openAnew 9 = .ok (.ifCond .eq 17, 3) := by decide +kernel
theorem dX3_openAnew_12 : decode cX3_openAnew 12 = .ok (.aload_n 0, 1) := by decide +kernel
theorem dX3_openAnew_13 : decode cX3_openAnew 13 = .ok (.getfield 43, 3) := by decide +kernel
theorem dX3_openAnew_16 : decode cX3_openAnew 16 = .ok (.iload_n 1, 1) := by decide +kernel
theorem dX3_openAnew_17 : decode cX3_openAnew 17 = .ok (.iaload, 1) := by decide +kernel
theorem dX3_openAnew_18 : decode cX3_openAnew 18 = .ok (.iconst 2, 1) := by decide +kernel
theorem dX3_openAnew_19 : decode cX3_openAnew 19 = .ok (.if_icmp .ne 7, 3) := by decide +kernel
theorem dX3_openAnew_22 : decode cX3_openAnew 22 = .ok (.iconst 1, 1) := by decide +kernel
theorem dX3_openAnew_23 : decode cX3_openAnew 23 = .ok (.goto 4, 3) := by decide +kernel
theorem dX3_openAnew_26 : decode cX3_openAnew 26 = .ok (.iconst 0, 1) := by decide +kernel
theorem dX3_openAnew_27 : decode cX3_openAnew 27 = .ok (.invokevirtual 80, 3) := by decide +kernel
theorem dX3_openAnew_30 : decode cX3_openAnew 30 = .ok (.ifCond .ne 5, 3) := by decide +kernel
theorem dX3_openAnew_33 : decode cX3_openAnew 33 = .ok (.iconst 0, 1) := by decide +kernel
theorem dX3_openAnew_34 : decode cX3_openAnew 34 = .ok (.ireturn, 1) := by decide +kernel
theorem dX3_openAnew_35 : decode cX3_openAnew 35 = .ok (.aload_n 0, 1) := by decide +kernel
theorem dX3_openAnew_36 : decode cX3_openAnew 36 = .ok (.getfield 43, 3) := by decide +kernel
theorem dX3_openAnew_39 : decode cX3_openAnew 39 = .ok (.iload_n 1, 1) := by decide +kernel
theorem dX3_openAnew_40 : decode cX3_openAnew 40 = .ok (.iconst 0, 1) := by decide +kernel
theorem dX3_openAnew_41 : decode cX3_openAnew 41 = .ok (.iastore, 1) := by decide +kernel
theorem dX3_openAnew_42 : decode cX3_openAnew 42 = .ok (.aload_n 0, 1) := by decide +kernel
theorem dX3_openAnew_43 : decode cX3_openAnew 43 = .ok (.getfield 49, 3) := by decide +kernel
theorem dX3_openAnew_46 : decode cX3_openAnew 46 = .ok (.iload_n 1, 1) := by decide +kernel
theorem dX3_openAnew_47 : decode cX3_openAnew 47 = .ok (.iconst 0, 1) := by decide +kernel
theorem dX3_openAnew_48 : decode cX3_openAnew 48 = .ok (.bastore, 1) := by decide +kernel
theorem dX3_openAnew_49 : decode cX3_openAnew 49 = .ok (.aload_n 0, 1) := by decide +kernel
theorem dX3_openAnew_50 : decode cX3_openAnew 50 = .ok (.getfield 56, 3) := by decide +kernel
theorem dX3_openAnew_53 : decode cX3_openAnew 53 = .ok (.iconst 3, 1) := by decide +kernel
theorem dX3_openAnew_54 : decode cX3_openAnew 54 = .ok (.iload_n 1, 1) := by decide +kernel
theorem dX3_openAnew_55 : decode cX3_openAnew 55 = .ok (.imul, 1) := by decide +kernel
theorem dX3_openAnew_56 : decode cX3_openAnew 56 = .ok (.iconst 2, 1) := by decide +kernel
theorem dX3_openAnew_57 : decode cX3_openAnew 57 = .ok (.iadd, 1) := by decide +kernel
theorem dX3_openAnew_58 : decode cX3_openAnew 58 = .ok (.iconst 0, 1) := by decide +kernel
theorem dX3_openAnew_59 : decode cX3_openAnew 59 = .ok (.bastore, 1) := by decide +kernel
theorem dX3_openAnew_60 : decode cX3_openAnew 60 = .ok (.aload_n 0, 1) := by decide +kernel
theorem dX3_openAnew_61 : decode cX3_openAnew 61 = .ok (.getfield 53, 3) := by decide +kernel
theorem dX3_openAnew_64 : decode cX3_openAnew 64 = .ok (.iconst 3, 1) := by decide +kernel
theorem dX3_openAnew_65 : decode cX3_openAnew 65 = .ok (.iload_n 1, 1) := by decide +kernel
theorem dX3_openAnew_66 : decode cX3_openAnew 66 = .ok (.imul, 1) := by decide +kernel
theorem dX3_openAnew_67 : decode cX3_openAnew 67 = .ok (.iconst 2, 1) := by decide +kernel
theorem dX3_openAnew_68 : decode cX3_openAnew 68 = .ok (.iadd, 1) := by decide +kernel
theorem dX3_openAnew_69 : decode cX3_openAnew 69 = .ok (.iaload, 1) := by decide +kernel
theorem dX3_openAnew_70 : decode cX3_openAnew 70 = .ok (.ireturn, 1) := by decide +kernel
set_option maxRecDepth 20000 in
theorem ggX3_stateOf_X3_isCase : GoodIn wsX3_stateOf wsX3_isCase := goodIn_r _ [6, 7, 8, 9, 5, 10, 16, 17, 18, 19, 20, 21, 22, 23, 24, 25, 26, 27, 28, 29, 30, 31, 32, 33, 34, 35, 36] (by decide +kernel) (by decide +kernel)
set_option maxRecDepth 20000 in
theorem gX3_stateOf_X3_isCase : GoodIn wsX3_stateOf (wsV RX3 114 RX3 yX3_isCase wsX3_isCase) := goodIn_app (goodIn_of _ (by decide +kernel)) ggX3_stateOf_X3_isCase
set_option maxRecDepth 20000 in
theorem ggX3_stateOf_X3_asked : GoodIn wsX3_stateOf wsX3_asked := goodIn_r _ [14, 15, 16, 17, 18, 19, 20, 21, 22, 23, 24, 25, 26, 27, 28, 29, 30, 31, 32, 33, 34, 35, 36] (by decide +kernel) (by decide +kernel)
set_option maxRecDepth 20000 in
theorem gX3_stateOf_X3_asked : GoodIn wsX3_stateOf (wsV RX3 87 RX3 yX3_asked wsX3_asked) := goodIn_app (goodIn_of _ (by decide +kernel)) ggX3_stateOf_X3_asked
theorem dX3_stateOf_0 : decode cX3_stateOf 0 = .ok (.aload_n 0, 1) := by decide +kernel
theorem dX3_stateOf_1 : decode cX3_stateOf 1 = .ok (.aload_n 0, 1) := by decide +kernel
theorem dX3_stateOf_2 : decode cX3_stateOf 2 = .ok (.iload_n 1, 1) := by decide +kernel
theorem dX3_stateOf_3 : decode cX3_stateOf 3 = .ok (.invokevirtual 114, 3) := by decide +kernel
theorem dX3_stateOf_6 : decode cX3_stateOf 6 = .ok (.invokevirtual 87, 3) := by decide +kernel
theorem dX3_stateOf_9 : decode cX3_stateOf 9 = .ok (.ifCond .eq 12, 3) := by decide +kernel
theorem dX3_stateOf_12 : decode cX3_stateOf 12 = .ok (.aload_n 0, 1) := by decide +kernel
theorem dX3_stateOf_13 : decode cX3_stateOf 13 = .ok (.getfield 43, 3) := by decide +kernel
theorem dX3_stateOf_16 : decode cX3_stateOf 16 = .ok (.iload_n 1, 1) := by decide +kernel
theorem dX3_stateOf_17 : decode cX3_stateOf 17 = .ok (.iaload, 1) := by decide +kernel
theorem dX3_stateOf_18 : decode cX3_stateOf 18 = .ok (.goto 4, 3) := by decide +kernel
theorem dX3_stateOf_21 : decode cX3_stateOf 21 = .ok (.iconst 0, 1) := by decide +kernel
theorem dX3_stateOf_22 : decode cX3_stateOf 22 = .ok (.ireturn, 1) := by decide +kernel
set_option maxRecDepth 20000 in
theorem ggX3_isStage_X3_in : GoodIn wsX3_isStage wsX3_in := goodIn_r _ [4] (by decide +kernel) (by decide +kernel)
set_option maxRecDepth 20000 in
theorem gX3_isStage_X3_in : GoodIn wsX3_isStage (va_wsS RX3 69 yX3_in wsX3_in) := goodIn_app (goodIn_of _ (by decide +kernel)) ggX3_isStage_X3_in
theorem dX3_isStage_0 : decode cX3_isStage 0 = .ok (.iload_n 0, 1) := by decide +kernel
theorem dX3_isStage_1 : decode cX3_isStage 1 = .ok (.iconst 0, 1) := by decide +kernel
theorem dX3_isStage_2 : decode cX3_isStage 2 = .ok (.iconst 2, 1) := by decide +kernel
theorem dX3_isStage_3 : decode cX3_isStage 3 = .ok (.invokestatic 69, 3) := by decide +kernel
theorem dX3_isStage_6 : decode cX3_isStage 6 = .ok (.ireturn, 1) := by decide +kernel
set_option maxRecDepth 20000 in
theorem ggX3_clock_X3_isCase : GoodIn wsX3_clock wsX3_isCase := goodIn_r _ [6, 7, 8, 9, 5, 10, 19, 20, 21, 22, 23, 24, 25, 26, 27, 28, 29, 30, 31, 32, 33, 34, 35, 36, 37, 38, 39] (by decide +kernel) (by decide +kernel)
set_option maxRecDepth 20000 in
theorem gX3_clock_X3_isCase : GoodIn wsX3_clock (wsV RX3 114 RX3 yX3_isCase wsX3_isCase) := goodIn_app (goodIn_of _ (by decide +kernel)) ggX3_clock_X3_isCase
set_option maxRecDepth 20000 in
theorem ggX3_clock_X3_isStage : GoodIn wsX3_clock wsX3_isStage := goodIn_r _ [13, 8, 9, 5, 10] (by decide +kernel) (by decide +kernel)
set_option maxRecDepth 20000 in
theorem gX3_clock_X3_isStage : GoodIn wsX3_clock (va_wsS RX3 123 yX3_isStage wsX3_isStage) := goodIn_app (goodIn_of _ (by decide +kernel)) ggX3_clock_X3_isStage
set_option maxRecDepth 20000 in
theorem ggX3_clock_X3_asked_ : GoodIn wsX3_clock wsX3_asked_ := goodIn_r _ [17, 18, 19, 20, 21, 22, 23, 24, 25, 26, 27, 28, 29, 30, 31, 32, 33, 34, 35, 36, 37, 38, 39] (by decide +kernel) (by decide +kernel)
set_option maxRecDepth 20000 in
theorem gX3_clock_X3_asked_ : GoodIn wsX3_clock (wsV RX3 80 RX3 yX3_asked_ wsX3_asked_) := goodIn_app (goodIn_of _ (by decide +kernel)) ggX3_clock_X3_asked_
theorem dX3_clock_0 : decode cX3_clock 0 = .ok (.aload_n 0, 1) := by decide +kernel
theorem dX3_clock_1 : decode cX3_clock 1 = .ok (.aload_n 0, 1) := by decide +kernel
theorem dX3_clock_2 : decode cX3_clock 2 = .ok (.iload_n 1, 1) := by decide +kernel
theorem dX3_clock_3 : decode cX3_clock 3 = .ok (.invokevirtual 114, 3) := by decide +kernel
theorem dX3_clock_6 : decode cX3_clock 6 = .ok (.iload_n 2, 1) := by decide +kernel
theorem dX3_clock_7 : decode cX3_clock 7 = .ok (.invokestatic 123, 3) := by decide +kernel
theorem dX3_clock_10 : decode cX3_clock 10 = .ok (.invokevirtual 80, 3) := by decide +kernel
theorem dX3_clock_13 : decode cX3_clock 13 = .ok (.ifCond .eq 16, 3) := by decide +kernel
theorem dX3_clock_16 : decode cX3_clock 16 = .ok (.aload_n 0, 1) := by decide +kernel
theorem dX3_clock_17 : decode cX3_clock 17 = .ok (.getfield 53, 3) := by decide +kernel
theorem dX3_clock_20 : decode cX3_clock 20 = .ok (.iconst 3, 1) := by decide +kernel
theorem dX3_clock_21 : decode cX3_clock 21 = .ok (.iload_n 1, 1) := by decide +kernel
theorem dX3_clock_22 : decode cX3_clock 22 = .ok (.imul, 1) := by decide +kernel
theorem dX3_clock_23 : decode cX3_clock 23 = .ok (.iload_n 2, 1) := by decide +kernel
theorem dX3_clock_24 : decode cX3_clock 24 = .ok (.iadd, 1) := by decide +kernel
theorem dX3_clock_25 : decode cX3_clock 25 = .ok (.iaload, 1) := by decide +kernel
theorem dX3_clock_26 : decode cX3_clock 26 = .ok (.goto 4, 3) := by decide +kernel
theorem dX3_clock_29 : decode cX3_clock 29 = .ok (.iconst 0, 1) := by decide +kernel
theorem dX3_clock_30 : decode cX3_clock 30 = .ok (.ireturn, 1) := by decide +kernel
set_option maxRecDepth 20000 in
theorem ggX3_isMissed_X3_isCase : GoodIn wsX3_isMissed wsX3_isCase := goodIn_r _ [5, 6, 7, 8, 4, 9, 25, 26, 27, 28, 29, 30, 31, 32, 33, 34, 35, 36, 37, 38, 39, 40, 41, 42, 43, 44, 45] (by decide +kernel) (by decide +kernel)
set_option maxRecDepth 20000 in
theorem gX3_isMissed_X3_isCase : GoodIn wsX3_isMissed (wsV RX3 114 RX3 yX3_isCase wsX3_isCase) := goodIn_app (goodIn_of _ (by decide +kernel)) ggX3_isMissed_X3_isCase
set_option maxRecDepth 20000 in
theorem ggX3_isMissed_X3_isStage : GoodIn wsX3_isMissed wsX3_isStage := goodIn_r _ [12, 7, 8, 4, 9] (by decide +kernel) (by decide +kernel)
set_option maxRecDepth 20000 in
theorem gX3_isMissed_X3_isStage : GoodIn wsX3_isMissed (va_wsS RX3 123 yX3_isStage wsX3_isStage) := goodIn_app (goodIn_of _ (by decide +kernel)) ggX3_isMissed_X3_isStage
set_option maxRecDepth 20000 in
theorem ggX3_isMissed_X3_asked_ : GoodIn wsX3_isMissed wsX3_asked_ := goodIn_r _ [16, 17, 25, 26, 27, 28, 29, 30, 31, 32, 33, 34, 35, 36, 37, 38, 39, 40, 41, 42, 43, 44, 45] (by decide +kernel) (by decide +kernel)
set_option maxRecDepth 20000 in
theorem gX3_isMissed_X3_asked_ : GoodIn wsX3_isMissed (wsV RX3 80 RX3 yX3_asked_ wsX3_asked_) := goodIn_app (goodIn_of _ (by decide +kernel)) ggX3_isMissed_X3_asked_
set_option maxRecDepth 20000 in
theorem ggX3_isMissed_X3_missed : GoodIn wsX3_isMissed wsX3_missed := goodIn_r _ [21, 22, 23, 24, 25, 26, 27, 28, 29, 30, 31, 32, 33, 34, 35, 36, 37, 38, 39, 40, 41, 42, 43, 44, 45] (by decide +kernel) (by decide +kernel)
set_option maxRecDepth 20000 in
theorem gX3_isMissed_X3_missed : GoodIn wsX3_isMissed (wsV RX3 111 RX3 yX3_missed wsX3_missed) := goodIn_app (goodIn_of _ (by decide +kernel)) ggX3_isMissed_X3_missed
theorem dX3_isMissed_0 : decode cX3_isMissed 0 = .ok (.aload_n 0, 1) := by decide +kernel
theorem dX3_isMissed_1 : decode cX3_isMissed 1 = .ok (.aload_n 0, 1) := by decide +kernel
theorem dX3_isMissed_2 : decode cX3_isMissed 2 = .ok (.iload_n 1, 1) := by decide +kernel
theorem dX3_isMissed_3 : decode cX3_isMissed 3 = .ok (.invokevirtual 114, 3) := by decide +kernel
theorem dX3_isMissed_6 : decode cX3_isMissed 6 = .ok (.iload_n 2, 1) := by decide +kernel
theorem dX3_isMissed_7 : decode cX3_isMissed 7 = .ok (.invokestatic 123, 3) := by decide +kernel
theorem dX3_isMissed_10 : decode cX3_isMissed 10 = .ok (.invokevirtual 80, 3) := by decide +kernel
theorem dX3_isMissed_13 : decode cX3_isMissed 13 = .ok (.ifCond .eq 16, 3) := by decide +kernel
theorem dX3_isMissed_16 : decode cX3_isMissed 16 = .ok (.aload_n 0, 1) := by decide +kernel
theorem dX3_isMissed_17 : decode cX3_isMissed 17 = .ok (.iload_n 1, 1) := by decide +kernel
theorem dX3_isMissed_18 : decode cX3_isMissed 18 = .ok (.iload_n 2, 1) := by decide +kernel
theorem dX3_isMissed_19 : decode cX3_isMissed 19 = .ok (.invokevirtual 111, 3) := by decide +kernel
theorem dX3_isMissed_22 : decode cX3_isMissed 22 = .ok (.ifCond .eq 7, 3) := by decide +kernel
theorem dX3_isMissed_25 : decode cX3_isMissed 25 = .ok (.iconst 1, 1) := by decide +kernel
theorem dX3_isMissed_26 : decode cX3_isMissed 26 = .ok (.goto 4, 3) := by decide +kernel
theorem dX3_isMissed_29 : decode cX3_isMissed 29 = .ok (.iconst 0, 1) := by decide +kernel
theorem dX3_isMissed_30 : decode cX3_isMissed 30 = .ok (.ireturn, 1) := by decide +kernel
theorem dX3_stepOf_0 : decode cX3_stepOf 0 = .ok (.iconst 0, 1) := by decide +kernel
theorem dX3_stepOf_1 : decode cX3_stepOf 1 = .ok (.istore_n 2, 1) := by decide +kernel
theorem dX3_stepOf_2 : decode cX3_stepOf 2 = .ok (.iconst 0, 1) := by decide +kernel
theorem dX3_stepOf_3 : decode cX3_stepOf 3 = .ok (.istore_n 3, 1) := by decide +kernel
theorem dX3_stepOf_4 : decode cX3_stepOf 4 = .ok (.iload_n 3, 1) := by decide +kernel
theorem dX3_stepOf_5 : decode cX3_stepOf 5 = .ok (.iconst 2, 1) := by decide +kernel
theorem dX3_stepOf_6 : decode cX3_stepOf 6 = .ok (.if_icmp .gt 112, 3) := by decide +kernel
theorem dX3_stepOf_9 : decode cX3_stepOf 9 = .ok (.bipush 100, 2) := by decide +kernel
theorem dX3_stepOf_11 : decode cX3_stepOf 11 = .ok (.aload_n 0, 1) := by decide +kernel
theorem dX3_stepOf_12 : decode cX3_stepOf 12 = .ok (.getfield 53, 3) := by decide +kernel
theorem dX3_stepOf_15 : decode cX3_stepOf 15 = .ok (.iconst 3, 1) := by decide +kernel
theorem dX3_stepOf_16 : decode cX3_stepOf 16 = .ok (.iload_n 1, 1) := by decide +kernel
theorem dX3_stepOf_17 : decode cX3_stepOf 17 = .ok (.imul, 1) := by decide +kernel
theorem dX3_stepOf_18 : decode cX3_stepOf 18 = .ok (.iload_n 3, 1) := by decide +kernel
theorem dX3_stepOf_19 : decode cX3_stepOf 19 = .ok (.iadd, 1) := by decide +kernel
theorem dX3_stepOf_20 : decode cX3_stepOf 20 = .ok (.iaload, 1) := by decide +kernel
theorem dX3_stepOf_21 : decode cX3_stepOf 21 = .ok (.imul, 1) := by decide +kernel
theorem dX3_stepOf_22 : decode cX3_stepOf 22 = .ok (.istore 4, 2) := by decide +kernel
theorem dX3_stepOf_24 : decode cX3_stepOf 24 = .ok (.aload_n 0, 1) := by decide +kernel
theorem dX3_stepOf_25 : decode cX3_stepOf 25 = .ok (.getfield 31, 3) := by decide +kernel
theorem dX3_stepOf_28 : decode cX3_stepOf 28 = .ok (.iconst 3, 1) := by decide +kernel
theorem dX3_stepOf_29 : decode cX3_stepOf 29 = .ok (.aload_n 0, 1) := by decide +kernel
theorem dX3_stepOf_30 : decode cX3_stepOf 30 = .ok (.getfield 40, 3) := by decide +kernel
theorem dX3_stepOf_33 : decode cX3_stepOf 33 = .ok (.iload_n 1, 1) := by decide +kernel
theorem dX3_stepOf_34 : decode cX3_stepOf 34 = .ok (.iaload, 1) := by decide +kernel
theorem dX3_stepOf_35 : decode cX3_stepOf 35 = .ok (.imul, 1) := by decide +kernel
theorem dX3_stepOf_36 : decode cX3_stepOf 36 = .ok (.iload_n 3, 1) := by decide +kernel
theorem dX3_stepOf_37 : decode cX3_stepOf 37 = .ok (.iadd, 1) := by decide +kernel
theorem dX3_stepOf_38 : decode cX3_stepOf 38 = .ok (.iaload, 1) := by decide +kernel
theorem dX3_stepOf_39 : decode cX3_stepOf 39 = .ok (.istore 5, 2) := by decide +kernel
theorem dX3_stepOf_41 : decode cX3_stepOf 41 = .ok (.aload_n 0, 1) := by decide +kernel
theorem dX3_stepOf_42 : decode cX3_stepOf 42 = .ok (.getfield 56, 3) := by decide +kernel
theorem dX3_stepOf_45 : decode cX3_stepOf 45 = .ok (.iconst 3, 1) := by decide +kernel
theorem dX3_stepOf_46 : decode cX3_stepOf 46 = .ok (.iload_n 1, 1) := by decide +kernel
theorem dX3_stepOf_47 : decode cX3_stepOf 47 = .ok (.imul, 1) := by decide +kernel
theorem dX3_stepOf_48 : decode cX3_stepOf 48 = .ok (.iload_n 3, 1) := by decide +kernel
theorem dX3_stepOf_49 : decode cX3_stepOf 49 = .ok (.iadd, 1) := by decide +kernel
theorem dX3_stepOf_50 : decode cX3_stepOf 50 = .ok (.baload, 1) := by decide +kernel
theorem dX3_stepOf_51 : decode cX3_stepOf 51 = .ok (.ifCond .ne 13, 3) := by decide +kernel
theorem dX3_stepOf_54 : decode cX3_stepOf 54 = .ok (.iload 4, 2) := by decide +kernel
theorem dX3_stepOf_56 : decode cX3_stepOf 56 = .ok (.bipush 50, 2) := by decide +kernel
theorem dX3_stepOf_58 : decode cX3_stepOf 58 = .ok (.iload 5, 2) := by decide +kernel
theorem dX3_stepOf_60 : decode cX3_stepOf 60 = .ok (.imul, 1) := by decide +kernel
theorem dX3_stepOf_61 : decode cX3_stepOf 61 = .ok (.if_icmp .ge 7, 3) := by decide +kernel
theorem dX3_stepOf_64 : decode cX3_stepOf 64 = .ok (.iconst 0, 1) := by decide +kernel
theorem dX3_stepOf_65 : decode cX3_stepOf 65 = .ok (.goto 32, 3) := by decide +kernel
theorem dX3_stepOf_68 : decode cX3_stepOf 68 = .ok (.iload 4, 2) := by decide +kernel
theorem dX3_stepOf_70 : decode cX3_stepOf 70 = .ok (.bipush 75, 2) := by decide +kernel
theorem dX3_stepOf_72 : decode cX3_stepOf 72 = .ok (.iload 5, 2) := by decide +kernel
theorem dX3_stepOf_74 : decode cX3_stepOf 74 = .ok (.imul, 1) := by decide +kernel
theorem dX3_stepOf_75 : decode cX3_stepOf 75 = .ok (.if_icmp .ge 7, 3) := by decide +kernel
theorem dX3_stepOf_78 : decode cX3_stepOf 78 = .ok (.iconst 1, 1) := by decide +kernel
theorem dX3_stepOf_79 : decode cX3_stepOf 79 = .ok (.goto 18, 3) := by decide +kernel
theorem dX3_stepOf_82 : decode cX3_stepOf 82 = .ok (.iload 4, 2) := by decide +kernel
theorem dX3_stepOf_84 : decode cX3_stepOf 84 = .ok (.bipush 100, 2) := by decide +kernel
theorem dX3_stepOf_86 : decode cX3_stepOf 86 = .ok (.iload 5, 2) := by decide +kernel
theorem dX3_stepOf_88 : decode cX3_stepOf 88 = .ok (.imul, 1) := by decide +kernel
theorem dX3_stepOf_89 : decode cX3_stepOf 89 = .ok (.if_icmp .gt 7, 3) := by decide +kernel
theorem dX3_stepOf_92 : decode cX3_stepOf 92 = .ok (.iconst 2, 1) := by decide +kernel
theorem dX3_stepOf_93 : decode cX3_stepOf 93 = .ok (.goto 4, 3) := by decide +kernel
theorem dX3_stepOf_96 : decode cX3_stepOf 96 = .ok (.iconst 3, 1) := by decide +kernel
theorem dX3_stepOf_97 : decode cX3_stepOf 97 = .ok (.istore 6, 2) := by decide +kernel
theorem dX3_stepOf_99 : decode cX3_stepOf 99 = .ok (.iload 6, 2) := by decide +kernel
theorem dX3_stepOf_101 : decode cX3_stepOf 101 = .ok (.iload_n 2, 1) := by decide +kernel
theorem dX3_stepOf_102 : decode cX3_stepOf 102 = .ok (.if_icmp .le 8, 3) := by decide +kernel
theorem dX3_stepOf_105 : decode cX3_stepOf 105 = .ok (.iload 6, 2) := by decide +kernel
theorem dX3_stepOf_107 : decode cX3_stepOf 107 = .ok (.goto 4, 3) := by decide +kernel
theorem dX3_stepOf_110 : decode cX3_stepOf 110 = .ok (.iload_n 2, 1) := by decide +kernel
theorem dX3_stepOf_111 : decode cX3_stepOf 111 = .ok (.istore_n 2, 1) := by decide +kernel
theorem dX3_stepOf_112 : decode cX3_stepOf 112 = .ok (.iinc 3 1, 3) := by decide +kernel
theorem dX3_stepOf_115 : decode cX3_stepOf 115 = .ok (.goto (-111), 3) := by decide +kernel
theorem dX3_stepOf_118 : decode cX3_stepOf 118 = .ok (.iload_n 2, 1) := by decide +kernel
theorem dX3_stepOf_119 : decode cX3_stepOf 119 = .ok (.ireturn, 1) := by decide +kernel
set_option maxRecDepth 20000 in
theorem ggX3_step_X3_isCase : GoodIn wsX3_step wsX3_isCase := goodIn_r _ [5, 6, 7, 8, 4, 9, 23, 24, 25, 26, 27, 28, 29, 30, 31, 32, 33, 34, 35, 36, 37, 38, 39, 40, 41, 42, 43] (by decide +kernel) (by decide +kernel)
set_option maxRecDepth 20000 in
theorem gX3_step_X3_isCase : GoodIn wsX3_step (wsV RX3 114 RX3 yX3_isCase wsX3_isCase) := goodIn_app (goodIn_of _ (by decide +kernel)) ggX3_step_X3_isCase
set_option maxRecDepth 20000 in
theorem ggX3_step_X3_asked : GoodIn wsX3_step wsX3_asked := goodIn_r _ [13, 14, 23, 24, 25, 26, 27, 28, 29, 30, 31, 32, 33, 34, 35, 36, 37, 38, 39, 40, 41, 42, 43] (by decide +kernel) (by decide +kernel)
set_option maxRecDepth 20000 in
theorem gX3_step_X3_asked : GoodIn wsX3_step (wsV RX3 87 RX3 yX3_asked wsX3_asked) := goodIn_app (goodIn_of _ (by decide +kernel)) ggX3_step_X3_asked
set_option maxRecDepth 20000 in
theorem ggX3_step_X3_stepOf : GoodIn wsX3_step wsX3_stepOf := goodIn_r _ [18, 19, 20, 21, 22, 23, 24, 25, 26, 27, 28, 29, 30, 31, 32, 33, 34, 35, 36, 37, 38, 39, 40, 41, 42, 43] (by decide +kernel) (by decide +kernel)
set_option maxRecDepth 20000 in
theorem gX3_step_X3_stepOf : GoodIn wsX3_step (wsV RX3 126 RX3 yX3_stepOf wsX3_stepOf) := goodIn_app (goodIn_of _ (by decide +kernel)) ggX3_step_X3_stepOf
theorem dX3_step_0 : decode cX3_step 0 = .ok (.aload_n 0, 1) := by decide +kernel
theorem dX3_step_1 : decode cX3_step 1 = .ok (.aload_n 0, 1) := by decide +kernel
theorem dX3_step_2 : decode cX3_step 2 = .ok (.iload_n 1, 1) := by decide +kernel
theorem dX3_step_3 : decode cX3_step 3 = .ok (.invokevirtual 114, 3) := by decide +kernel
theorem dX3_step_6 : decode cX3_step 6 = .ok (.invokevirtual 87, 3) := by decide +kernel
theorem dX3_step_9 : decode cX3_step 9 = .ok (.ifCond .eq 11, 3) := by decide +kernel
theorem dX3_step_12 : decode cX3_step 12 = .ok (.aload_n 0, 1) := by decide +kernel
theorem dX3_step_13 : decode cX3_step 13 = .ok (.iload_n 1, 1) := by decide +kernel
theorem dX3_step_14 : decode cX3_step 14 = .ok (.invokevirtual 126, 3) := by decide +kernel
theorem dX3_step_17 : decode cX3_step 17 = .ok (.goto 4, 3) := by decide +kernel
theorem dX3_step_20 : decode cX3_step 20 = .ok (.iconst 0, 1) := by decide +kernel
theorem dX3_step_21 : decode cX3_step 21 = .ok (.ireturn, 1) := by decide +kernel
set_option maxRecDepth 20000 in
theorem ggX3_mostUrgent_X3_stepOf : GoodIn wsX3_mostUrgent wsX3_stepOf := goodIn_r _ [9, 10, 11, 4, 12, 18, 19, 20, 21, 22, 23, 24, 25, 26, 27, 28, 29, 30, 31, 32, 33, 34, 35, 36, 37, 38] (by decide +kernel) (by decide +kernel)
set_option maxRecDepth 20000 in
theorem gX3_mostUrgent_X3_stepOf : GoodIn wsX3_mostUrgent (wsV RX3 126 RX3 yX3_stepOf wsX3_stepOf) := goodIn_app (goodIn_of _ (by decide +kernel)) ggX3_mostUrgent_X3_stepOf
set_option maxRecDepth 20000 in
theorem ggX3_mostUrgent_X3_told : GoodIn wsX3_mostUrgent wsX3_told := goodIn_r _ [16, 17, 18, 19, 20, 21, 22, 23, 24, 25, 26, 27, 28, 29, 30, 31, 32, 33, 34, 35, 36, 37, 38] (by decide +kernel) (by decide +kernel)
set_option maxRecDepth 20000 in
theorem gX3_mostUrgent_X3_told : GoodIn wsX3_mostUrgent (wsV RX3 103 RX3 yX3_told wsX3_told) := goodIn_app (goodIn_of _ (by decide +kernel)) ggX3_mostUrgent_X3_told
theorem dX3_mostUrgent_0 : decode cX3_mostUrgent 0 = .ok (.iconst (-1), 1) := by decide +kernel
theorem dX3_mostUrgent_1 : decode cX3_mostUrgent 1 = .ok (.istore_n 1, 1) := by decide +kernel
theorem dX3_mostUrgent_2 : decode cX3_mostUrgent 2 = .ok (.iconst 0, 1) := by decide +kernel
theorem dX3_mostUrgent_3 : decode cX3_mostUrgent 3 = .ok (.istore_n 2, 1) := by decide +kernel
theorem dX3_mostUrgent_4 : decode cX3_mostUrgent 4 = .ok (.iload_n 2, 1) := by decide +kernel
theorem dX3_mostUrgent_5 : decode cX3_mostUrgent 5 = .ok (.aload_n 0, 1) := by decide +kernel
theorem dX3_mostUrgent_6 : decode cX3_mostUrgent 6 = .ok (.getfield 73, 3) := by decide +kernel
theorem dX3_mostUrgent_9 : decode cX3_mostUrgent 9 = .ok (.if_icmp .ge 76, 3) := by decide +kernel
theorem dX3_mostUrgent_12 : decode cX3_mostUrgent 12 = .ok (.aload_n 0, 1) := by decide +kernel
theorem dX3_mostUrgent_13 : decode cX3_mostUrgent 13 = .ok (.getfield 43, 3) := by decide +kernel
theorem dX3_mostUrgent_16 : decode cX3_mostUrgent 16 = .ok (.iload_n 2, 1) := by decide +kernel
theorem dX3_mostUrgent_17 : decode cX3_mostUrgent 17 = .ok (.iaload, 1) := by decide +kernel
theorem dX3_mostUrgent_18 : decode cX3_mostUrgent 18 = .ok (.ifCond .ne 61, 3) := by decide +kernel
theorem dX3_mostUrgent_21 : decode cX3_mostUrgent 21 = .ok (.aload_n 0, 1) := by decide +kernel
theorem dX3_mostUrgent_22 : decode cX3_mostUrgent 22 = .ok (.getfield 49, 3) := by decide +kernel
theorem dX3_mostUrgent_25 : decode cX3_mostUrgent 25 = .ok (.iload_n 2, 1) := by decide +kernel
theorem dX3_mostUrgent_26 : decode cX3_mostUrgent 26 = .ok (.baload, 1) := by decide +kernel
theorem dX3_mostUrgent_27 : decode cX3_mostUrgent 27 = .ok (.ifCond .ne 52, 3) := by decide +kernel
theorem dX3_mostUrgent_30 : decode cX3_mostUrgent 30 = .ok (.iload_n 1, 1) := by decide +kernel
theorem dX3_mostUrgent_31 : decode cX3_mostUrgent 31 = .ok (.iconst (-1), 1) := by decide +kernel
theorem dX3_mostUrgent_32 : decode cX3_mostUrgent 32 = .ok (.if_icmp .ne 7, 3) := by decide +kernel
theorem dX3_mostUrgent_35 : decode cX3_mostUrgent 35 = .ok (.iconst 1, 1) := by decide +kernel
theorem dX3_mostUrgent_36 : decode cX3_mostUrgent 36 = .ok (.goto 32, 3) := by decide +kernel
theorem dX3_mostUrgent_39 : decode cX3_mostUrgent 39 = .ok (.iconst 3, 1) := by decide +kernel
theorem dX3_mostUrgent_40 : decode cX3_mostUrgent 40 = .ok (.aload_n 0, 1) := by decide +kernel
theorem dX3_mostUrgent_41 : decode cX3_mostUrgent 41 = .ok (.iload_n 2, 1) := by decide +kernel
theorem dX3_mostUrgent_42 : decode cX3_mostUrgent 42 = .ok (.invokevirtual 126, 3) := by decide +kernel
theorem dX3_mostUrgent_45 : decode cX3_mostUrgent 45 = .ok (.imul, 1) := by decide +kernel
theorem dX3_mostUrgent_46 : decode cX3_mostUrgent 46 = .ok (.aload_n 0, 1) := by decide +kernel
theorem dX3_mostUrgent_47 : decode cX3_mostUrgent 47 = .ok (.getfield 40, 3) := by decide +kernel
theorem dX3_mostUrgent_50 : decode cX3_mostUrgent 50 = .ok (.iload_n 2, 1) := by decide +kernel
theorem dX3_mostUrgent_51 : decode cX3_mostUrgent 51 = .ok (.iaload, 1) := by decide +kernel
theorem dX3_mostUrgent_52 : decode cX3_mostUrgent 52 = .ok (.iadd, 1) := by decide +kernel
theorem dX3_mostUrgent_53 : decode cX3_mostUrgent 53 = .ok (.iconst 3, 1) := by decide +kernel
theorem dX3_mostUrgent_54 : decode cX3_mostUrgent 54 = .ok (.aload_n 0, 1) := by decide +kernel
theorem dX3_mostUrgent_55 : decode cX3_mostUrgent 55 = .ok (.iload_n 1, 1) := by decide +kernel
theorem dX3_mostUrgent_56 : decode cX3_mostUrgent 56 = .ok (.invokevirtual 126, 3) := by decide +kernel
theorem dX3_mostUrgent_59 : decode cX3_mostUrgent 59 = .ok (.imul, 1) := by decide +kernel
theorem dX3_mostUrgent_60 : decode cX3_mostUrgent 60 = .ok (.isub, 1) := by decide +kernel
theorem dX3_mostUrgent_61 : decode cX3_mostUrgent 61 = .ok (.aload_n 0, 1) := by decide +kernel
theorem dX3_mostUrgent_62 : decode cX3_mostUrgent 62 = .ok (.getfield 40, 3) := by decide +kernel
theorem dX3_mostUrgent_65 : decode cX3_mostUrgent 65 = .ok (.iload_n 1, 1) := by decide +kernel
theorem dX3_mostUrgent_66 : decode cX3_mostUrgent 66 = .ok (.iaload, 1) := by decide +kernel
theorem dX3_mostUrgent_67 : decode cX3_mostUrgent 67 = .ok (.isub, 1) := by decide +kernel
theorem dX3_mostUrgent_68 : decode cX3_mostUrgent 68 = .ok (.istore_n 3, 1) := by decide +kernel
theorem dX3_mostUrgent_69 : decode cX3_mostUrgent 69 = .ok (.iload_n 3, 1) := by decide +kernel
theorem dX3_mostUrgent_70 : decode cX3_mostUrgent 70 = .ok (.ifCond .le 7, 3) := by decide +kernel
theorem dX3_mostUrgent_73 : decode cX3_mostUrgent 73 = .ok (.iload_n 2, 1) := by decide +kernel
theorem dX3_mostUrgent_74 : decode cX3_mostUrgent 74 = .ok (.goto 4, 3) := by decide +kernel
theorem dX3_mostUrgent_77 : decode cX3_mostUrgent 77 = .ok (.iload_n 1, 1) := by decide +kernel
theorem dX3_mostUrgent_78 : decode cX3_mostUrgent 78 = .ok (.istore_n 1, 1) := by decide +kernel
theorem dX3_mostUrgent_79 : decode cX3_mostUrgent 79 = .ok (.iinc 2 1, 3) := by decide +kernel
theorem dX3_mostUrgent_82 : decode cX3_mostUrgent 82 = .ok (.goto (-78), 3) := by decide +kernel
theorem dX3_mostUrgent_85 : decode cX3_mostUrgent 85 = .ok (.aload_n 0, 1) := by decide +kernel
theorem dX3_mostUrgent_86 : decode cX3_mostUrgent 86 = .ok (.iload_n 1, 1) := by decide +kernel
theorem dX3_mostUrgent_87 : decode cX3_mostUrgent 87 = .ok (.invokevirtual 103, 3) := by decide +kernel
theorem dX3_mostUrgent_90 : decode cX3_mostUrgent 90 = .ok (.ireturn, 1) := by decide +kernel
set_option maxRecDepth 20000 in
theorem ggX3_buy_X3_isSite : GoodIn wsX3_buy wsX3_isSite := goodIn_r _ [6, 7, 8, 5, 9] (by decide +kernel) (by decide +kernel)
set_option maxRecDepth 20000 in
theorem gX3_buy_X3_isSite : GoodIn wsX3_buy (va_wsS RX3 76 yX3_isSite wsX3_isSite) := goodIn_app (goodIn_of _ (by decide +kernel)) ggX3_buy_X3_isSite
set_option maxRecDepth 20000 in
theorem ggX3_buy_X3_in : GoodIn wsX3_buy wsX3_in := goodIn_r _ [9] (by decide +kernel) (by decide +kernel)
set_option maxRecDepth 20000 in
theorem gX3_buy_X3_in : GoodIn wsX3_buy (va_wsS RX3 69 yX3_in wsX3_in) := goodIn_app (goodIn_of _ (by decide +kernel)) ggX3_buy_X3_in
set_option maxRecDepth 20000 in
theorem ggX3_buy_X3_asked_ : GoodIn wsX3_buy wsX3_asked_ := goodIn_r _ [13, 14, 15, 16, 17, 18, 19, 20, 21, 22, 23, 24, 25, 26, 27, 28, 29, 30, 31, 32, 33, 34, 35] (by decide +kernel) (by decide +kernel)
set_option maxRecDepth 20000 in
theorem gX3_buy_X3_asked_ : GoodIn wsX3_buy (wsV RX3 80 RX3 yX3_asked_ wsX3_asked_) := goodIn_app (goodIn_of _ (by decide +kernel)) ggX3_buy_X3_asked_
theorem dX3_buy_0 : decode cX3_buy 0 = .ok (.aload_n 0, 1) := by decide +kernel
theorem dX3_buy_1 : decode cX3_buy 1 = .ok (.iload_n 1, 1) := by decide +kernel
theorem dX3_buy_2 : decode cX3_buy 2 = .ok (.invokestatic 76, 3) := by decide +kernel
theorem dX3_buy_5 : decode cX3_buy 5 = .ok (.iload_n 2, 1) := by decide +kernel
theorem dX3_buy_6 : decode cX3_buy 6 = .ok (.iconst 1, 1) := by decide +kernel
theorem dX3_buy_7 : decode cX3_buy 7 = .ok (.bipush 100, 2) := by decide +kernel
theorem dX3_buy_9 : decode cX3_buy 9 = .ok (.invokestatic 69, 3) := by decide +kernel
theorem dX3_buy_12 : decode cX3_buy 12 = .ok (.invokevirtual 80, 3) := by decide +kernel
theorem dX3_buy_15 : decode cX3_buy 15 = .ok (.ifCond .ne 5, 3) := by decide +kernel
theorem dX3_buy_18 : decode cX3_buy 18 = .ok (.iconst 0, 1) := by decide +kernel
theorem dX3_buy_19 : decode cX3_buy 19 = .ok (.ireturn, 1) := by decide +kernel
theorem dX3_buy_20 : decode cX3_buy 20 = .ok (.aload_n 0, 1) := by decide +kernel
theorem dX3_buy_21 : decode cX3_buy 21 = .ok (.getfield 59, 3) := by decide +kernel
theorem dX3_buy_24 : decode cX3_buy 24 = .ok (.iload_n 1, 1) := by decide +kernel
theorem dX3_buy_25 : decode cX3_buy 25 = .ok (.dup2, 1) := by decide +kernel
theorem dX3_buy_26 : decode cX3_buy 26 = .ok (.iaload, 1) := by decide +kernel
theorem dX3_buy_27 : decode cX3_buy 27 = .ok (.iload_n 2, 1) := by decide +kernel
theorem dX3_buy_28 : decode cX3_buy 28 = .ok (.iadd, 1) := by decide +kernel
theorem dX3_buy_29 : decode cX3_buy 29 = .ok (.iastore, 1) := by decide +kernel
theorem dX3_buy_30 : decode cX3_buy 30 = .ok (.aload_n 0, 1) := by decide +kernel
theorem dX3_buy_31 : decode cX3_buy 31 = .ok (.getfield 62, 3) := by decide +kernel
theorem dX3_buy_34 : decode cX3_buy 34 = .ok (.iload_n 1, 1) := by decide +kernel
theorem dX3_buy_35 : decode cX3_buy 35 = .ok (.dup2, 1) := by decide +kernel
theorem dX3_buy_36 : decode cX3_buy 36 = .ok (.iaload, 1) := by decide +kernel
theorem dX3_buy_37 : decode cX3_buy 37 = .ok (.sipush 7000, 3) := by decide +kernel
theorem dX3_buy_40 : decode cX3_buy 40 = .ok (.iload_n 2, 1) := by decide +kernel
theorem dX3_buy_41 : decode cX3_buy 41 = .ok (.imul, 1) := by decide +kernel
theorem dX3_buy_42 : decode cX3_buy 42 = .ok (.iadd, 1) := by decide +kernel
theorem dX3_buy_43 : decode cX3_buy 43 = .ok (.iastore, 1) := by decide +kernel
theorem dX3_buy_44 : decode cX3_buy 44 = .ok (.aload_n 0, 1) := by decide +kernel
theorem dX3_buy_45 : decode cX3_buy 45 = .ok (.getfield 59, 3) := by decide +kernel
theorem dX3_buy_48 : decode cX3_buy 48 = .ok (.iload_n 1, 1) := by decide +kernel
theorem dX3_buy_49 : decode cX3_buy 49 = .ok (.iaload, 1) := by decide +kernel
theorem dX3_buy_50 : decode cX3_buy 50 = .ok (.ireturn, 1) := by decide +kernel
set_option maxRecDepth 20000 in
theorem ggX3_work_X3_isCase : GoodIn wsX3_work wsX3_isCase := goodIn_r _ [11, 12, 13, 14, 10, 15, 29, 30, 31, 32, 33, 34, 35, 36, 37, 38, 39, 40, 41, 42, 43, 44, 45, 46, 47, 48, 49] (by decide +kernel) (by decide +kernel)
set_option maxRecDepth 20000 in
theorem gX3_work_X3_isCase : GoodIn wsX3_work (wsV RX3 114 RX3 yX3_isCase wsX3_isCase) := goodIn_app (goodIn_of _ (by decide +kernel)) ggX3_work_X3_isCase
set_option maxRecDepth 20000 in
theorem ggX3_work_X3_in : GoodIn wsX3_work wsX3_in := goodIn_r _ [15] (by decide +kernel) (by decide +kernel)
set_option maxRecDepth 20000 in
theorem gX3_work_X3_in : GoodIn wsX3_work (va_wsS RX3 69 yX3_in wsX3_in) := goodIn_app (goodIn_of _ (by decide +kernel)) ggX3_work_X3_in
set_option maxRecDepth 20000 in
theorem ggX3_work_X3_asked__ : GoodIn wsX3_work wsX3_asked__ := goodIn_r _ [19, 20, 29, 30, 31, 32, 33, 34, 35, 36, 37, 38, 39, 40, 41, 42, 43, 44, 45, 46, 47, 48, 49] (by decide +kernel) (by decide +kernel)
set_option maxRecDepth 20000 in
theorem gX3_work_X3_asked__ : GoodIn wsX3_work (wsV RX3 84 RX3 yX3_asked__ wsX3_asked__) := goodIn_app (goodIn_of _ (by decide +kernel)) ggX3_work_X3_asked__
set_option maxRecDepth 20000 in
theorem ggX3_work_X3_covered : GoodIn wsX3_work wsX3_covered := goodIn_r _ [24, 25, 26, 27, 28, 13, 14, 10, 15, 29, 30, 31, 32, 33, 34, 35, 36, 37, 38, 39, 40, 41, 42, 43, 44, 45, 46, 47, 48, 49] (by decide +kernel) (by decide +kernel)
set_option maxRecDepth 20000 in
theorem gX3_work_X3_covered : GoodIn wsX3_work (wsV RX3 93 RX3 yX3_covered wsX3_covered) := goodIn_app (goodIn_of _ (by decide +kernel)) ggX3_work_X3_covered
theorem dX3_work_0 : decode cX3_work 0 = .ok (.aload_n 0, 1) := by decide +kernel
theorem dX3_work_1 : decode cX3_work 1 = .ok (.iload_n 1, 1) := by decide +kernel
theorem dX3_work_2 : decode cX3_work 2 = .ok (.invokevirtual 114, 3) := by decide +kernel
theorem dX3_work_5 : decode cX3_work 5 = .ok (.istore_n 3, 1) := by decide +kernel
theorem dX3_work_6 : decode cX3_work 6 = .ok (.aload_n 0, 1) := by decide +kernel
theorem dX3_work_7 : decode cX3_work 7 = .ok (.iload_n 3, 1) := by decide +kernel
theorem dX3_work_8 : decode cX3_work 8 = .ok (.iload_n 2, 1) := by decide +kernel
theorem dX3_work_9 : decode cX3_work 9 = .ok (.iconst 1, 1) := by decide +kernel
theorem dX3_work_10 : decode cX3_work 10 = .ok (.bipush 100, 2) := by decide +kernel
theorem dX3_work_12 : decode cX3_work 12 = .ok (.invokestatic 69, 3) := by decide +kernel
theorem dX3_work_15 : decode cX3_work 15 = .ok (.iload_n 3, 1) := by decide +kernel
theorem dX3_work_16 : decode cX3_work 16 = .ok (.ifCond .eq 16, 3) := by decide +kernel
theorem dX3_work_19 : decode cX3_work 19 = .ok (.aload_n 0, 1) := by decide +kernel
theorem dX3_work_20 : decode cX3_work 20 = .ok (.getfield 43, 3) := by decide +kernel
theorem dX3_work_23 : decode cX3_work 23 = .ok (.iload_n 1, 1) := by decide +kernel
theorem dX3_work_24 : decode cX3_work 24 = .ok (.iaload, 1) := by decide +kernel
theorem dX3_work_25 : decode cX3_work 25 = .ok (.ifCond .ne 7, 3) := by decide +kernel
theorem dX3_work_28 : decode cX3_work 28 = .ok (.iconst 1, 1) := by decide +kernel
theorem dX3_work_29 : decode cX3_work 29 = .ok (.goto 4, 3) := by decide +kernel
theorem dX3_work_32 : decode cX3_work 32 = .ok (.iconst 0, 1) := by decide +kernel
theorem dX3_work_33 : decode cX3_work 33 = .ok (.invokevirtual 84, 3) := by decide +kernel
theorem dX3_work_36 : decode cX3_work 36 = .ok (.ifCond .ne 5, 3) := by decide +kernel
theorem dX3_work_39 : decode cX3_work 39 = .ok (.iconst 0, 1) := by decide +kernel
theorem dX3_work_40 : decode cX3_work 40 = .ok (.ireturn, 1) := by decide +kernel
theorem dX3_work_41 : decode cX3_work 41 = .ok (.aload_n 0, 1) := by decide +kernel
theorem dX3_work_42 : decode cX3_work 42 = .ok (.getfield 34, 3) := by decide +kernel
theorem dX3_work_45 : decode cX3_work 45 = .ok (.iload_n 1, 1) := by decide +kernel
theorem dX3_work_46 : decode cX3_work 46 = .ok (.iaload, 1) := by decide +kernel
theorem dX3_work_47 : decode cX3_work 47 = .ok (.istore 4, 2) := by decide +kernel
theorem dX3_work_49 : decode cX3_work 49 = .ok (.aload_n 0, 1) := by decide +kernel
theorem dX3_work_50 : decode cX3_work 50 = .ok (.iload 4, 2) := by decide +kernel
theorem dX3_work_52 : decode cX3_work 52 = .ok (.aload_n 0, 1) := by decide +kernel
theorem dX3_work_53 : decode cX3_work 53 = .ok (.getfield 37, 3) := by decide +kernel
theorem dX3_work_56 : decode cX3_work 56 = .ok (.iload_n 1, 1) := by decide +kernel
theorem dX3_work_57 : decode cX3_work 57 = .ok (.iaload, 1) := by decide +kernel
theorem dX3_work_58 : decode cX3_work 58 = .ok (.aload_n 0, 1) := by decide +kernel
theorem dX3_work_59 : decode cX3_work 59 = .ok (.getfield 96, 3) := by decide +kernel
theorem dX3_work_62 : decode cX3_work 62 = .ok (.bipush 24, 2) := by decide +kernel
theorem dX3_work_64 : decode cX3_work 64 = .ok (.idiv, 1) := by decide +kernel
theorem dX3_work_65 : decode cX3_work 65 = .ok (.invokevirtual 93, 3) := by decide +kernel
theorem dX3_work_68 : decode cX3_work 68 = .ok (.ifCond .eq 5, 3) := by decide +kernel
theorem dX3_work_71 : decode cX3_work 71 = .ok (.iconst 0, 1) := by decide +kernel
theorem dX3_work_72 : decode cX3_work 72 = .ok (.ireturn, 1) := by decide +kernel
theorem dX3_work_73 : decode cX3_work 73 = .ok (.aload_n 0, 1) := by decide +kernel
theorem dX3_work_74 : decode cX3_work 74 = .ok (.getfield 59, 3) := by decide +kernel
theorem dX3_work_77 : decode cX3_work 77 = .ok (.iload 4, 2) := by decide +kernel
theorem dX3_work_79 : decode cX3_work 79 = .ok (.iaload, 1) := by decide +kernel
theorem dX3_work_80 : decode cX3_work 80 = .ok (.iload_n 2, 1) := by decide +kernel
theorem dX3_work_81 : decode cX3_work 81 = .ok (.if_icmp .ge 13, 3) := by decide +kernel
theorem dX3_work_84 : decode cX3_work 84 = .ok (.aload_n 0, 1) := by decide +kernel
theorem dX3_work_85 : decode cX3_work 85 = .ok (.getfield 59, 3) := by decide +kernel
theorem dX3_work_88 : decode cX3_work 88 = .ok (.iload 4, 2) := by decide +kernel
theorem dX3_work_90 : decode cX3_work 90 = .ok (.iaload, 1) := by decide +kernel
theorem dX3_work_91 : decode cX3_work 91 = .ok (.goto 4, 3) := by decide +kernel
theorem dX3_work_94 : decode cX3_work 94 = .ok (.iload_n 2, 1) := by decide +kernel
theorem dX3_work_95 : decode cX3_work 95 = .ok (.istore 5, 2) := by decide +kernel
theorem dX3_work_97 : decode cX3_work 97 = .ok (.aload_n 0, 1) := by decide +kernel
theorem dX3_work_98 : decode cX3_work 98 = .ok (.getfield 59, 3) := by decide +kernel
theorem dX3_work_101 : decode cX3_work 101 = .ok (.iload 4, 2) := by decide +kernel
theorem dX3_work_103 : decode cX3_work 103 = .ok (.dup2, 1) := by decide +kernel
theorem dX3_work_104 : decode cX3_work 104 = .ok (.iaload, 1) := by decide +kernel
theorem dX3_work_105 : decode cX3_work 105 = .ok (.iload 5, 2) := by decide +kernel
theorem dX3_work_107 : decode cX3_work 107 = .ok (.isub, 1) := by decide +kernel
theorem dX3_work_108 : decode cX3_work 108 = .ok (.iastore, 1) := by decide +kernel
theorem dX3_work_109 : decode cX3_work 109 = .ok (.aload_n 0, 1) := by decide +kernel
theorem dX3_work_110 : decode cX3_work 110 = .ok (.getfield 62, 3) := by decide +kernel
theorem dX3_work_113 : decode cX3_work 113 = .ok (.iload 4, 2) := by decide +kernel
theorem dX3_work_115 : decode cX3_work 115 = .ok (.dup2, 1) := by decide +kernel
theorem dX3_work_116 : decode cX3_work 116 = .ok (.iaload, 1) := by decide +kernel
theorem dX3_work_117 : decode cX3_work 117 = .ok (.sipush 9000, 3) := by decide +kernel
theorem dX3_work_120 : decode cX3_work 120 = .ok (.iload_n 2, 1) := by decide +kernel
theorem dX3_work_121 : decode cX3_work 121 = .ok (.iload 5, 2) := by decide +kernel
theorem dX3_work_123 : decode cX3_work 123 = .ok (.isub, 1) := by decide +kernel
theorem dX3_work_124 : decode cX3_work 124 = .ok (.imul, 1) := by decide +kernel
theorem dX3_work_125 : decode cX3_work 125 = .ok (.iadd, 1) := by decide +kernel
theorem dX3_work_126 : decode cX3_work 126 = .ok (.iastore, 1) := by decide +kernel
theorem dX3_work_127 : decode cX3_work 127 = .ok (.sipush 9000, 3) := by decide +kernel
theorem dX3_work_130 : decode cX3_work 130 = .ok (.iload_n 2, 1) := by decide +kernel
theorem dX3_work_131 : decode cX3_work 131 = .ok (.iload 5, 2) := by decide +kernel
theorem dX3_work_133 : decode cX3_work 133 = .ok (.isub, 1) := by decide +kernel
theorem dX3_work_134 : decode cX3_work 134 = .ok (.imul, 1) := by decide +kernel
theorem dX3_work_135 : decode cX3_work 135 = .ok (.ireturn, 1) := by decide +kernel
set_option maxRecDepth 20000 in
theorem ggX3_ahead_X3_isSite : GoodIn wsX3_ahead wsX3_isSite := goodIn_r _ [5, 6, 7, 4, 8] (by decide +kernel) (by decide +kernel)
set_option maxRecDepth 20000 in
theorem gX3_ahead_X3_isSite : GoodIn wsX3_ahead (va_wsS RX3 76 yX3_isSite wsX3_isSite) := goodIn_app (goodIn_of _ (by decide +kernel)) ggX3_ahead_X3_isSite
set_option maxRecDepth 20000 in
theorem ggX3_ahead_X3_asked : GoodIn wsX3_ahead wsX3_asked := goodIn_r _ [12, 13, 14, 15, 16, 17, 18, 19, 20, 21, 22, 23, 24, 25, 26, 27, 28, 29, 30, 31, 32, 33, 34] (by decide +kernel) (by decide +kernel)
set_option maxRecDepth 20000 in
theorem gX3_ahead_X3_asked : GoodIn wsX3_ahead (wsV RX3 87 RX3 yX3_asked wsX3_asked) := goodIn_app (goodIn_of _ (by decide +kernel)) ggX3_ahead_X3_asked
theorem dX3_ahead_0 : decode cX3_ahead 0 = .ok (.aload_n 0, 1) := by decide +kernel
theorem dX3_ahead_1 : decode cX3_ahead 1 = .ok (.iload_n 1, 1) := by decide +kernel
theorem dX3_ahead_2 : decode cX3_ahead 2 = .ok (.invokestatic 76, 3) := by decide +kernel
theorem dX3_ahead_5 : decode cX3_ahead 5 = .ok (.invokevirtual 87, 3) := by decide +kernel
theorem dX3_ahead_8 : decode cX3_ahead 8 = .ok (.ifCond .eq 12, 3) := by decide +kernel
theorem dX3_ahead_11 : decode cX3_ahead 11 = .ok (.aload_n 0, 1) := by decide +kernel
theorem dX3_ahead_12 : decode cX3_ahead 12 = .ok (.getfield 59, 3) := by decide +kernel
theorem dX3_ahead_15 : decode cX3_ahead 15 = .ok (.iload_n 1, 1) := by decide +kernel
theorem dX3_ahead_16 : decode cX3_ahead 16 = .ok (.iaload, 1) := by decide +kernel
theorem dX3_ahead_17 : decode cX3_ahead 17 = .ok (.goto 4, 3) := by decide +kernel
theorem dX3_ahead_20 : decode cX3_ahead 20 = .ok (.iconst 0, 1) := by decide +kernel
theorem dX3_ahead_21 : decode cX3_ahead 21 = .ok (.ireturn, 1) := by decide +kernel
set_option maxRecDepth 20000 in
theorem ggX3_owes_X3_isSite : GoodIn wsX3_owes wsX3_isSite := goodIn_r _ [5, 6, 7, 4, 8] (by decide +kernel) (by decide +kernel)
set_option maxRecDepth 20000 in
theorem gX3_owes_X3_isSite : GoodIn wsX3_owes (va_wsS RX3 76 yX3_isSite wsX3_isSite) := goodIn_app (goodIn_of _ (by decide +kernel)) ggX3_owes_X3_isSite
set_option maxRecDepth 20000 in
theorem ggX3_owes_X3_asked : GoodIn wsX3_owes wsX3_asked := goodIn_r _ [12, 13, 14, 15, 16, 17, 18, 19, 20, 21, 22, 23, 24, 25, 26, 27, 28, 29, 30, 31, 32, 33, 34] (by decide +kernel) (by decide +kernel)
set_option maxRecDepth 20000 in
theorem gX3_owes_X3_asked : GoodIn wsX3_owes (wsV RX3 87 RX3 yX3_asked wsX3_asked) := goodIn_app (goodIn_of _ (by decide +kernel)) ggX3_owes_X3_asked
theorem dX3_owes_0 : decode cX3_owes 0 = .ok (.aload_n 0, 1) := by decide +kernel
theorem dX3_owes_1 : decode cX3_owes 1 = .ok (.iload_n 1, 1) := by decide +kernel
theorem dX3_owes_2 : decode cX3_owes 2 = .ok (.invokestatic 76, 3) := by decide +kernel
theorem dX3_owes_5 : decode cX3_owes 5 = .ok (.invokevirtual 87, 3) := by decide +kernel
theorem dX3_owes_8 : decode cX3_owes 8 = .ok (.ifCond .eq 12, 3) := by decide +kernel
theorem dX3_owes_11 : decode cX3_owes 11 = .ok (.aload_n 0, 1) := by decide +kernel
theorem dX3_owes_12 : decode cX3_owes 12 = .ok (.getfield 62, 3) := by decide +kernel
theorem dX3_owes_15 : decode cX3_owes 15 = .ok (.iload_n 1, 1) := by decide +kernel
theorem dX3_owes_16 : decode cX3_owes 16 = .ok (.iaload, 1) := by decide +kernel
theorem dX3_owes_17 : decode cX3_owes 17 = .ok (.goto 4, 3) := by decide +kernel
theorem dX3_owes_20 : decode cX3_owes 20 = .ok (.iconst 0, 1) := by decide +kernel
theorem dX3_owes_21 : decode cX3_owes 21 = .ok (.ireturn, 1) := by decide +kernel
theorem dJ6_bitCount_0f7a4_0 : decode cJ6_bitCount_0f7a4 0 = .ok (.iload_n 0, 1) := by decide +kernel
theorem dJ6_bitCount_0f7a4_1 : decode cJ6_bitCount_0f7a4 1 = .ok (.iload_n 0, 1) := by decide +kernel
theorem dJ6_bitCount_0f7a4_2 : decode cJ6_bitCount_0f7a4 2 = .ok (.iconst 1, 1) := by decide +kernel
theorem dJ6_bitCount_0f7a4_3 : decode cJ6_bitCount_0f7a4 3 = .ok (.iushr, 1) := by decide +kernel
theorem dJ6_bitCount_0f7a4_4 : decode cJ6_bitCount_0f7a4 4 = .ok (.ldc_w 265, 3) := by decide +kernel
theorem dJ6_bitCount_0f7a4_7 : decode cJ6_bitCount_0f7a4 7 = .ok (.iand, 1) := by decide +kernel
theorem dJ6_bitCount_0f7a4_8 : decode cJ6_bitCount_0f7a4 8 = .ok (.isub, 1) := by decide +kernel
theorem dJ6_bitCount_0f7a4_9 : decode cJ6_bitCount_0f7a4 9 = .ok (.istore_n 0, 1) := by decide +kernel
theorem dJ6_bitCount_0f7a4_10 : decode cJ6_bitCount_0f7a4 10 = .ok (.iload_n 0, 1) := by decide +kernel
theorem dJ6_bitCount_0f7a4_11 : decode cJ6_bitCount_0f7a4 11 = .ok (.ldc_w 266, 3) := by decide +kernel
theorem dJ6_bitCount_0f7a4_14 : decode cJ6_bitCount_0f7a4 14 = .ok (.iand, 1) := by decide +kernel
theorem dJ6_bitCount_0f7a4_15 : decode cJ6_bitCount_0f7a4 15 = .ok (.iload_n 0, 1) := by decide +kernel
theorem dJ6_bitCount_0f7a4_16 : decode cJ6_bitCount_0f7a4 16 = .ok (.iconst 2, 1) := by decide +kernel
theorem dJ6_bitCount_0f7a4_17 : decode cJ6_bitCount_0f7a4 17 = .ok (.iushr, 1) := by decide +kernel
theorem dJ6_bitCount_0f7a4_18 : decode cJ6_bitCount_0f7a4 18 = .ok (.ldc_w 266, 3) := by decide +kernel
theorem dJ6_bitCount_0f7a4_21 : decode cJ6_bitCount_0f7a4 21 = .ok (.iand, 1) := by decide +kernel
theorem dJ6_bitCount_0f7a4_22 : decode cJ6_bitCount_0f7a4 22 = .ok (.iadd, 1) := by decide +kernel
theorem dJ6_bitCount_0f7a4_23 : decode cJ6_bitCount_0f7a4 23 = .ok (.istore_n 0, 1) := by decide +kernel
theorem dJ6_bitCount_0f7a4_24 : decode cJ6_bitCount_0f7a4 24 = .ok (.iload_n 0, 1) := by decide +kernel
theorem dJ6_bitCount_0f7a4_25 : decode cJ6_bitCount_0f7a4 25 = .ok (.iload_n 0, 1) := by decide +kernel
theorem dJ6_bitCount_0f7a4_26 : decode cJ6_bitCount_0f7a4 26 = .ok (.iconst 4, 1) := by decide +kernel
theorem dJ6_bitCount_0f7a4_27 : decode cJ6_bitCount_0f7a4 27 = .ok (.iushr, 1) := by decide +kernel
theorem dJ6_bitCount_0f7a4_28 : decode cJ6_bitCount_0f7a4 28 = .ok (.iadd, 1) := by decide +kernel
theorem dJ6_bitCount_0f7a4_29 : decode cJ6_bitCount_0f7a4 29 = .ok (.ldc_w 267, 3) := by decide +kernel
theorem dJ6_bitCount_0f7a4_32 : decode cJ6_bitCount_0f7a4 32 = .ok (.iand, 1) := by decide +kernel
theorem dJ6_bitCount_0f7a4_33 : decode cJ6_bitCount_0f7a4 33 = .ok (.istore_n 0, 1) := by decide +kernel
theorem dJ6_bitCount_0f7a4_34 : decode cJ6_bitCount_0f7a4 34 = .ok (.iload_n 0, 1) := by decide +kernel
theorem dJ6_bitCount_0f7a4_35 : decode cJ6_bitCount_0f7a4 35 = .ok (.iload_n 0, 1) := by decide +kernel
theorem dJ6_bitCount_0f7a4_36 : decode cJ6_bitCount_0f7a4 36 = .ok (.bipush 8, 2) := by decide +kernel
theorem dJ6_bitCount_0f7a4_38 : decode cJ6_bitCount_0f7a4 38 = .ok (.iushr, 1) := by decide +kernel
theorem dJ6_bitCount_0f7a4_39 : decode cJ6_bitCount_0f7a4 39 = .ok (.iadd, 1) := by decide +kernel
theorem dJ6_bitCount_0f7a4_40 : decode cJ6_bitCount_0f7a4 40 = .ok (.istore_n 0, 1) := by decide +kernel
theorem dJ6_bitCount_0f7a4_41 : decode cJ6_bitCount_0f7a4 41 = .ok (.iload_n 0, 1) := by decide +kernel
theorem dJ6_bitCount_0f7a4_42 : decode cJ6_bitCount_0f7a4 42 = .ok (.iload_n 0, 1) := by decide +kernel
theorem dJ6_bitCount_0f7a4_43 : decode cJ6_bitCount_0f7a4 43 = .ok (.bipush 16, 2) := by decide +kernel
theorem dJ6_bitCount_0f7a4_45 : decode cJ6_bitCount_0f7a4 45 = .ok (.iushr, 1) := by decide +kernel
theorem dJ6_bitCount_0f7a4_46 : decode cJ6_bitCount_0f7a4 46 = .ok (.iadd, 1) := by decide +kernel
theorem dJ6_bitCount_0f7a4_47 : decode cJ6_bitCount_0f7a4 47 = .ok (.istore_n 0, 1) := by decide +kernel
theorem dJ6_bitCount_0f7a4_48 : decode cJ6_bitCount_0f7a4 48 = .ok (.iload_n 0, 1) := by decide +kernel
theorem dJ6_bitCount_0f7a4_49 : decode cJ6_bitCount_0f7a4 49 = .ok (.bipush 63, 2) := by decide +kernel
theorem dJ6_bitCount_0f7a4_51 : decode cJ6_bitCount_0f7a4 51 = .ok (.iand, 1) := by decide +kernel
theorem dJ6_bitCount_0f7a4_52 : decode cJ6_bitCount_0f7a4 52 = .ok (.ireturn, 1) := by decide +kernel
theorem dJ9_max_7cf53_0 : decode cJ9_max_7cf53 0 = .ok (.iload_n 0, 1) := by decide +kernel
theorem dJ9_max_7cf53_1 : decode cJ9_max_7cf53 1 = .ok (.iload_n 1, 1) := by decide +kernel
theorem dJ9_max_7cf53_2 : decode cJ9_max_7cf53 2 = .ok (.if_icmp .lt 7, 3) := by decide +kernel
theorem dJ9_max_7cf53_5 : decode cJ9_max_7cf53 5 = .ok (.iload_n 0, 1) := by decide +kernel
theorem dJ9_max_7cf53_6 : decode cJ9_max_7cf53 6 = .ok (.goto 4, 3) := by decide +kernel
theorem dJ9_max_7cf53_9 : decode cJ9_max_7cf53 9 = .ok (.iload_n 1, 1) := by decide +kernel
theorem dJ9_max_7cf53_10 : decode cJ9_max_7cf53 10 = .ok (.ireturn, 1) := by decide +kernel
theorem dJ9_min_7cf53_0 : decode cJ9_min_7cf53 0 = .ok (.iload_n 0, 1) := by decide +kernel
theorem dJ9_min_7cf53_1 : decode cJ9_min_7cf53 1 = .ok (.iload_n 1, 1) := by decide +kernel
theorem dJ9_min_7cf53_2 : decode cJ9_min_7cf53 2 = .ok (.if_icmp .gt 7, 3) := by decide +kernel
theorem dJ9_min_7cf53_5 : decode cJ9_min_7cf53 5 = .ok (.iload_n 0, 1) := by decide +kernel
theorem dJ9_min_7cf53_6 : decode cJ9_min_7cf53 6 = .ok (.goto 4, 3) := by decide +kernel
theorem dJ9_min_7cf53_9 : decode cJ9_min_7cf53 9 = .ok (.iload_n 1, 1) := by decide +kernel
theorem dJ9_min_7cf53_10 : decode cJ9_min_7cf53 10 = .ok (.ireturn, 1) := by decide +kernel

theorem dX10_advance_65 : decode cX10_advance 65 = .ok (.invokestatic 60, 3) := by decide +kernel
theorem dX10_advance_68 : decode cX10_advance 68 = .ok (.ifCond .eq 63, 3) := by decide +kernel
theorem dX10_advance_71 : decode cX10_advance 71 = .ok (.aload_n 0, 1) := by decide +kernel
theorem dX10_advance_72 : decode cX10_advance 72 = .ok (.aload_n 0, 1) := by decide +kernel
theorem dX10_advance_73 : decode cX10_advance 73 = .ok (.getfield 54, 3) := by decide +kernel
theorem dX10_advance_76 : decode cX10_advance 76 = .ok (.invokevirtual 64, 3) := by decide +kernel
theorem dX10_advance_79 : decode cX10_advance 79 = .ok (.bipush 97, 2) := by decide +kernel
theorem dX10_advance_81 : decode cX10_advance 81 = .ok (.bipush 122, 2) := by decide +kernel
theorem dX10_advance_83 : decode cX10_advance 83 = .ok (.invokestatic 60, 3) := by decide +kernel
theorem dX10_advance_86 : decode cX10_advance 86 = .ok (.ifCond .eq 16, 3) := by decide +kernel
theorem dX10_advance_89 : decode cX10_advance 89 = .ok (.aload_n 0, 1) := by decide +kernel
theorem dX10_advance_90 : decode cX10_advance 90 = .ok (.dup, 1) := by decide +kernel
theorem dX10_advance_91 : decode cX10_advance 91 = .ok (.getfield 54, 3) := by decide +kernel
theorem dX10_advance_94 : decode cX10_advance 94 = .ok (.iconst 1, 1) := by decide +kernel
theorem dX10_advance_95 : decode cX10_advance 95 = .ok (.iadd, 1) := by decide +kernel
theorem dX10_advance_96 : decode cX10_advance 96 = .ok (.putfield 54, 3) := by decide +kernel
theorem dX10_advance_99 : decode cX10_advance 99 = .ok (.goto (-28), 3) := by decide +kernel
theorem dX10_advance_102 : decode cX10_advance 102 = .ok (.aload_n 0, 1) := by decide +kernel
theorem dX10_advance_103 : decode cX10_advance 103 = .ok (.aload_n 0, 1) := by decide +kernel
theorem dX10_advance_104 : decode cX10_advance 104 = .ok (.invokevirtual 74, 3) := by decide +kernel
theorem dX10_advance_107 : decode cX10_advance 107 = .ok (.putfield 68, 3) := by decide +kernel
theorem dX10_advance_110 : decode cX10_advance 110 = .ok (.aload_n 0, 1) := by decide +kernel
theorem dX10_advance_111 : decode cX10_advance 111 = .ok (.aload_n 0, 1) := by decide +kernel
theorem dX10_advance_112 : decode cX10_advance 112 = .ok (.getfield 68, 3) := by decide +kernel
theorem dX10_advance_115 : decode cX10_advance 115 = .ok (.bipush (-9), 2) := by decide +kernel
theorem dX10_advance_117 : decode cX10_advance 117 = .ok (.if_icmp .ne 7, 3) := by decide +kernel
theorem dX10_advance_120 : decode cX10_advance 120 = .ok (.iconst 4, 1) := by decide +kernel
theorem dX10_advance_121 : decode cX10_advance 121 = .ok (.goto 4, 3) := by decide +kernel
theorem dX10_advance_124 : decode cX10_advance 124 = .ok (.iconst 1, 1) := by decide +kernel
theorem dX10_advance_125 : decode cX10_advance 125 = .ok (.putfield 71, 3) := by decide +kernel
theorem dX10_advance_128 : decode cX10_advance 128 = .ok (.goto 172, 3) := by decide +kernel
theorem dX10_advance_131 : decode cX10_advance 131 = .ok (.iload_n 1, 1) := by decide +kernel
theorem dX10_advance_132 : decode cX10_advance 132 = .ok (.bipush 48, 2) := by decide +kernel
theorem dX10_advance_134 : decode cX10_advance 134 = .ok (.bipush 57, 2) := by decide +kernel
theorem dX10_advance_136 : decode cX10_advance 136 = .ok (.invokestatic 60, 3) := by decide +kernel
theorem dX10_advance_139 : decode cX10_advance 139 = .ok (.ifCond .eq 135, 3) := by decide +kernel
theorem dX10_advance_142 : decode cX10_advance 142 = .ok (.aload_n 0, 1) := by decide +kernel
theorem dX10_advance_143 : decode cX10_advance 143 = .ok (.aload_n 0, 1) := by decide +kernel
theorem dX10_advance_144 : decode cX10_advance 144 = .ok (.getfield 54, 3) := by decide +kernel
theorem dX10_advance_147 : decode cX10_advance 147 = .ok (.invokevirtual 64, 3) := by decide +kernel
theorem dX10_advance_150 : decode cX10_advance 150 = .ok (.bipush 48, 2) := by decide +kernel
theorem dX10_advance_152 : decode cX10_advance 152 = .ok (.bipush 57, 2) := by decide +kernel
theorem dX10_advance_154 : decode cX10_advance 154 = .ok (.invokestatic 60, 3) := by decide +kernel
theorem dX10_advance_157 : decode cX10_advance 157 = .ok (.ifCond .eq 16, 3) := by decide +kernel
theorem dX10_advance_160 : decode cX10_advance 160 = .ok (.aload_n 0, 1) := by decide +kernel
theorem dX10_advance_161 : decode cX10_advance 161 = .ok (.dup, 1) := by decide +kernel
theorem dX10_advance_162 : decode cX10_advance 162 = .ok (.getfield 54, 3) := by decide +kernel
theorem dX10_advance_165 : decode cX10_advance 165 = .ok (.iconst 1, 1) := by decide +kernel
theorem dX10_advance_166 : decode cX10_advance 166 = .ok (.iadd, 1) := by decide +kernel
theorem dX10_advance_167 : decode cX10_advance 167 = .ok (.putfield 54, 3) := by decide +kernel
theorem dX10_advance_170 : decode cX10_advance 170 = .ok (.goto (-28), 3) := by decide +kernel
theorem dX10_advance_173 : decode cX10_advance 173 = .ok (.aload_n 0, 1) := by decide +kernel
theorem dX10_advance_174 : decode cX10_advance 174 = .ok (.getfield 54, 3) := by decide +kernel
theorem dX10_advance_177 : decode cX10_advance 177 = .ok (.aload_n 0, 1) := by decide +kernel
theorem dX10_advance_178 : decode cX10_advance 178 = .ok (.getfield 57, 3) := by decide +kernel
theorem dX10_advance_181 : decode cX10_advance 181 = .ok (.isub, 1) := by decide +kernel
theorem dX10_advance_182 : decode cX10_advance 182 = .ok (.iconst 1, 1) := by decide +kernel
theorem dX10_advance_183 : decode cX10_advance 183 = .ok (.if_icmp .eq 22, 3) := by decide +kernel
theorem dX10_advance_186 : decode cX10_advance 186 = .ok (.aload_n 0, 1) := by decide +kernel
theorem dX10_advance_187 : decode cX10_advance 187 = .ok (.getfield 54, 3) := by decide +kernel
theorem dX10_advance_190 : decode cX10_advance 190 = .ok (.aload_n 0, 1) := by decide +kernel
theorem dX10_advance_191 : decode cX10_advance 191 = .ok (.getfield 57, 3) := by decide +kernel
theorem dX10_advance_194 : decode cX10_advance 194 = .ok (.isub, 1) := by decide +kernel
theorem dX10_advance_195 : decode cX10_advance 195 = .ok (.iconst 2, 1) := by decide +kernel
theorem dX10_advance_196 : decode cX10_advance 196 = .ok (.if_icmp .ne 13, 3) := by decide +kernel
theorem dX10_advance_199 : decode cX10_advance 199 = .ok (.iload_n 1, 1) := by decide +kernel
theorem dX10_advance_200 : decode cX10_advance 200 = .ok (.bipush 48, 2) := by decide +kernel
theorem dX10_advance_202 : decode cX10_advance 202 = .ok (.if_icmp .eq 7, 3) := by decide +kernel
theorem dX10_advance_205 : decode cX10_advance 205 = .ok (.iconst 1, 1) := by decide +kernel
theorem dX10_advance_206 : decode cX10_advance 206 = .ok (.goto 4, 3) := by decide +kernel
theorem dX10_advance_209 : decode cX10_advance 209 = .ok (.iconst 0, 1) := by decide +kernel
theorem dX10_advance_210 : decode cX10_advance 210 = .ok (.istore_n 2, 1) := by decide +kernel
theorem dX10_advance_211 : decode cX10_advance 211 = .ok (.aload_n 0, 1) := by decide +kernel
theorem dX10_advance_212 : decode cX10_advance 212 = .ok (.iload_n 2, 1) := by decide +kernel
theorem dX10_advance_213 : decode cX10_advance 213 = .ok (.ifCond .ne 8, 3) := by decide +kernel
theorem dX10_advance_216 : decode cX10_advance 216 = .ok (.bipush (-9), 2) := by decide +kernel
theorem dX10_advance_218 : decode cX10_advance 218 = .ok (.goto 45, 3) := by decide +kernel
theorem dX10_advance_221 : decode cX10_advance 221 = .ok (.aload_n 0, 1) := by decide +kernel
theorem dX10_advance_222 : decode cX10_advance 222 = .ok (.getfield 54, 3) := by decide +kernel
theorem dX10_advance_225 : decode cX10_advance 225 = .ok (.aload_n 0, 1) := by decide +kernel
theorem dX10_advance_226 : decode cX10_advance 226 = .ok (.getfield 57, 3) := by decide +kernel
theorem dX10_advance_229 : decode cX10_advance 229 = .ok (.isub, 1) := by decide +kernel
theorem dX10_advance_230 : decode cX10_advance 230 = .ok (.iconst 1, 1) := by decide +kernel
theorem dX10_advance_231 : decode cX10_advance 231 = .ok (.if_icmp .ne 10, 3) := by decide +kernel
theorem dX10_advance_234 : decode cX10_advance 234 = .ok (.iload_n 1, 1) := by decide +kernel
theorem dX10_advance_235 : decode cX10_advance 235 = .ok (.bipush 48, 2) := by decide +kernel
theorem dX10_advance_237 : decode cX10_advance 237 = .ok (.isub, 1) := by decide +kernel
theorem dX10_advance_238 : decode cX10_advance 238 = .ok (.goto 25, 3) := by decide +kernel
theorem dX10_advance_241 : decode cX10_advance 241 = .ok (.bipush 10, 2) := by decide +kernel
theorem dX10_advance_243 : decode cX10_advance 243 = .ok (.iload_n 1, 1) := by decide +kernel
theorem dX10_advance_244 : decode cX10_advance 244 = .ok (.bipush 48, 2) := by decide +kernel
theorem dX10_advance_246 : decode cX10_advance 246 = .ok (.isub, 1) := by decide +kernel
theorem dX10_advance_247 : decode cX10_advance 247 = .ok (.imul, 1) := by decide +kernel
theorem dX10_advance_248 : decode cX10_advance 248 = .ok (.aload_n 0, 1) := by decide +kernel
theorem dX10_advance_249 : decode cX10_advance 249 = .ok (.getfield 26, 3) := by decide +kernel
theorem dX10_advance_252 : decode cX10_advance 252 = .ok (.aload_n 0, 1) := by decide +kernel
theorem dX10_advance_253 : decode cX10_advance 253 = .ok (.getfield 57, 3) := by decide +kernel
theorem dX10_advance_256 : decode cX10_advance 256 = .ok (.iconst 1, 1) := by decide +kernel
theorem dX10_advance_257 : decode cX10_advance 257 = .ok (.iadd, 1) := by decide +kernel
theorem dX10_advance_258 : decode cX10_advance 258 = .ok (.iaload, 1) := by decide +kernel
theorem dX10_advance_259 : decode cX10_advance 259 = .ok (.iadd, 1) := by decide +kernel
theorem dX10_advance_260 : decode cX10_advance 260 = .ok (.bipush 48, 2) := by decide +kernel
theorem dX10_advance_262 : decode cX10_advance 262 = .ok (.isub, 1) := by decide +kernel
theorem dX10_advance_263 : decode cX10_advance 263 = .ok (.putfield 68, 3) := by decide +kernel
theorem dX10_advance_266 : decode cX10_advance 266 = .ok (.aload_n 0, 1) := by decide +kernel
theorem dX10_advance_267 : decode cX10_advance 267 = .ok (.iconst 2, 1) := by decide +kernel
theorem dX10_advance_268 : decode cX10_advance 268 = .ok (.putfield 71, 3) := by decide +kernel
theorem dX10_advance_271 : decode cX10_advance 271 = .ok (.goto 29, 3) := by decide +kernel
theorem dX10_advance_274 : decode cX10_advance 274 = .ok (.aload_n 0, 1) := by decide +kernel
theorem dX10_advance_275 : decode cX10_advance 275 = .ok (.dup, 1) := by decide +kernel
theorem dX10_advance_276 : decode cX10_advance 276 = .ok (.getfield 54, 3) := by decide +kernel
theorem dX10_advance_279 : decode cX10_advance 279 = .ok (.iconst 1, 1) := by decide +kernel
theorem dX10_advance_280 : decode cX10_advance 280 = .ok (.iadd, 1) := by decide +kernel
theorem dX10_advance_281 : decode cX10_advance 281 = .ok (.putfield 54, 3) := by decide +kernel
theorem dX10_advance_284 : decode cX10_advance 284 = .ok (.aload_n 0, 1) := by decide +kernel
theorem dX10_advance_285 : decode cX10_advance 285 = .ok (.iload_n 1, 1) := by decide +kernel
theorem dX10_advance_286 : decode cX10_advance 286 = .ok (.invokestatic 78, 3) := by decide +kernel
theorem dX10_advance_289 : decode cX10_advance 289 = .ok (.ifCond .eq 7, 3) := by decide +kernel
theorem dX10_advance_292 : decode cX10_advance 292 = .ok (.iconst 3, 1) := by decide +kernel
theorem dX10_advance_293 : decode cX10_advance 293 = .ok (.goto 4, 3) := by decide +kernel
theorem dX10_advance_296 : decode cX10_advance 296 = .ok (.iconst 4, 1) := by decide +kernel
theorem dX10_advance_297 : decode cX10_advance 297 = .ok (.putfield 71, 3) := by decide +kernel
theorem dX10_advance_300 : decode cX10_advance 300 = .ok (.return_, 1) := by decide +kernel
theorem dX10_isFine_0 : decode cX10_isFine 0 = .ok (.aload_n 0, 1) := by decide +kernel
theorem dX10_isFine_1 : decode cX10_isFine 1 = .ok (.getfield 82, 3) := by decide +kernel
theorem dX10_isFine_4 : decode cX10_isFine 4 = .ok (.bipush (-9), 2) := by decide +kernel
theorem dX10_isFine_6 : decode cX10_isFine 6 = .ok (.if_icmp .ne 7, 3) := by decide +kernel
theorem dX10_isFine_9 : decode cX10_isFine 9 = .ok (.iconst 1, 1) := by decide +kernel
theorem dX10_isFine_10 : decode cX10_isFine 10 = .ok (.goto 4, 3) := by decide +kernel
theorem dX10_isFine_13 : decode cX10_isFine 13 = .ok (.iconst 0, 1) := by decide +kernel
theorem dX10_isFine_14 : decode cX10_isFine 14 = .ok (.ireturn, 1) := by decide +kernel
theorem dX10_take_0 : decode cX10_take 0 = .ok (.aload_n 0, 1) := by decide +kernel
theorem dX10_take_1 : decode cX10_take 1 = .ok (.getfield 68, 3) := by decide +kernel
theorem dX10_take_4 : decode cX10_take 4 = .ok (.istore_n 2, 1) := by decide +kernel
theorem dX10_take_5 : decode cX10_take 5 = .ok (.aload_n 0, 1) := by decide +kernel
theorem dX10_take_6 : decode cX10_take 6 = .ok (.invokevirtual 85, 3) := by decide +kernel
theorem dX10_take_9 : decode cX10_take 9 = .ok (.ifCond .eq 22, 3) := by decide +kernel
theorem dX10_take_12 : decode cX10_take 12 = .ok (.iload_n 1, 1) := by decide +kernel
theorem dX10_take_13 : decode cX10_take 13 = .ok (.ifCond .eq 10, 3) := by decide +kernel
theorem dX10_take_16 : decode cX10_take 16 = .ok (.aload_n 0, 1) := by decide +kernel
theorem dX10_take_17 : decode cX10_take 17 = .ok (.invokevirtual 89, 3) := by decide +kernel
theorem dX10_take_20 : decode cX10_take 20 = .ok (.goto 11, 3) := by decide +kernel
theorem dX10_take_23 : decode cX10_take 23 = .ok (.aload_n 0, 1) := by decide +kernel
theorem dX10_take_24 : decode cX10_take 24 = .ok (.aload_n 0, 1) := by decide +kernel
theorem dX10_take_25 : decode cX10_take 25 = .ok (.getfield 57, 3) := by decide +kernel
theorem dX10_take_28 : decode cX10_take 28 = .ok (.putfield 82, 3) := by decide +kernel
theorem dX10_take_31 : decode cX10_take 31 = .ok (.iload_n 2, 1) := by decide +kernel
theorem dX10_take_32 : decode cX10_take 32 = .ok (.ireturn, 1) := by decide +kernel
theorem dX10_isSign_0 : decode cX10_isSign 0 = .ok (.aload_n 0, 1) := by decide +kernel
theorem dX10_isSign_1 : decode cX10_isSign 1 = .ok (.getfield 71, 3) := by decide +kernel
theorem dX10_isSign_4 : decode cX10_isSign 4 = .ok (.iconst 3, 1) := by decide +kernel
theorem dX10_isSign_5 : decode cX10_isSign 5 = .ok (.if_icmp .ne 15, 3) := by decide +kernel
theorem dX10_isSign_8 : decode cX10_isSign 8 = .ok (.aload_n 0, 1) := by decide +kernel
theorem dX10_isSign_9 : decode cX10_isSign 9 = .ok (.getfield 68, 3) := by decide +kernel
theorem dX10_isSign_12 : decode cX10_isSign 12 = .ok (.iload_n 1, 1) := by decide +kernel
theorem dX10_isSign_13 : decode cX10_isSign 13 = .ok (.if_icmp .ne 7, 3) := by decide +kernel
theorem dX10_isSign_16 : decode cX10_isSign 16 = .ok (.iconst 1, 1) := by decide +kernel
theorem dX10_isSign_17 : decode cX10_isSign 17 = .ok (.goto 4, 3) := by decide +kernel
theorem dX10_isSign_20 : decode cX10_isSign 20 = .ok (.iconst 0, 1) := by decide +kernel
theorem dX10_isSign_21 : decode cX10_isSign 21 = .ok (.ireturn, 1) := by decide +kernel
theorem dX10_number_0 : decode cX10_number 0 = .ok (.aload_n 0, 1) := by decide +kernel
theorem dX10_number_1 : decode cX10_number 1 = .ok (.aload_n 0, 1) := by decide +kernel
theorem dX10_number_2 : decode cX10_number 2 = .ok (.getfield 71, 3) := by decide +kernel
theorem dX10_number_5 : decode cX10_number 5 = .ok (.iconst 2, 1) := by decide +kernel
theorem dX10_number_6 : decode cX10_number 6 = .ok (.if_icmp .ne 19, 3) := by decide +kernel
theorem dX10_number_9 : decode cX10_number 9 = .ok (.aload_n 0, 1) := by decide +kernel
theorem dX10_number_10 : decode cX10_number 10 = .ok (.getfield 68, 3) := by decide +kernel
theorem dX10_number_13 : decode cX10_number 13 = .ok (.iload_n 1, 1) := by decide +kernel
theorem dX10_number_14 : decode cX10_number 14 = .ok (.iload_n 2, 1) := by decide +kernel
theorem dX10_number_15 : decode cX10_number 15 = .ok (.invokestatic 60, 3) := by decide +kernel
theorem dX10_number_18 : decode cX10_number 18 = .ok (.ifCond .eq 7, 3) := by decide +kernel
theorem dX10_number_21 : decode cX10_number 21 = .ok (.iconst 1, 1) := by decide +kernel
theorem dX10_number_22 : decode cX10_number 22 = .ok (.goto 4, 3) := by decide +kernel
theorem dX10_number_25 : decode cX10_number 25 = .ok (.iconst 0, 1) := by decide +kernel
theorem dX10_number_26 : decode cX10_number 26 = .ok (.invokevirtual 92, 3) := by decide +kernel
theorem dX10_number_29 : decode cX10_number 29 = .ok (.ireturn, 1) := by decide +kernel
theorem dX10_isName_0 : decode cX10_isName 0 = .ok (.aload_n 0, 1) := by decide +kernel
theorem dX10_isName_1 : decode cX10_isName 1 = .ok (.getfield 71, 3) := by decide +kernel
theorem dX10_isName_4 : decode cX10_isName 4 = .ok (.iconst 1, 1) := by decide +kernel
theorem dX10_isName_5 : decode cX10_isName 5 = .ok (.if_icmp .ne 16, 3) := by decide +kernel
theorem dX10_isName_8 : decode cX10_isName 8 = .ok (.aload_n 0, 1) := by decide +kernel
theorem dX10_isName_9 : decode cX10_isName 9 = .ok (.getfield 68, 3) := by decide +kernel
theorem dX10_isName_12 : decode cX10_isName 12 = .ok (.bipush 8, 2) := by decide +kernel
theorem dX10_isName_14 : decode cX10_isName 14 = .ok (.if_icmp .ge 7, 3) := by decide +kernel
theorem dX10_isName_17 : decode cX10_isName 17 = .ok (.iconst 1, 1) := by decide +kernel
theorem dX10_isName_18 : decode cX10_isName 18 = .ok (.goto 4, 3) := by decide +kernel
theorem dX10_isName_21 : decode cX10_isName 21 = .ok (.iconst 0, 1) := by decide +kernel
theorem dX10_isName_22 : decode cX10_isName 22 = .ok (.ireturn, 1) := by decide +kernel
theorem dX10_addBit_0 : decode cX10_addBit 0 = .ok (.aload_n 0, 1) := by decide +kernel
theorem dX10_addBit_1 : decode cX10_addBit 1 = .ok (.getfield 96, 3) := by decide +kernel
theorem dX10_addBit_4 : decode cX10_addBit 4 = .ok (.bipush 16, 2) := by decide +kernel
theorem dX10_addBit_6 : decode cX10_addBit 6 = .ok (.if_icmp .ge 22, 3) := by decide +kernel
theorem dX10_addBit_9 : decode cX10_addBit 9 = .ok (.aload_n 0, 1) := by decide +kernel
theorem dX10_addBit_10 : decode cX10_addBit 10 = .ok (.getfield 29, 3) := by decide +kernel
theorem dX10_addBit_13 : decode cX10_addBit 13 = .ok (.aload_n 0, 1) := by decide +kernel
theorem dX10_addBit_14 : decode cX10_addBit 14 = .ok (.getfield 96, 3) := by decide +kernel
theorem dX10_addBit_17 : decode cX10_addBit 17 = .ok (.iload_n 1, 1) := by decide +kernel
theorem dX10_addBit_18 : decode cX10_addBit 18 = .ok (.sipush 256, 3) := by decide +kernel
theorem dX10_addBit_21 : decode cX10_addBit 21 = .ok (.aload_n 0, 1) := by decide +kernel
theorem dX10_addBit_22 : decode cX10_addBit 22 = .ok (.getfield 99, 3) := by decide +kernel
theorem dX10_addBit_25 : decode cX10_addBit 25 = .ok (.imul, 1) := by decide +kernel
theorem dX10_addBit_26 : decode cX10_addBit 26 = .ok (.iadd, 1) := by decide +kernel
theorem dX10_addBit_27 : decode cX10_addBit 27 = .ok (.iastore, 1) := by decide +kernel
theorem dX10_addBit_28 : decode cX10_addBit 28 = .ok (.aload_n 0, 1) := by decide +kernel
theorem dX10_addBit_29 : decode cX10_addBit 29 = .ok (.dup, 1) := by decide +kernel
theorem dX10_addBit_30 : decode cX10_addBit 30 = .ok (.getfield 96, 3) := by decide +kernel
theorem dX10_addBit_33 : decode cX10_addBit 33 = .ok (.iconst 1, 1) := by decide +kernel
theorem dX10_addBit_34 : decode cX10_addBit 34 = .ok (.iadd, 1) := by decide +kernel
theorem dX10_addBit_35 : decode cX10_addBit 35 = .ok (.putfield 96, 3) := by decide +kernel
theorem dX10_addBit_38 : decode cX10_addBit 38 = .ok (.return_, 1) := by decide +kernel
theorem dX10_readRange_0 : decode cX10_readRange 0 = .ok (.aload_n 0, 1) := by decide +kernel
theorem dX10_readRange_1 : decode cX10_readRange 1 = .ok (.aload_n 0, 1) := by decide +kernel
theorem dX10_readRange_2 : decode cX10_readRange 2 = .ok (.getfield 13, 3) := by decide +kernel
theorem dX10_readRange_5 : decode cX10_readRange 5 = .ok (.aload_n 0, 1) := by decide +kernel
theorem dX10_readRange_6 : decode cX10_readRange 6 = .ok (.invokevirtual 102, 3) := by decide +kernel
theorem dX10_readRange_9 : decode cX10_readRange 9 = .ok (.ifCond .eq 10, 3) := by decide +kernel
theorem dX10_readRange_12 : decode cX10_readRange 12 = .ok (.aload_n 0, 1) := by decide +kernel
theorem dX10_readRange_13 : decode cX10_readRange 13 = .ok (.getfield 68, 3) := by decide +kernel
theorem dX10_readRange_16 : decode cX10_readRange 16 = .ok (.goto 4, 3) := by decide +kernel
theorem dX10_readRange_19 : decode cX10_readRange 19 = .ok (.iconst 0, 1) := by decide +kernel
theorem dX10_readRange_20 : decode cX10_readRange 20 = .ok (.iaload, 1) := by decide +kernel
theorem dX10_readRange_21 : decode cX10_readRange 21 = .ok (.ifCond .le 14, 3) := by decide +kernel
theorem dX10_readRange_24 : decode cX10_readRange 24 = .ok (.aload_n 0, 1) := by decide +kernel
theorem dX10_readRange_25 : decode cX10_readRange 25 = .ok (.invokevirtual 102, 3) := by decide +kernel
theorem dX10_readRange_28 : decode cX10_readRange 28 = .ok (.ifCond .eq 7, 3) := by decide +kernel
theorem dX10_readRange_31 : decode cX10_readRange 31 = .ok (.iconst 1, 1) := by decide +kernel
theorem dX10_readRange_32 : decode cX10_readRange 32 = .ok (.goto 4, 3) := by decide +kernel
theorem dX10_readRange_35 : decode cX10_readRange 35 = .ok (.iconst 0, 1) := by decide +kernel
theorem dX10_readRange_36 : decode cX10_readRange 36 = .ok (.invokevirtual 92, 3) := by decide +kernel
theorem dX10_readRange_39 : decode cX10_readRange 39 = .ok (.istore_n 1, 1) := by decide +kernel
theorem dX10_readRange_40 : decode cX10_readRange 40 = .ok (.aload_n 0, 1) := by decide +kernel
theorem dX10_readRange_41 : decode cX10_readRange 41 = .ok (.invokevirtual 85, 3) := by decide +kernel
theorem dX10_readRange_44 : decode cX10_readRange 44 = .ok (.ifCond .eq 14, 3) := by decide +kernel
theorem dX10_readRange_47 : decode cX10_readRange 47 = .ok (.aload_n 0, 1) := by decide +kernel
theorem dX10_readRange_48 : decode cX10_readRange 48 = .ok (.getfield 13, 3) := by decide +kernel
theorem dX10_readRange_51 : decode cX10_readRange 51 = .ok (.iload_n 1, 1) := by decide +kernel
theorem dX10_readRange_52 : decode cX10_readRange 52 = .ok (.iaload, 1) := by decide +kernel
theorem dX10_readRange_53 : decode cX10_readRange 53 = .ok (.iconst 1, 1) := by decide +kernel
theorem dX10_readRange_54 : decode cX10_readRange 54 = .ok (.isub, 1) := by decide +kernel
theorem dX10_readRange_55 : decode cX10_readRange 55 = .ok (.goto 4, 3) := by decide +kernel
theorem dX10_readRange_58 : decode cX10_readRange 58 = .ok (.iconst 0, 1) := by decide +kernel
theorem dX10_readRange_59 : decode cX10_readRange 59 = .ok (.istore_n 2, 1) := by decide +kernel
theorem dX10_readRange_60 : decode cX10_readRange 60 = .ok (.iconst 0, 1) := by decide +kernel
theorem dX10_readRange_61 : decode cX10_readRange 61 = .ok (.istore_n 3, 1) := by decide +kernel
theorem dX10_readRange_62 : decode cX10_readRange 62 = .ok (.aload_n 0, 1) := by decide +kernel
theorem dX10_readRange_63 : decode cX10_readRange 63 = .ok (.invokevirtual 85, 3) := by decide +kernel
theorem dX10_readRange_66 : decode cX10_readRange 66 = .ok (.ifCond .eq 54, 3) := by decide +kernel
theorem dX10_readRange_69 : decode cX10_readRange 69 = .ok (.aload_n 0, 1) := by decide +kernel
theorem dX10_readRange_70 : decode cX10_readRange 70 = .ok (.bipush 91, 2) := by decide +kernel
theorem dX10_readRange_72 : decode cX10_readRange 72 = .ok (.invokevirtual 105, 3) := by decide +kernel
theorem dX10_readRange_75 : decode cX10_readRange 75 = .ok (.ifCond .eq 45, 3) := by decide +kernel
theorem dX10_readRange_78 : decode cX10_readRange 78 = .ok (.aload_n 0, 1) := by decide +kernel
theorem dX10_readRange_79 : decode cX10_readRange 79 = .ok (.iconst 1, 1) := by decide +kernel
theorem dX10_readRange_80 : decode cX10_readRange 80 = .ok (.invokevirtual 92, 3) := by decide +kernel
theorem dX10_readRange_83 : decode cX10_readRange 83 = .ok (.pop, 1) := by decide +kernel
theorem dX10_readRange_84 : decode cX10_readRange 84 = .ok (.aload_n 0, 1) := by decide +kernel
theorem dX10_readRange_85 : decode cX10_readRange 85 = .ok (.iconst 0, 1) := by decide +kernel
theorem dX10_readRange_86 : decode cX10_readRange 86 = .ok (.iload_n 2, 1) := by decide +kernel
theorem dX10_readRange_87 : decode cX10_readRange 87 = .ok (.invokevirtual 108, 3) := by decide +kernel
theorem dX10_readRange_90 : decode cX10_readRange 90 = .ok (.istore_n 2, 1) := by decide +kernel
theorem dX10_readRange_91 : decode cX10_readRange 91 = .ok (.aload_n 0, 1) := by decide +kernel
theorem dX10_readRange_92 : decode cX10_readRange 92 = .ok (.aload_n 0, 1) := by decide +kernel
theorem dX10_readRange_93 : decode cX10_readRange 93 = .ok (.bipush 58, 2) := by decide +kernel
theorem dX10_readRange_95 : decode cX10_readRange 95 = .ok (.invokevirtual 105, 3) := by decide +kernel
theorem dX10_readRange_98 : decode cX10_readRange 98 = .ok (.invokevirtual 92, 3) := by decide +kernel
theorem dX10_readRange_101 : decode cX10_readRange 101 = .ok (.pop, 1) := by decide +kernel
theorem dX10_readRange_102 : decode cX10_readRange 102 = .ok (.aload_n 0, 1) := by decide +kernel
theorem dX10_readRange_103 : decode cX10_readRange 103 = .ok (.iconst 0, 1) := by decide +kernel
theorem dX10_readRange_104 : decode cX10_readRange 104 = .ok (.iload_n 2, 1) := by decide +kernel
theorem dX10_readRange_105 : decode cX10_readRange 105 = .ok (.invokevirtual 108, 3) := by decide +kernel
theorem dX10_readRange_108 : decode cX10_readRange 108 = .ok (.istore_n 3, 1) := by decide +kernel
theorem dX10_readRange_109 : decode cX10_readRange 109 = .ok (.aload_n 0, 1) := by decide +kernel
theorem dX10_readRange_110 : decode cX10_readRange 110 = .ok (.aload_n 0, 1) := by decide +kernel
theorem dX10_readRange_111 : decode cX10_readRange 111 = .ok (.bipush 93, 2) := by decide +kernel
theorem dX10_readRange_113 : decode cX10_readRange 113 = .ok (.invokevirtual 105, 3) := by decide +kernel
theorem dX10_readRange_116 : decode cX10_readRange 116 = .ok (.invokevirtual 92, 3) := by decide +kernel
theorem dX10_readRange_119 : decode cX10_readRange 119 = .ok (.pop, 1) := by decide +kernel
theorem dX10_readRange_120 : decode cX10_readRange 120 = .ok (.iload_n 2, 1) := by decide +kernel
theorem dX10_readRange_121 : decode cX10_readRange 121 = .ok (.istore 4, 2) := by decide +kernel
theorem dX10_readRange_123 : decode cX10_readRange 123 = .ok (.aload_n 0, 1) := by decide +kernel
theorem dX10_readRange_124 : decode cX10_readRange 124 = .ok (.invokevirtual 85, 3) := by decide +kernel
theorem dX10_readRange_127 : decode cX10_readRange 127 = .ok (.ifCond .eq 29, 3) := by decide +kernel
theorem dX10_readRange_130 : decode cX10_readRange 130 = .ok (.iload 4, 2) := by decide +kernel
theorem dX10_readRange_132 : decode cX10_readRange 132 = .ok (.iload_n 3, 1) := by decide +kernel
theorem dX10_readRange_133 : decode cX10_readRange 133 = .ok (.if_icmp .lt 23, 3) := by decide +kernel
theorem dX10_readRange_136 : decode cX10_readRange 136 = .ok (.aload_n 0, 1) := by decide +kernel
theorem dX10_readRange_137 : decode cX10_readRange 137 = .ok (.bipush 16, 2) := by decide +kernel
theorem dX10_readRange_139 : decode cX10_readRange 139 = .ok (.bipush 16, 2) := by decide +kernel
theorem dX10_readRange_141 : decode cX10_readRange 141 = .ok (.iload_n 1, 1) := by decide +kernel
theorem dX10_readRange_142 : decode cX10_readRange 142 = .ok (.imul, 1) := by decide +kernel
theorem dX10_readRange_143 : decode cX10_readRange 143 = .ok (.iadd, 1) := by decide +kernel
theorem dX10_readRange_144 : decode cX10_readRange 144 = .ok (.iload 4, 2) := by decide +kernel
theorem dX10_readRange_146 : decode cX10_readRange 146 = .ok (.iadd, 1) := by decide +kernel
theorem dX10_readRange_147 : decode cX10_readRange 147 = .ok (.invokevirtual 112, 3) := by decide +kernel
theorem dX10_readRange_150 : decode cX10_readRange 150 = .ok (.iinc 4 (-1), 3) := by decide +kernel
theorem dX10_readRange_153 : decode cX10_readRange 153 = .ok (.goto (-30), 3) := by decide +kernel
theorem dX10_readRange_156 : decode cX10_readRange 156 = .ok (.return_, 1) := by decide +kernel
theorem dX10_readConstant_0 : decode cX10_readConstant 0 = .ok (.aload_n 0, 1) := by decide +kernel
theorem dX10_readConstant_1 : decode cX10_readConstant 1 = .ok (.aload_n 0, 1) := by decide +kernel
theorem dX10_readConstant_2 : decode cX10_readConstant 2 = .ok (.bipush 37, 2) := by decide +kernel
theorem dX10_readConstant_4 : decode cX10_readConstant 4 = .ok (.invokevirtual 105, 3) := by decide +kernel
theorem dX10_readConstant_7 : decode cX10_readConstant 7 = .ok (.invokevirtual 92, 3) := by decide +kernel
theorem dX10_readConstant_10 : decode cX10_readConstant 10 = .ok (.pop, 1) := by decide +kernel
theorem dX10_readConstant_11 : decode cX10_readConstant 11 = .ok (.aload_n 0, 1) := by decide +kernel
theorem dX10_readConstant_12 : decode cX10_readConstant 12 = .ok (.getfield 57, 3) := by decide +kernel
theorem dX10_readConstant_15 : decode cX10_readConstant 15 = .ok (.istore_n 1, 1) := by decide +kernel
theorem dX10_readConstant_16 : decode cX10_readConstant 16 = .ok (.aload_n 0, 1) := by decide +kernel
theorem dX10_readConstant_17 : decode cX10_readConstant 17 = .ok (.getfield 54, 3) := by decide +kernel
theorem dX10_readConstant_20 : decode cX10_readConstant 20 = .ok (.istore_n 2, 1) := by decide +kernel
theorem dX10_readConstant_21 : decode cX10_readConstant 21 = .ok (.aload_n 0, 1) := by decide +kernel
theorem dX10_readConstant_22 : decode cX10_readConstant 22 = .ok (.getfield 71, 3) := by decide +kernel
theorem dX10_readConstant_25 : decode cX10_readConstant 25 = .ok (.iconst 2, 1) := by decide +kernel
theorem dX10_readConstant_26 : decode cX10_readConstant 26 = .ok (.if_icmp .ne 15, 3) := by decide +kernel
theorem dX10_readConstant_29 : decode cX10_readConstant 29 = .ok (.iload_n 2, 1) := by decide +kernel
theorem dX10_readConstant_30 : decode cX10_readConstant 30 = .ok (.iload_n 1, 1) := by decide +kernel
theorem dX10_readConstant_31 : decode cX10_readConstant 31 = .ok (.isub, 1) := by decide +kernel
theorem dX10_readConstant_32 : decode cX10_readConstant 32 = .ok (.bipush 16, 2) := by decide +kernel
theorem dX10_readConstant_34 : decode cX10_readConstant 34 = .ok (.if_icmp .gt 7, 3) := by decide +kernel
theorem dX10_readConstant_37 : decode cX10_readConstant 37 = .ok (.iconst 1, 1) := by decide +kernel
theorem dX10_readConstant_38 : decode cX10_readConstant 38 = .ok (.goto 4, 3) := by decide +kernel
theorem dX10_readConstant_41 : decode cX10_readConstant 41 = .ok (.iconst 0, 1) := by decide +kernel
theorem dX10_readConstant_42 : decode cX10_readConstant 42 = .ok (.istore_n 3, 1) := by decide +kernel
theorem dX10_readConstant_43 : decode cX10_readConstant 43 = .ok (.iload_n 1, 1) := by decide +kernel
theorem dX10_readConstant_44 : decode cX10_readConstant 44 = .ok (.istore 4, 2) := by decide +kernel
theorem dX10_readConstant_46 : decode cX10_readConstant 46 = .ok (.iload 4, 2) := by decide +kernel
theorem dX10_readConstant_48 : decode cX10_readConstant 48 = .ok (.iload_n 2, 1) := by decide +kernel
theorem dX10_readConstant_49 : decode cX10_readConstant 49 = .ok (.if_icmp .ge 31, 3) := by decide +kernel
theorem dX10_readConstant_52 : decode cX10_readConstant 52 = .ok (.iload_n 3, 1) := by decide +kernel
theorem dX10_readConstant_53 : decode cX10_readConstant 53 = .ok (.ifCond .eq 27, 3) := by decide +kernel
theorem dX10_readConstant_56 : decode cX10_readConstant 56 = .ok (.aload_n 0, 1) := by decide +kernel
theorem dX10_readConstant_57 : decode cX10_readConstant 57 = .ok (.getfield 26, 3) := by decide +kernel
theorem dX10_readConstant_60 : decode cX10_readConstant 60 = .ok (.iload 4, 2) := by decide +kernel
theorem dX10_readConstant_62 : decode cX10_readConstant 62 = .ok (.iaload, 1) := by decide +kernel
theorem dX10_readConstant_63 : decode cX10_readConstant 63 = .ok (.bipush 49, 2) := by decide +kernel
theorem dX10_readConstant_65 : decode cX10_readConstant 65 = .ok (.if_icmp .gt 7, 3) := by decide +kernel
theorem dX10_readConstant_68 : decode cX10_readConstant 68 = .ok (.iconst 1, 1) := by decide +kernel
theorem dX10_readConstant_69 : decode cX10_readConstant 69 = .ok (.goto 4, 3) := by decide +kernel
theorem dX10_readConstant_72 : decode cX10_readConstant 72 = .ok (.iconst 0, 1) := by decide +kernel
theorem dX10_readConstant_73 : decode cX10_readConstant 73 = .ok (.istore_n 3, 1) := by decide +kernel
theorem dX10_readConstant_74 : decode cX10_readConstant 74 = .ok (.iinc 4 1, 3) := by decide +kernel
theorem dX10_readConstant_77 : decode cX10_readConstant 77 = .ok (.goto (-31), 3) := by decide +kernel
theorem dX10_readConstant_80 : decode cX10_readConstant 80 = .ok (.aload_n 0, 1) := by decide +kernel
theorem dX10_readConstant_81 : decode cX10_readConstant 81 = .ok (.iload_n 3, 1) := by decide +kernel
theorem dX10_readConstant_82 : decode cX10_readConstant 82 = .ok (.invokevirtual 92, 3) := by decide +kernel
theorem dX10_readConstant_85 : decode cX10_readConstant 85 = .ok (.pop, 1) := by decide +kernel
theorem dX10_readConstant_86 : decode cX10_readConstant 86 = .ok (.iload_n 1, 1) := by decide +kernel
theorem dX10_readConstant_87 : decode cX10_readConstant 87 = .ok (.istore 4, 2) := by decide +kernel
theorem dX10_readConstant_89 : decode cX10_readConstant 89 = .ok (.iload 4, 2) := by decide +kernel
theorem dX10_readConstant_91 : decode cX10_readConstant 91 = .ok (.iload_n 2, 1) := by decide +kernel
theorem dX10_readConstant_92 : decode cX10_readConstant 92 = .ok (.if_icmp .ge 30, 3) := by decide +kernel
theorem dX10_readConstant_95 : decode cX10_readConstant 95 = .ok (.aload_n 0, 1) := by decide +kernel
theorem dX10_readConstant_96 : decode cX10_readConstant 96 = .ok (.invokevirtual 85, 3) := by decide +kernel
theorem dX10_readConstant_99 : decode cX10_readConstant 99 = .ok (.ifCond .eq 23, 3) := by decide +kernel
theorem dX10_readConstant_102 : decode cX10_readConstant 102 = .ok (.aload_n 0, 1) := by decide +kernel
theorem dX10_readConstant_103 : decode cX10_readConstant 103 = .ok (.aload_n 0, 1) := by decide +kernel
theorem dX10_readConstant_104 : decode cX10_readConstant 104 = .ok (.getfield 26, 3) := by decide +kernel
theorem dX10_readConstant_107 : decode cX10_readConstant 107 = .ok (.iload 4, 2) := by decide +kernel
theorem dX10_readConstant_109 : decode cX10_readConstant 109 = .ok (.iaload, 1) := by decide +kernel
theorem dX10_readConstant_110 : decode cX10_readConstant 110 = .ok (.bipush 48, 2) := by decide +kernel
theorem dX10_readConstant_112 : decode cX10_readConstant 112 = .ok (.isub, 1) := by decide +kernel
theorem dX10_readConstant_113 : decode cX10_readConstant 113 = .ok (.invokevirtual 112, 3) := by decide +kernel
theorem dX10_readConstant_116 : decode cX10_readConstant 116 = .ok (.iinc 4 1, 3) := by decide +kernel
theorem dX10_readConstant_119 : decode cX10_readConstant 119 = .ok (.goto (-30), 3) := by decide +kernel
theorem dX10_readConstant_122 : decode cX10_readConstant 122 = .ok (.return_, 1) := by decide +kernel
theorem dX10_readPart_0 : decode cX10_readPart 0 = .ok (.aload_n 0, 1) := by decide +kernel
theorem dX10_readPart_1 : decode cX10_readPart 1 = .ok (.bipush 37, 2) := by decide +kernel
theorem dX10_readPart_3 : decode cX10_readPart 3 = .ok (.invokevirtual 105, 3) := by decide +kernel
theorem dX10_readPart_6 : decode cX10_readPart 6 = .ok (.ifCond .eq 10, 3) := by decide +kernel
theorem dX10_readPart_9 : decode cX10_readPart 9 = .ok (.aload_n 0, 1) := by decide +kernel
theorem dX10_readPart_10 : decode cX10_readPart 10 = .ok (.invokevirtual 116, 3) := by decide +kernel
theorem dX10_readPart_13 : decode cX10_readPart 13 = .ok (.goto 7, 3) := by decide +kernel
theorem dX10_readPart_16 : decode cX10_readPart 16 = .ok (.aload_n 0, 1) := by decide +kernel
theorem dX10_readPart_17 : decode cX10_readPart 17 = .ok (.invokevirtual 119, 3) := by decide +kernel
theorem dX10_readPart_20 : decode cX10_readPart 20 = .ok (.aload_n 0, 1) := by decide +kernel
theorem dX10_readPart_21 : decode cX10_readPart 21 = .ok (.dup, 1) := by decide +kernel
theorem dX10_readPart_22 : decode cX10_readPart 22 = .ok (.getfield 99, 3) := by decide +kernel
theorem dX10_readPart_25 : decode cX10_readPart 25 = .ok (.iconst 1, 1) := by decide +kernel
theorem dX10_readPart_26 : decode cX10_readPart 26 = .ok (.iadd, 1) := by decide +kernel
theorem dX10_readPart_27 : decode cX10_readPart 27 = .ok (.putfield 99, 3) := by decide +kernel
theorem dX10_readPart_30 : decode cX10_readPart 30 = .ok (.return_, 1) := by decide +kernel
theorem dX10_readTerm_0 : decode cX10_readTerm 0 = .ok (.aload_n 0, 1) := by decide +kernel
theorem dX10_readTerm_1 : decode cX10_readTerm 1 = .ok (.iconst 0, 1) := by decide +kernel
theorem dX10_readTerm_2 : decode cX10_readTerm 2 = .ok (.putfield 96, 3) := by decide +kernel
theorem dX10_readTerm_5 : decode cX10_readTerm 5 = .ok (.aload_n 0, 1) := by decide +kernel
theorem dX10_readTerm_6 : decode cX10_readTerm 6 = .ok (.iconst 0, 1) := by decide +kernel
theorem dX10_readTerm_7 : decode cX10_readTerm 7 = .ok (.putfield 99, 3) := by decide +kernel
theorem dX10_readTerm_10 : decode cX10_readTerm 10 = .ok (.aload_n 0, 1) := by decide +kernel
theorem dX10_readTerm_11 : decode cX10_readTerm 11 = .ok (.invokevirtual 122, 3) := by decide +kernel
theorem dX10_readTerm_14 : decode cX10_readTerm 14 = .ok (.aload_n 0, 1) := by decide +kernel
theorem dX10_readTerm_15 : decode cX10_readTerm 15 = .ok (.invokevirtual 85, 3) := by decide +kernel
theorem dX10_readTerm_18 : decode cX10_readTerm 18 = .ok (.ifCond .eq 25, 3) := by decide +kernel
theorem dX10_readTerm_21 : decode cX10_readTerm 21 = .ok (.aload_n 0, 1) := by decide +kernel
theorem dX10_readTerm_22 : decode cX10_readTerm 22 = .ok (.bipush 46, 2) := by decide +kernel
theorem dX10_readTerm_24 : decode cX10_readTerm 24 = .ok (.invokevirtual 105, 3) := by decide +kernel
theorem dX10_readTerm_27 : decode cX10_readTerm 27 = .ok (.ifCond .eq 16, 3) := by decide +kernel
theorem dX10_readTerm_30 : decode cX10_readTerm 30 = .ok (.aload_n 0, 1) := by decide +kernel
theorem dX10_readTerm_31 : decode cX10_readTerm 31 = .ok (.iconst 1, 1) := by decide +kernel
theorem dX10_readTerm_32 : decode cX10_readTerm 32 = .ok (.invokevirtual 92, 3) := by decide +kernel
theorem dX10_readTerm_35 : decode cX10_readTerm 35 = .ok (.pop, 1) := by decide +kernel
theorem dX10_readTerm_36 : decode cX10_readTerm 36 = .ok (.aload_n 0, 1) := by decide +kernel
theorem dX10_readTerm_37 : decode cX10_readTerm 37 = .ok (.invokevirtual 122, 3) := by decide +kernel
theorem dX10_readTerm_40 : decode cX10_readTerm 40 = .ok (.goto (-26), 3) := by decide +kernel
theorem dX10_readTerm_43 : decode cX10_readTerm 43 = .ok (.return_, 1) := by decide +kernel
theorem dX10_putTerm_0 : decode cX10_putTerm 0 = .ok (.iconst 0, 1) := by decide +kernel
theorem dX10_putTerm_1 : decode cX10_putTerm 1 = .ok (.istore_n 2, 1) := by decide +kernel
theorem dX10_putTerm_2 : decode cX10_putTerm 2 = .ok (.iload_n 2, 1) := by decide +kernel
theorem dX10_putTerm_3 : decode cX10_putTerm 3 = .ok (.aload_n 0, 1) := by decide +kernel
theorem dX10_putTerm_4 : decode cX10_putTerm 4 = .ok (.getfield 96, 3) := by decide +kernel
theorem dX10_putTerm_7 : decode cX10_putTerm 7 = .ok (.if_icmp .ge 36, 3) := by decide +kernel
theorem dX10_putTerm_10 : decode cX10_putTerm 10 = .ok (.iload_n 2, 1) := by decide +kernel
theorem dX10_putTerm_11 : decode cX10_putTerm 11 = .ok (.bipush 16, 2) := by decide +kernel
theorem dX10_putTerm_13 : decode cX10_putTerm 13 = .ok (.if_icmp .ge 30, 3) := by decide +kernel
theorem dX10_putTerm_16 : decode cX10_putTerm 16 = .ok (.aload_n 0, 1) := by decide +kernel
theorem dX10_putTerm_17 : decode cX10_putTerm 17 = .ok (.getfield 13, 3) := by decide +kernel
theorem dX10_putTerm_20 : decode cX10_putTerm 20 = .ok (.iload_n 1, 1) := by decide +kernel
theorem dX10_putTerm_21 : decode cX10_putTerm 21 = .ok (.iload_n 2, 1) := by decide +kernel
theorem dX10_putTerm_22 : decode cX10_putTerm 22 = .ok (.iadd, 1) := by decide +kernel
theorem dX10_putTerm_23 : decode cX10_putTerm 23 = .ok (.aload_n 0, 1) := by decide +kernel
theorem dX10_putTerm_24 : decode cX10_putTerm 24 = .ok (.getfield 29, 3) := by decide +kernel
theorem dX10_putTerm_27 : decode cX10_putTerm 27 = .ok (.aload_n 0, 1) := by decide +kernel
theorem dX10_putTerm_28 : decode cX10_putTerm 28 = .ok (.getfield 96, 3) := by decide +kernel
theorem dX10_putTerm_31 : decode cX10_putTerm 31 = .ok (.iconst 1, 1) := by decide +kernel
theorem dX10_putTerm_32 : decode cX10_putTerm 32 = .ok (.isub, 1) := by decide +kernel
theorem dX10_putTerm_33 : decode cX10_putTerm 33 = .ok (.iload_n 2, 1) := by decide +kernel
theorem dX10_putTerm_34 : decode cX10_putTerm 34 = .ok (.isub, 1) := by decide +kernel
theorem dX10_putTerm_35 : decode cX10_putTerm 35 = .ok (.iaload, 1) := by decide +kernel
theorem dX10_putTerm_36 : decode cX10_putTerm 36 = .ok (.iastore, 1) := by decide +kernel
theorem dX10_putTerm_37 : decode cX10_putTerm 37 = .ok (.iinc 2 1, 3) := by decide +kernel
theorem dX10_putTerm_40 : decode cX10_putTerm 40 = .ok (.goto (-38), 3) := by decide +kernel
theorem dX10_putTerm_43 : decode cX10_putTerm 43 = .ok (.return_, 1) := by decide +kernel
theorem dX10_readStatement_0 : decode cX10_readStatement 0 = .ok (.iload_n 1, 1) := by decide +kernel
theorem dX10_readStatement_1 : decode cX10_readStatement 1 = .ok (.ifCond .eq 16, 3) := by decide +kernel
theorem dX10_readStatement_4 : decode cX10_readStatement 4 = .ok (.bipush 10, 2) := by decide +kernel
theorem dX10_readStatement_6 : decode cX10_readStatement 6 = .ok (.aload_n 0, 1) := by decide +kernel
theorem dX10_readStatement_7 : decode cX10_readStatement 7 = .ok (.getfield 13, 3) := by decide +kernel
theorem dX10_readStatement_10 : decode cX10_readStatement 10 = .ok (.bipush 9, 2) := by decide +kernel
theorem dX10_readStatement_12 : decode cX10_readStatement 12 = .ok (.iaload, 1) := by decide +kernel
theorem dX10_readStatement_13 : decode cX10_readStatement 13 = .ok (.iadd, 1) := by decide +kernel
theorem dX10_readStatement_14 : decode cX10_readStatement 14 = .ok (.goto 10, 3) := by decide +kernel
theorem dX10_readStatement_17 : decode cX10_readStatement 17 = .ok (.aload_n 0, 1) := by decide +kernel
theorem dX10_readStatement_18 : decode cX10_readStatement 18 = .ok (.getfield 13, 3) := by decide +kernel
theorem dX10_readStatement_21 : decode cX10_readStatement 21 = .ok (.bipush 8, 2) := by decide +kernel
theorem dX10_readStatement_23 : decode cX10_readStatement 23 = .ok (.iaload, 1) := by decide +kernel
theorem dX10_readStatement_24 : decode cX10_readStatement 24 = .ok (.istore_n 2, 1) := by decide +kernel
theorem dX10_readStatement_25 : decode cX10_readStatement 25 = .ok (.bipush 10, 2) := by decide +kernel
theorem dX10_readStatement_27 : decode cX10_readStatement 27 = .ok (.bipush 33, 2) := by decide +kernel
theorem dX10_readStatement_29 : decode cX10_readStatement 29 = .ok (.iload_n 2, 1) := by decide +kernel
theorem dX10_readStatement_30 : decode cX10_readStatement 30 = .ok (.imul, 1) := by decide +kernel
theorem dX10_readStatement_31 : decode cX10_readStatement 31 = .ok (.iadd, 1) := by decide +kernel
theorem dX10_readStatement_32 : decode cX10_readStatement 32 = .ok (.istore_n 3, 1) := by decide +kernel
theorem dX10_readStatement_33 : decode cX10_readStatement 33 = .ok (.aload_n 0, 1) := by decide +kernel
theorem dX10_readStatement_34 : decode cX10_readStatement 34 = .ok (.invokevirtual 125, 3) := by decide +kernel
theorem dX10_readStatement_37 : decode cX10_readStatement 37 = .ok (.aload_n 0, 1) := by decide +kernel
theorem dX10_readStatement_38 : decode cX10_readStatement 38 = .ok (.getfield 96, 3) := by decide +kernel
theorem dX10_readStatement_41 : decode cX10_readStatement 41 = .ok (.istore 4, 2) := by decide +kernel
theorem dX10_readStatement_43 : decode cX10_readStatement 43 = .ok (.aload_n 0, 1) := by decide +kernel
theorem dX10_readStatement_44 : decode cX10_readStatement 44 = .ok (.aload_n 0, 1) := by decide +kernel
theorem dX10_readStatement_45 : decode cX10_readStatement 45 = .ok (.bipush 61, 2) := by decide +kernel
theorem dX10_readStatement_47 : decode cX10_readStatement 47 = .ok (.invokevirtual 105, 3) := by decide +kernel
theorem dX10_readStatement_50 : decode cX10_readStatement 50 = .ok (.ifCond .eq 14, 3) := by decide +kernel
theorem dX10_readStatement_53 : decode cX10_readStatement 53 = .ok (.iload 4, 2) := by decide +kernel
theorem dX10_readStatement_55 : decode cX10_readStatement 55 = .ok (.bipush 16, 2) := by decide +kernel
theorem dX10_readStatement_57 : decode cX10_readStatement 57 = .ok (.if_icmp .gt 7, 3) := by decide +kernel
theorem dX10_readStatement_60 : decode cX10_readStatement 60 = .ok (.iconst 1, 1) := by decide +kernel
theorem dX10_readStatement_61 : decode cX10_readStatement 61 = .ok (.goto 4, 3) := by decide +kernel
theorem dX10_readStatement_64 : decode cX10_readStatement 64 = .ok (.iconst 0, 1) := by decide +kernel
theorem dX10_readStatement_65 : decode cX10_readStatement 65 = .ok (.invokevirtual 92, 3) := by decide +kernel
theorem dX10_readStatement_68 : decode cX10_readStatement 68 = .ok (.pop, 1) := by decide +kernel
theorem dX10_readStatement_69 : decode cX10_readStatement 69 = .ok (.aload_n 0, 1) := by decide +kernel
theorem dX10_readStatement_70 : decode cX10_readStatement 70 = .ok (.invokevirtual 85, 3) := by decide +kernel
theorem dX10_readStatement_73 : decode cX10_readStatement 73 = .ok (.ifCond .eq 18, 3) := by decide +kernel
theorem dX10_readStatement_76 : decode cX10_readStatement 76 = .ok (.aload_n 0, 1) := by decide +kernel
theorem dX10_readStatement_77 : decode cX10_readStatement 77 = .ok (.getfield 13, 3) := by decide +kernel
theorem dX10_readStatement_80 : decode cX10_readStatement 80 = .ok (.iload_n 3, 1) := by decide +kernel
theorem dX10_readStatement_81 : decode cX10_readStatement 81 = .ok (.iload 4, 2) := by decide +kernel
theorem dX10_readStatement_83 : decode cX10_readStatement 83 = .ok (.iastore, 1) := by decide +kernel
theorem dX10_readStatement_84 : decode cX10_readStatement 84 = .ok (.aload_n 0, 1) := by decide +kernel
theorem dX10_readStatement_85 : decode cX10_readStatement 85 = .ok (.iload_n 3, 1) := by decide +kernel
theorem dX10_readStatement_86 : decode cX10_readStatement 86 = .ok (.iconst 1, 1) := by decide +kernel
theorem dX10_readStatement_87 : decode cX10_readStatement 87 = .ok (.iadd, 1) := by decide +kernel
theorem dX10_readStatement_88 : decode cX10_readStatement 88 = .ok (.invokevirtual 128, 3) := by decide +kernel
theorem dX10_readStatement_91 : decode cX10_readStatement 91 = .ok (.aload_n 0, 1) := by decide +kernel
theorem dX10_readStatement_92 : decode cX10_readStatement 92 = .ok (.invokevirtual 85, 3) := by decide +kernel
theorem dX10_readStatement_95 : decode cX10_readStatement 95 = .ok (.ifCond .eq 7, 3) := by decide +kernel
theorem dX10_readStatement_98 : decode cX10_readStatement 98 = .ok (.aload_n 0, 1) := by decide +kernel
theorem dX10_readStatement_99 : decode cX10_readStatement 99 = .ok (.invokevirtual 125, 3) := by decide +kernel
theorem dX10_readStatement_102 : decode cX10_readStatement 102 = .ok (.aload_n 0, 1) := by decide +kernel
theorem dX10_readStatement_103 : decode cX10_readStatement 103 = .ok (.aload_n 0, 1) := by decide +kernel
theorem dX10_readStatement_104 : decode cX10_readStatement 104 = .ok (.bipush 59, 2) := by decide +kernel
theorem dX10_readStatement_106 : decode cX10_readStatement 106 = .ok (.invokevirtual 105, 3) := by decide +kernel
theorem dX10_readStatement_109 : decode cX10_readStatement 109 = .ok (.ifCond .eq 16, 3) := by decide +kernel
theorem dX10_readStatement_112 : decode cX10_readStatement 112 = .ok (.aload_n 0, 1) := by decide +kernel
theorem dX10_readStatement_113 : decode cX10_readStatement 113 = .ok (.getfield 96, 3) := by decide +kernel
theorem dX10_readStatement_116 : decode cX10_readStatement 116 = .ok (.iload 4, 2) := by decide +kernel
theorem dX10_readStatement_118 : decode cX10_readStatement 118 = .ok (.if_icmp .ne 7, 3) := by decide +kernel
theorem dX10_readStatement_121 : decode cX10_readStatement 121 = .ok (.iconst 1, 1) := by decide +kernel
theorem dX10_readStatement_122 : decode cX10_readStatement 122 = .ok (.goto 4, 3) := by decide +kernel
theorem dX10_readStatement_125 : decode cX10_readStatement 125 = .ok (.iconst 0, 1) := by decide +kernel
theorem dX10_readStatement_126 : decode cX10_readStatement 126 = .ok (.invokevirtual 92, 3) := by decide +kernel
theorem dX10_readStatement_129 : decode cX10_readStatement 129 = .ok (.pop, 1) := by decide +kernel
theorem dX10_readStatement_130 : decode cX10_readStatement 130 = .ok (.aload_n 0, 1) := by decide +kernel
theorem dX10_readStatement_131 : decode cX10_readStatement 131 = .ok (.invokevirtual 85, 3) := by decide +kernel
theorem dX10_readStatement_134 : decode cX10_readStatement 134 = .ok (.ifCond .eq 33, 3) := by decide +kernel
theorem dX10_readStatement_137 : decode cX10_readStatement 137 = .ok (.aload_n 0, 1) := by decide +kernel
theorem dX10_readStatement_138 : decode cX10_readStatement 138 = .ok (.iload_n 3, 1) := by decide +kernel
theorem dX10_readStatement_139 : decode cX10_readStatement 139 = .ok (.iconst 1, 1) := by decide +kernel
theorem dX10_readStatement_140 : decode cX10_readStatement 140 = .ok (.iadd, 1) := by decide +kernel
theorem dX10_readStatement_141 : decode cX10_readStatement 141 = .ok (.bipush 16, 2) := by decide +kernel
theorem dX10_readStatement_143 : decode cX10_readStatement 143 = .ok (.iadd, 1) := by decide +kernel
theorem dX10_readStatement_144 : decode cX10_readStatement 144 = .ok (.invokevirtual 128, 3) := by decide +kernel
theorem dX10_readStatement_147 : decode cX10_readStatement 147 = .ok (.aload_n 0, 1) := by decide +kernel
theorem dX10_readStatement_148 : decode cX10_readStatement 148 = .ok (.getfield 13, 3) := by decide +kernel
theorem dX10_readStatement_151 : decode cX10_readStatement 151 = .ok (.iload_n 1, 1) := by decide +kernel
theorem dX10_readStatement_152 : decode cX10_readStatement 152 = .ok (.ifCond .eq 8, 3) := by decide +kernel
theorem dX10_readStatement_155 : decode cX10_readStatement 155 = .ok (.bipush 9, 2) := by decide +kernel
theorem dX10_readStatement_157 : decode cX10_readStatement 157 = .ok (.goto 5, 3) := by decide +kernel
theorem dX10_readStatement_160 : decode cX10_readStatement 160 = .ok (.bipush 8, 2) := by decide +kernel
theorem dX10_readStatement_162 : decode cX10_readStatement 162 = .ok (.dup2, 1) := by decide +kernel
theorem dX10_readStatement_163 : decode cX10_readStatement 163 = .ok (.iaload, 1) := by decide +kernel
theorem dX10_readStatement_164 : decode cX10_readStatement 164 = .ok (.iconst 1, 1) := by decide +kernel
theorem dX10_readStatement_165 : decode cX10_readStatement 165 = .ok (.iadd, 1) := by decide +kernel
theorem dX10_readStatement_166 : decode cX10_readStatement 166 = .ok (.iastore, 1) := by decide +kernel
theorem dX10_readStatement_167 : decode cX10_readStatement 167 = .ok (.return_, 1) := by decide +kernel
theorem dX10_readDeclaration_0 : decode cX10_readDeclaration 0 = .ok (.aload_n 0, 1) := by decide +kernel
theorem dX10_readDeclaration_1 : decode cX10_readDeclaration 1 = .ok (.iconst 1, 1) := by decide +kernel
theorem dX10_readDeclaration_2 : decode cX10_readDeclaration 2 = .ok (.invokevirtual 92, 3) := by decide +kernel
theorem dX10_readDeclaration_5 : decode cX10_readDeclaration 5 = .ok (.pop, 1) := by decide +kernel
theorem dX10_readDeclaration_6 : decode cX10_readDeclaration 6 = .ok (.aload_n 0, 1) := by decide +kernel
theorem dX10_readDeclaration_7 : decode cX10_readDeclaration 7 = .ok (.aload_n 0, 1) := by decide +kernel
theorem dX10_readDeclaration_8 : decode cX10_readDeclaration 8 = .ok (.invokevirtual 102, 3) := by decide +kernel
theorem dX10_readDeclaration_11 : decode cX10_readDeclaration 11 = .ok (.ifCond .eq 30, 3) := by decide +kernel
theorem dX10_readDeclaration_14 : decode cX10_readDeclaration 14 = .ok (.aload_n 0, 1) := by decide +kernel
theorem dX10_readDeclaration_15 : decode cX10_readDeclaration 15 = .ok (.getfield 13, 3) := by decide +kernel
theorem dX10_readDeclaration_18 : decode cX10_readDeclaration 18 = .ok (.aload_n 0, 1) := by decide +kernel
theorem dX10_readDeclaration_19 : decode cX10_readDeclaration 19 = .ok (.invokevirtual 102, 3) := by decide +kernel
theorem dX10_readDeclaration_22 : decode cX10_readDeclaration 22 = .ok (.ifCond .eq 10, 3) := by decide +kernel
theorem dX10_readDeclaration_25 : decode cX10_readDeclaration 25 = .ok (.aload_n 0, 1) := by decide +kernel
theorem dX10_readDeclaration_26 : decode cX10_readDeclaration 26 = .ok (.getfield 68, 3) := by decide +kernel
theorem dX10_readDeclaration_29 : decode cX10_readDeclaration 29 = .ok (.goto 4, 3) := by decide +kernel
theorem dX10_readDeclaration_32 : decode cX10_readDeclaration 32 = .ok (.iconst 0, 1) := by decide +kernel
theorem dX10_readDeclaration_33 : decode cX10_readDeclaration 33 = .ok (.iaload, 1) := by decide +kernel
theorem dX10_readDeclaration_34 : decode cX10_readDeclaration 34 = .ok (.ifCond .ne 7, 3) := by decide +kernel
theorem dX10_readDeclaration_37 : decode cX10_readDeclaration 37 = .ok (.iconst 1, 1) := by decide +kernel
theorem dX10_readDeclaration_38 : decode cX10_readDeclaration 38 = .ok (.goto 4, 3) := by decide +kernel
theorem dX10_readDeclaration_41 : decode cX10_readDeclaration 41 = .ok (.iconst 0, 1) := by decide +kernel
theorem dX10_readDeclaration_42 : decode cX10_readDeclaration 42 = .ok (.invokevirtual 92, 3) := by decide +kernel
theorem dX10_readDeclaration_45 : decode cX10_readDeclaration 45 = .ok (.istore_n 1, 1) := by decide +kernel
theorem dX10_readDeclaration_46 : decode cX10_readDeclaration 46 = .ok (.aload_n 0, 1) := by decide +kernel
theorem dX10_readDeclaration_47 : decode cX10_readDeclaration 47 = .ok (.iconst 1, 1) := by decide +kernel
theorem dX10_readDeclaration_48 : decode cX10_readDeclaration 48 = .ok (.bipush 16, 2) := by decide +kernel
theorem dX10_readDeclaration_50 : decode cX10_readDeclaration 50 = .ok (.invokevirtual 108, 3) := by decide +kernel
theorem dX10_readDeclaration_53 : decode cX10_readDeclaration 53 = .ok (.istore_n 2, 1) := by decide +kernel
theorem dX10_readDeclaration_54 : decode cX10_readDeclaration 54 = .ok (.aload_n 0, 1) := by decide +kernel
theorem dX10_readDeclaration_55 : decode cX10_readDeclaration 55 = .ok (.aload_n 0, 1) := by decide +kernel
theorem dX10_readDeclaration_56 : decode cX10_readDeclaration 56 = .ok (.bipush 59, 2) := by decide +kernel
theorem dX10_readDeclaration_58 : decode cX10_readDeclaration 58 = .ok (.invokevirtual 105, 3) := by decide +kernel
theorem dX10_readDeclaration_61 : decode cX10_readDeclaration 61 = .ok (.invokevirtual 92, 3) := by decide +kernel
theorem dX10_readDeclaration_64 : decode cX10_readDeclaration 64 = .ok (.pop, 1) := by decide +kernel
theorem dX10_readDeclaration_65 : decode cX10_readDeclaration 65 = .ok (.aload_n 0, 1) := by decide +kernel
theorem dX10_readDeclaration_66 : decode cX10_readDeclaration 66 = .ok (.invokevirtual 85, 3) := by decide +kernel
theorem dX10_readDeclaration_69 : decode cX10_readDeclaration 69 = .ok (.ifCond .eq 10, 3) := by decide +kernel
theorem dX10_readDeclaration_72 : decode cX10_readDeclaration 72 = .ok (.aload_n 0, 1) := by decide +kernel
theorem dX10_readDeclaration_73 : decode cX10_readDeclaration 73 = .ok (.getfield 13, 3) := by decide +kernel
theorem dX10_readDeclaration_76 : decode cX10_readDeclaration 76 = .ok (.iload_n 1, 1) := by decide +kernel
theorem dX10_readDeclaration_77 : decode cX10_readDeclaration 77 = .ok (.iload_n 2, 1) := by decide +kernel
theorem dX10_readDeclaration_78 : decode cX10_readDeclaration 78 = .ok (.iastore, 1) := by decide +kernel
theorem dX10_readDeclaration_79 : decode cX10_readDeclaration 79 = .ok (.return_, 1) := by decide +kernel
theorem dX10_readItem_0 : decode cX10_readItem 0 = .ok (.aload_n 0, 1) := by decide +kernel
theorem dX10_readItem_1 : decode cX10_readItem 1 = .ok (.getfield 71, 3) := by decide +kernel
theorem dX10_readItem_4 : decode cX10_readItem 4 = .ok (.iconst 1, 1) := by decide +kernel
theorem dX10_readItem_5 : decode cX10_readItem 5 = .ok (.if_icmp .ne 19, 3) := by decide +kernel
theorem dX10_readItem_8 : decode cX10_readItem 8 = .ok (.aload_n 0, 1) := by decide +kernel
theorem dX10_readItem_9 : decode cX10_readItem 9 = .ok (.getfield 68, 3) := by decide +kernel
theorem dX10_readItem_12 : decode cX10_readItem 12 = .ok (.bipush 8, 2) := by decide +kernel
theorem dX10_readItem_14 : decode cX10_readItem 14 = .ok (.if_icmp .ne 10, 3) := by decide +kernel
theorem dX10_readItem_17 : decode cX10_readItem 17 = .ok (.aload_n 0, 1) := by decide +kernel
theorem dX10_readItem_18 : decode cX10_readItem 18 = .ok (.invokevirtual 131, 3) := by decide +kernel
theorem dX10_readItem_21 : decode cX10_readItem 21 = .ok (.goto 98, 3) := by decide +kernel
theorem dX10_readItem_24 : decode cX10_readItem 24 = .ok (.aload_n 0, 1) := by decide +kernel
theorem dX10_readItem_25 : decode cX10_readItem 25 = .ok (.getfield 71, 3) := by decide +kernel
theorem dX10_readItem_28 : decode cX10_readItem 28 = .ok (.iconst 1, 1) := by decide +kernel
theorem dX10_readItem_29 : decode cX10_readItem 29 = .ok (.if_icmp .ne 48, 3) := by decide +kernel
theorem dX10_readItem_32 : decode cX10_readItem 32 = .ok (.aload_n 0, 1) := by decide +kernel
theorem dX10_readItem_33 : decode cX10_readItem 33 = .ok (.getfield 68, 3) := by decide +kernel
theorem dX10_readItem_36 : decode cX10_readItem 36 = .ok (.bipush 9, 2) := by decide +kernel
theorem dX10_readItem_38 : decode cX10_readItem 38 = .ok (.if_icmp .ne 39, 3) := by decide +kernel
theorem dX10_readItem_41 : decode cX10_readItem 41 = .ok (.aload_n 0, 1) := by decide +kernel
theorem dX10_readItem_42 : decode cX10_readItem 42 = .ok (.aload_n 0, 1) := by decide +kernel
theorem dX10_readItem_43 : decode cX10_readItem 43 = .ok (.getfield 13, 3) := by decide +kernel
theorem dX10_readItem_46 : decode cX10_readItem 46 = .ok (.bipush 9, 2) := by decide +kernel
theorem dX10_readItem_48 : decode cX10_readItem 48 = .ok (.iaload, 1) := by decide +kernel
theorem dX10_readItem_49 : decode cX10_readItem 49 = .ok (.iconst 3, 1) := by decide +kernel
theorem dX10_readItem_50 : decode cX10_readItem 50 = .ok (.if_icmp .ge 7, 3) := by decide +kernel
theorem dX10_readItem_53 : decode cX10_readItem 53 = .ok (.iconst 1, 1) := by decide +kernel
theorem dX10_readItem_54 : decode cX10_readItem 54 = .ok (.goto 4, 3) := by decide +kernel
theorem dX10_readItem_57 : decode cX10_readItem 57 = .ok (.iconst 0, 1) := by decide +kernel
theorem dX10_readItem_58 : decode cX10_readItem 58 = .ok (.invokevirtual 92, 3) := by decide +kernel
theorem dX10_readItem_61 : decode cX10_readItem 61 = .ok (.pop, 1) := by decide +kernel
theorem dX10_readItem_62 : decode cX10_readItem 62 = .ok (.aload_n 0, 1) := by decide +kernel
theorem dX10_readItem_63 : decode cX10_readItem 63 = .ok (.invokevirtual 85, 3) := by decide +kernel
theorem dX10_readItem_66 : decode cX10_readItem 66 = .ok (.ifCond .eq 53, 3) := by decide +kernel
theorem dX10_readItem_69 : decode cX10_readItem 69 = .ok (.aload_n 0, 1) := by decide +kernel
theorem dX10_readItem_70 : decode cX10_readItem 70 = .ok (.iconst 1, 1) := by decide +kernel
theorem dX10_readItem_71 : decode cX10_readItem 71 = .ok (.invokevirtual 134, 3) := by decide +kernel
theorem dX10_readItem_74 : decode cX10_readItem 74 = .ok (.goto 45, 3) := by decide +kernel
theorem dX10_readItem_77 : decode cX10_readItem 77 = .ok (.aload_n 0, 1) := by decide +kernel
theorem dX10_readItem_78 : decode cX10_readItem 78 = .ok (.invokevirtual 102, 3) := by decide +kernel
theorem dX10_readItem_81 : decode cX10_readItem 81 = .ok (.ifCond .ne 12, 3) := by decide +kernel
theorem dX10_readItem_84 : decode cX10_readItem 84 = .ok (.aload_n 0, 1) := by decide +kernel
theorem dX10_readItem_85 : decode cX10_readItem 85 = .ok (.bipush 37, 2) := by decide +kernel
theorem dX10_readItem_87 : decode cX10_readItem 87 = .ok (.invokevirtual 105, 3) := by decide +kernel
theorem dX10_readItem_90 : decode cX10_readItem 90 = .ok (.ifCond .eq 23, 3) := by decide +kernel
theorem dX10_readItem_93 : decode cX10_readItem 93 = .ok (.aload_n 0, 1) := by decide +kernel
theorem dX10_readItem_94 : decode cX10_readItem 94 = .ok (.getfield 13, 3) := by decide +kernel
theorem dX10_readItem_97 : decode cX10_readItem 97 = .ok (.bipush 8, 2) := by decide +kernel
theorem dX10_readItem_99 : decode cX10_readItem 99 = .ok (.iaload, 1) := by decide +kernel
theorem dX10_readItem_100 : decode cX10_readItem 100 = .ok (.bipush 10, 2) := by decide +kernel
theorem dX10_readItem_102 : decode cX10_readItem 102 = .ok (.if_icmp .ge 11, 3) := by decide +kernel
theorem dX10_readItem_105 : decode cX10_readItem 105 = .ok (.aload_n 0, 1) := by decide +kernel
theorem dX10_readItem_106 : decode cX10_readItem 106 = .ok (.iconst 0, 1) := by decide +kernel
theorem dX10_readItem_107 : decode cX10_readItem 107 = .ok (.invokevirtual 134, 3) := by decide +kernel
theorem dX10_readItem_110 : decode cX10_readItem 110 = .ok (.goto 9, 3) := by decide +kernel
theorem dX10_readItem_113 : decode cX10_readItem 113 = .ok (.aload_n 0, 1) := by decide +kernel
theorem dX10_readItem_114 : decode cX10_readItem 114 = .ok (.iconst 0, 1) := by decide +kernel
theorem dX10_readItem_115 : decode cX10_readItem 115 = .ok (.invokevirtual 92, 3) := by decide +kernel
theorem dX10_readItem_118 : decode cX10_readItem 118 = .ok (.pop, 1) := by decide +kernel
theorem dX10_readItem_119 : decode cX10_readItem 119 = .ok (.return_, 1) := by decide +kernel
theorem dX10_append_0 : decode cX10_append 0 = .ok (.aload_n 0, 1) := by decide +kernel
theorem dX10_append_1 : decode cX10_append 1 = .ok (.iconst 0, 1) := by decide +kernel
theorem dX10_append_2 : decode cX10_append 2 = .ok (.putfield 47, 3) := by decide +kernel
theorem dX10_append_5 : decode cX10_append 5 = .ok (.iload_n 1, 1) := by decide +kernel
theorem dX10_append_6 : decode cX10_append 6 = .ok (.iconst 0, 1) := by decide +kernel
theorem dX10_append_7 : decode cX10_append 7 = .ok (.sipush 255, 3) := by decide +kernel
theorem dX10_append_10 : decode cX10_append 10 = .ok (.invokestatic 60, 3) := by decide +kernel
theorem dX10_append_13 : decode cX10_append 13 = .ok (.ifCond .ne 5, 3) := by decide +kernel
theorem dX10_append_16 : decode cX10_append 16 = .ok (.iconst (-1), 1) := by decide +kernel
theorem dX10_append_17 : decode cX10_append 17 = .ok (.ireturn, 1) := by decide +kernel
theorem dX10_append_18 : decode cX10_append 18 = .ok (.aload_n 0, 1) := by decide +kernel
theorem dX10_append_19 : decode cX10_append 19 = .ok (.getfield 51, 3) := by decide +kernel
theorem dX10_append_22 : decode cX10_append 22 = .ok (.sipush 200, 3) := by decide +kernel
theorem dX10_append_25 : decode cX10_append 25 = .ok (.if_icmp .ne 6, 3) := by decide +kernel
theorem dX10_append_28 : decode cX10_append 28 = .ok (.bipush (-3), 2) := by decide +kernel
theorem dX10_append_30 : decode cX10_append 30 = .ok (.ireturn, 1) := by decide +kernel
theorem dX10_append_31 : decode cX10_append 31 = .ok (.aload_n 0, 1) := by decide +kernel
theorem dX10_append_32 : decode cX10_append 32 = .ok (.getfield 26, 3) := by decide +kernel
theorem dX10_append_35 : decode cX10_append 35 = .ok (.aload_n 0, 1) := by decide +kernel
theorem dX10_append_36 : decode cX10_append 36 = .ok (.getfield 51, 3) := by decide +kernel
theorem dX10_append_39 : decode cX10_append 39 = .ok (.iload_n 1, 1) := by decide +kernel
theorem dX10_append_40 : decode cX10_append 40 = .ok (.iastore, 1) := by decide +kernel
theorem dX10_append_41 : decode cX10_append 41 = .ok (.aload_n 0, 1) := by decide +kernel
theorem dX10_append_42 : decode cX10_append 42 = .ok (.dup, 1) := by decide +kernel
theorem dX10_append_43 : decode cX10_append 43 = .ok (.getfield 51, 3) := by decide +kernel
theorem dX10_append_46 : decode cX10_append 46 = .ok (.iconst 1, 1) := by decide +kernel
theorem dX10_append_47 : decode cX10_append 47 = .ok (.iadd, 1) := by decide +kernel
theorem dX10_append_48 : decode cX10_append 48 = .ok (.putfield 51, 3) := by decide +kernel
theorem dX10_append_51 : decode cX10_append 51 = .ok (.aload_n 0, 1) := by decide +kernel
theorem dX10_append_52 : decode cX10_append 52 = .ok (.getfield 51, 3) := by decide +kernel
theorem dX10_append_55 : decode cX10_append 55 = .ok (.ireturn, 1) := by decide +kernel
theorem dX10_clearText_0 : decode cX10_clearText 0 = .ok (.aload_n 0, 1) := by decide +kernel
theorem dX10_clearText_1 : decode cX10_clearText 1 = .ok (.iconst 0, 1) := by decide +kernel
theorem dX10_clearText_2 : decode cX10_clearText 2 = .ok (.putfield 47, 3) := by decide +kernel
theorem dX10_clearText_5 : decode cX10_clearText 5 = .ok (.aload_n 0, 1) := by decide +kernel
theorem dX10_clearText_6 : decode cX10_clearText 6 = .ok (.getfield 51, 3) := by decide +kernel
theorem dX10_clearText_9 : decode cX10_clearText 9 = .ok (.istore_n 1, 1) := by decide +kernel
theorem dX10_clearText_10 : decode cX10_clearText 10 = .ok (.aload_n 0, 1) := by decide +kernel
theorem dX10_clearText_11 : decode cX10_clearText 11 = .ok (.iconst 0, 1) := by decide +kernel
theorem dX10_clearText_12 : decode cX10_clearText 12 = .ok (.putfield 51, 3) := by decide +kernel
theorem dX10_clearText_15 : decode cX10_clearText 15 = .ok (.iload_n 1, 1) := by decide +kernel
theorem dX10_clearText_16 : decode cX10_clearText 16 = .ok (.ireturn, 1) := by decide +kernel
theorem dX10_load_0 : decode cX10_load 0 = .ok (.aload_n 0, 1) := by decide +kernel
theorem dX10_load_1 : decode cX10_load 1 = .ok (.iconst 0, 1) := by decide +kernel
theorem dX10_load_2 : decode cX10_load 2 = .ok (.putfield 47, 3) := by decide +kernel
theorem dX10_load_5 : decode cX10_load 5 = .ok (.iconst 0, 1) := by decide +kernel
theorem dX10_load_6 : decode cX10_load 6 = .ok (.istore_n 1, 1) := by decide +kernel
theorem dX10_load_7 : decode cX10_load 7 = .ok (.iload_n 1, 1) := by decide +kernel
theorem dX10_load_8 : decode cX10_load 8 = .ok (.sipush 439, 3) := by decide +kernel
theorem dX10_load_11 : decode cX10_load 11 = .ok (.if_icmp .ge 16, 3) := by decide +kernel
theorem dX10_load_14 : decode cX10_load 14 = .ok (.aload_n 0, 1) := by decide +kernel
theorem dX10_load_15 : decode cX10_load 15 = .ok (.getfield 13, 3) := by decide +kernel
theorem dX10_load_18 : decode cX10_load 18 = .ok (.iload_n 1, 1) := by decide +kernel
theorem dX10_load_19 : decode cX10_load 19 = .ok (.iconst 0, 1) := by decide +kernel
theorem dX10_load_20 : decode cX10_load 20 = .ok (.iastore, 1) := by decide +kernel
theorem dX10_load_21 : decode cX10_load 21 = .ok (.iinc 1 1, 3) := by decide +kernel
theorem dX10_load_24 : decode cX10_load 24 = .ok (.goto (-17), 3) := by decide +kernel
theorem dX10_load_27 : decode cX10_load 27 = .ok (.aload_n 0, 1) := by decide +kernel
theorem dX10_load_28 : decode cX10_load 28 = .ok (.bipush (-9), 2) := by decide +kernel
theorem dX10_load_30 : decode cX10_load 30 = .ok (.putfield 82, 3) := by decide +kernel
theorem dX10_load_33 : decode cX10_load 33 = .ok (.aload_n 0, 1) := by decide +kernel
theorem dX10_load_34 : decode cX10_load 34 = .ok (.iconst 0, 1) := by decide +kernel
theorem dX10_load_35 : decode cX10_load 35 = .ok (.putfield 54, 3) := by decide +kernel
theorem dX10_load_38 : decode cX10_load 38 = .ok (.aload_n 0, 1) := by decide +kernel
theorem dX10_load_39 : decode cX10_load 39 = .ok (.invokevirtual 89, 3) := by decide +kernel
theorem dX10_load_42 : decode cX10_load 42 = .ok (.aload_n 0, 1) := by decide +kernel
theorem dX10_load_43 : decode cX10_load 43 = .ok (.invokevirtual 85, 3) := by decide +kernel
theorem dX10_load_46 : decode cX10_load 46 = .ok (.ifCond .eq 17, 3) := by decide +kernel
theorem dX10_load_49 : decode cX10_load 49 = .ok (.aload_n 0, 1) := by decide +kernel
theorem dX10_load_50 : decode cX10_load 50 = .ok (.getfield 71, 3) := by decide +kernel
theorem dX10_load_53 : decode cX10_load 53 = .ok (.ifCond .eq 10, 3) := by decide +kernel
theorem dX10_load_56 : decode cX10_load 56 = .ok (.aload_n 0, 1) := by decide +kernel
theorem dX10_load_57 : decode cX10_load 57 = .ok (.invokevirtual 138, 3) := by decide +kernel
theorem dX10_load_60 : decode cX10_load 60 = .ok (.goto (-18), 3) := by decide +kernel
theorem dX10_load_63 : decode cX10_load 63 = .ok (.aload_n 0, 1) := by decide +kernel
theorem dX10_load_64 : decode cX10_load 64 = .ok (.invokevirtual 85, 3) := by decide +kernel
theorem dX10_load_67 : decode cX10_load 67 = .ok (.ifCond .ne 11, 3) := by decide +kernel
theorem dX10_load_70 : decode cX10_load 70 = .ok (.bipush (-10), 2) := by decide +kernel
theorem dX10_load_72 : decode cX10_load 72 = .ok (.aload_n 0, 1) := by decide +kernel
theorem dX10_load_73 : decode cX10_load 73 = .ok (.getfield 82, 3) := by decide +kernel
theorem dX10_load_76 : decode cX10_load 76 = .ok (.isub, 1) := by decide +kernel
theorem dX10_load_77 : decode cX10_load 77 = .ok (.ireturn, 1) := by decide +kernel
theorem dX10_load_78 : decode cX10_load 78 = .ok (.aload_n 0, 1) := by decide +kernel
theorem dX10_load_79 : decode cX10_load 79 = .ok (.invokevirtual 141, 3) := by decide +kernel
theorem dX10_load_82 : decode cX10_load 82 = .ok (.iconst 0, 1) := by decide +kernel
theorem dX10_load_83 : decode cX10_load 83 = .ok (.istore_n 1, 1) := by decide +kernel
theorem dX10_load_84 : decode cX10_load 84 = .ok (.iload_n 1, 1) := by decide +kernel
theorem dX10_load_85 : decode cX10_load 85 = .ok (.sipush 439, 3) := by decide +kernel
theorem dX10_load_88 : decode cX10_load 88 = .ok (.if_icmp .ge 21, 3) := by decide +kernel
theorem dX10_load_91 : decode cX10_load 91 = .ok (.aload_n 0, 1) := by decide +kernel
theorem dX10_load_92 : decode cX10_load 92 = .ok (.getfield 7, 3) := by decide +kernel
theorem dX10_load_95 : decode cX10_load 95 = .ok (.iload_n 1, 1) := by decide +kernel
theorem dX10_load_96 : decode cX10_load 96 = .ok (.aload_n 0, 1) := by decide +kernel
theorem dX10_load_97 : decode cX10_load 97 = .ok (.getfield 13, 3) := by decide +kernel
theorem dX10_load_100 : decode cX10_load 100 = .ok (.iload_n 1, 1) := by decide +kernel
theorem dX10_load_101 : decode cX10_load 101 = .ok (.iaload, 1) := by decide +kernel
theorem dX10_load_102 : decode cX10_load 102 = .ok (.iastore, 1) := by decide +kernel
theorem dX10_load_103 : decode cX10_load 103 = .ok (.iinc 1 1, 3) := by decide +kernel
theorem dX10_load_106 : decode cX10_load 106 = .ok (.goto (-22), 3) := by decide +kernel
theorem dX10_load_109 : decode cX10_load 109 = .ok (.aload_n 0, 1) := by decide +kernel
theorem dX10_load_110 : decode cX10_load 110 = .ok (.iconst 0, 1) := by decide +kernel
theorem dX10_load_111 : decode cX10_load 111 = .ok (.putfield 51, 3) := by decide +kernel
theorem dX10_load_114 : decode cX10_load 114 = .ok (.aload_n 0, 1) := by decide +kernel
theorem dX10_load_115 : decode cX10_load 115 = .ok (.getfield 7, 3) := by decide +kernel
theorem dX10_load_118 : decode cX10_load 118 = .ok (.bipush 8, 2) := by decide +kernel
theorem dX10_load_120 : decode cX10_load 120 = .ok (.iaload, 1) := by decide +kernel
theorem dX10_load_121 : decode cX10_load 121 = .ok (.aload_n 0, 1) := by decide +kernel
theorem dX10_load_122 : decode cX10_load 122 = .ok (.getfield 7, 3) := by decide +kernel
theorem dX10_load_125 : decode cX10_load 125 = .ok (.bipush 9, 2) := by decide +kernel
theorem dX10_load_127 : decode cX10_load 127 = .ok (.iaload, 1) := by decide +kernel
theorem dX10_load_128 : decode cX10_load 128 = .ok (.iadd, 1) := by decide +kernel
theorem dX10_load_129 : decode cX10_load 129 = .ok (.ireturn, 1) := by decide +kernel
theorem dX10_keep_0 : decode cX10_keep 0 = .ok (.aload_n 0, 1) := by decide +kernel
theorem dX10_keep_1 : decode cX10_keep 1 = .ok (.getfield 144, 3) := by decide +kernel
theorem dX10_keep_4 : decode cX10_keep 4 = .ok (.bipush 6, 2) := by decide +kernel
theorem dX10_keep_6 : decode cX10_keep 6 = .ok (.if_icmp .ne 44, 3) := by decide +kernel
theorem dX10_keep_9 : decode cX10_keep 9 = .ok (.iconst 0, 1) := by decide +kernel
theorem dX10_keep_10 : decode cX10_keep 10 = .ok (.istore_n 1, 1) := by decide +kernel
theorem dX10_keep_11 : decode cX10_keep 11 = .ok (.iload_n 1, 1) := by decide +kernel
theorem dX10_keep_12 : decode cX10_keep 12 = .ok (.sipush 2195, 3) := by decide +kernel
theorem dX10_keep_15 : decode cX10_keep 15 = .ok (.if_icmp .ge 25, 3) := by decide +kernel
theorem dX10_keep_18 : decode cX10_keep 18 = .ok (.aload_n 0, 1) := by decide +kernel
theorem dX10_keep_19 : decode cX10_keep 19 = .ok (.getfield 16, 3) := by decide +kernel
theorem dX10_keep_22 : decode cX10_keep 22 = .ok (.iload_n 1, 1) := by decide +kernel
theorem dX10_keep_23 : decode cX10_keep 23 = .ok (.aload_n 0, 1) := by decide +kernel
theorem dX10_keep_24 : decode cX10_keep 24 = .ok (.getfield 16, 3) := by decide +kernel
theorem dX10_keep_27 : decode cX10_keep 27 = .ok (.sipush 439, 3) := by decide +kernel
theorem dX10_keep_30 : decode cX10_keep 30 = .ok (.iload_n 1, 1) := by decide +kernel
theorem dX10_keep_31 : decode cX10_keep 31 = .ok (.iadd, 1) := by decide +kernel
theorem dX10_keep_32 : decode cX10_keep 32 = .ok (.iaload, 1) := by decide +kernel
theorem dX10_keep_33 : decode cX10_keep 33 = .ok (.iastore, 1) := by decide +kernel
theorem dX10_keep_34 : decode cX10_keep 34 = .ok (.iinc 1 1, 3) := by decide +kernel
theorem dX10_keep_37 : decode cX10_keep 37 = .ok (.goto (-26), 3) := by decide +kernel
theorem dX10_keep_40 : decode cX10_keep 40 = .ok (.aload_n 0, 1) := by decide +kernel
theorem dX10_keep_41 : decode cX10_keep 41 = .ok (.dup, 1) := by decide +kernel
theorem dX10_keep_42 : decode cX10_keep 42 = .ok (.getfield 144, 3) := by decide +kernel
theorem dX10_keep_45 : decode cX10_keep 45 = .ok (.iconst 1, 1) := by decide +kernel
theorem dX10_keep_46 : decode cX10_keep 46 = .ok (.isub, 1) := by decide +kernel
theorem dX10_keep_47 : decode cX10_keep 47 = .ok (.putfield 144, 3) := by decide +kernel
theorem dX10_keep_50 : decode cX10_keep 50 = .ok (.iconst 0, 1) := by decide +kernel
theorem dX10_keep_51 : decode cX10_keep 51 = .ok (.istore_n 1, 1) := by decide +kernel
theorem dX10_keep_52 : decode cX10_keep 52 = .ok (.iload_n 1, 1) := by decide +kernel
theorem dX10_keep_53 : decode cX10_keep 53 = .ok (.sipush 439, 3) := by decide +kernel
theorem dX10_keep_56 : decode cX10_keep 56 = .ok (.if_icmp .ge 30, 3) := by decide +kernel
theorem dX10_keep_59 : decode cX10_keep 59 = .ok (.aload_n 0, 1) := by decide +kernel
theorem dX10_keep_60 : decode cX10_keep 60 = .ok (.getfield 16, 3) := by decide +kernel
theorem dX10_keep_63 : decode cX10_keep 63 = .ok (.sipush 439, 3) := by decide +kernel
theorem dX10_keep_66 : decode cX10_keep 66 = .ok (.aload_n 0, 1) := by decide +kernel
theorem dX10_keep_67 : decode cX10_keep 67 = .ok (.getfield 144, 3) := by decide +kernel
theorem dX10_keep_70 : decode cX10_keep 70 = .ok (.imul, 1) := by decide +kernel
theorem dX10_keep_71 : decode cX10_keep 71 = .ok (.iload_n 1, 1) := by decide +kernel
theorem dX10_keep_72 : decode cX10_keep 72 = .ok (.iadd, 1) := by decide +kernel
theorem dX10_keep_73 : decode cX10_keep 73 = .ok (.aload_n 0, 1) := by decide +kernel
theorem dX10_keep_74 : decode cX10_keep 74 = .ok (.getfield 7, 3) := by decide +kernel
theorem dX10_keep_77 : decode cX10_keep 77 = .ok (.iload_n 1, 1) := by decide +kernel
theorem dX10_keep_78 : decode cX10_keep 78 = .ok (.iaload, 1) := by decide +kernel
theorem dX10_keep_79 : decode cX10_keep 79 = .ok (.iastore, 1) := by decide +kernel
theorem dX10_keep_80 : decode cX10_keep 80 = .ok (.iinc 1 1, 3) := by decide +kernel
theorem dX10_keep_83 : decode cX10_keep 83 = .ok (.goto (-31), 3) := by decide +kernel
theorem dX10_keep_86 : decode cX10_keep 86 = .ok (.aload_n 0, 1) := by decide +kernel
theorem dX10_keep_87 : decode cX10_keep 87 = .ok (.dup, 1) := by decide +kernel
theorem dX10_keep_88 : decode cX10_keep 88 = .ok (.getfield 144, 3) := by decide +kernel
theorem dX10_keep_91 : decode cX10_keep 91 = .ok (.iconst 1, 1) := by decide +kernel
theorem dX10_keep_92 : decode cX10_keep 92 = .ok (.iadd, 1) := by decide +kernel
theorem dX10_keep_93 : decode cX10_keep 93 = .ok (.putfield 144, 3) := by decide +kernel
theorem dX10_keep_96 : decode cX10_keep 96 = .ok (.return_, 1) := by decide +kernel
theorem dX10_removeAt_0 : decode cX10_removeAt 0 = .ok (.bipush 10, 2) := by decide +kernel
theorem dX10_removeAt_2 : decode cX10_removeAt 2 = .ok (.bipush 33, 2) := by decide +kernel
theorem dX10_removeAt_4 : decode cX10_removeAt 4 = .ok (.iload_n 1, 1) := by decide +kernel
theorem dX10_removeAt_5 : decode cX10_removeAt 5 = .ok (.imul, 1) := by decide +kernel
theorem dX10_removeAt_6 : decode cX10_removeAt 6 = .ok (.iadd, 1) := by decide +kernel
theorem dX10_removeAt_7 : decode cX10_removeAt 7 = .ok (.istore_n 3, 1) := by decide +kernel
theorem dX10_removeAt_8 : decode cX10_removeAt 8 = .ok (.iload_n 3, 1) := by decide +kernel
theorem dX10_removeAt_9 : decode cX10_removeAt 9 = .ok (.bipush 10, 2) := by decide +kernel
theorem dX10_removeAt_11 : decode cX10_removeAt 11 = .ok (.bipush 33, 2) := by decide +kernel
theorem dX10_removeAt_13 : decode cX10_removeAt 13 = .ok (.iload_n 2, 1) := by decide +kernel
theorem dX10_removeAt_14 : decode cX10_removeAt 14 = .ok (.iconst 1, 1) := by decide +kernel
theorem dX10_removeAt_15 : decode cX10_removeAt 15 = .ok (.isub, 1) := by decide +kernel
theorem dX10_removeAt_16 : decode cX10_removeAt 16 = .ok (.imul, 1) := by decide +kernel
theorem dX10_removeAt_17 : decode cX10_removeAt 17 = .ok (.iadd, 1) := by decide +kernel
theorem dX10_removeAt_18 : decode cX10_removeAt 18 = .ok (.if_icmp .ge 24, 3) := by decide +kernel
theorem dX10_removeAt_21 : decode cX10_removeAt 21 = .ok (.aload_n 0, 1) := by decide +kernel
theorem dX10_removeAt_22 : decode cX10_removeAt 22 = .ok (.getfield 7, 3) := by decide +kernel
theorem dX10_removeAt_25 : decode cX10_removeAt 25 = .ok (.iload_n 3, 1) := by decide +kernel
theorem dX10_removeAt_26 : decode cX10_removeAt 26 = .ok (.aload_n 0, 1) := by decide +kernel
theorem dX10_removeAt_27 : decode cX10_removeAt 27 = .ok (.getfield 7, 3) := by decide +kernel
theorem dX10_removeAt_30 : decode cX10_removeAt 30 = .ok (.iload_n 3, 1) := by decide +kernel
theorem dX10_removeAt_31 : decode cX10_removeAt 31 = .ok (.bipush 33, 2) := by decide +kernel
theorem dX10_removeAt_33 : decode cX10_removeAt 33 = .ok (.iadd, 1) := by decide +kernel
theorem dX10_removeAt_34 : decode cX10_removeAt 34 = .ok (.iaload, 1) := by decide +kernel
theorem dX10_removeAt_35 : decode cX10_removeAt 35 = .ok (.iastore, 1) := by decide +kernel
theorem dX10_removeAt_36 : decode cX10_removeAt 36 = .ok (.iinc 3 1, 3) := by decide +kernel
theorem dX10_removeAt_39 : decode cX10_removeAt 39 = .ok (.goto (-31), 3) := by decide +kernel
theorem dX10_removeAt_42 : decode cX10_removeAt 42 = .ok (.return_, 1) := by decide +kernel
theorem dX10_removeEquation_0 : decode cX10_removeEquation 0 = .ok (.aload_n 0, 1) := by decide +kernel
theorem dX10_removeEquation_1 : decode cX10_removeEquation 1 = .ok (.iconst 0, 1) := by decide +kernel
theorem dX10_removeEquation_2 : decode cX10_removeEquation 2 = .ok (.putfield 47, 3) := by decide +kernel
theorem dX10_removeEquation_5 : decode cX10_removeEquation 5 = .ok (.iload_n 1, 1) := by decide +kernel
theorem dX10_removeEquation_6 : decode cX10_removeEquation 6 = .ok (.iconst 0, 1) := by decide +kernel
theorem dX10_removeEquation_7 : decode cX10_removeEquation 7 = .ok (.aload_n 0, 1) := by decide +kernel
theorem dX10_removeEquation_8 : decode cX10_removeEquation 8 = .ok (.getfield 7, 3) := by decide +kernel
theorem dX10_removeEquation_11 : decode cX10_removeEquation 11 = .ok (.bipush 8, 2) := by decide +kernel
theorem dX10_removeEquation_13 : decode cX10_removeEquation 13 = .ok (.iaload, 1) := by decide +kernel
theorem dX10_removeEquation_14 : decode cX10_removeEquation 14 = .ok (.iconst 1, 1) := by decide +kernel
theorem dX10_removeEquation_15 : decode cX10_removeEquation 15 = .ok (.isub, 1) := by decide +kernel
theorem dX10_removeEquation_16 : decode cX10_removeEquation 16 = .ok (.invokestatic 60, 3) := by decide +kernel
theorem dX10_removeEquation_19 : decode cX10_removeEquation 19 = .ok (.ifCond .ne 5, 3) := by decide +kernel
theorem dX10_removeEquation_22 : decode cX10_removeEquation 22 = .ok (.iconst (-1), 1) := by decide +kernel
theorem dX10_removeEquation_23 : decode cX10_removeEquation 23 = .ok (.ireturn, 1) := by decide +kernel
theorem dX10_removeEquation_24 : decode cX10_removeEquation 24 = .ok (.aload_n 0, 1) := by decide +kernel
theorem dX10_removeEquation_25 : decode cX10_removeEquation 25 = .ok (.invokevirtual 141, 3) := by decide +kernel
theorem dX10_removeEquation_28 : decode cX10_removeEquation 28 = .ok (.aload_n 0, 1) := by decide +kernel
theorem dX10_removeEquation_29 : decode cX10_removeEquation 29 = .ok (.iload_n 1, 1) := by decide +kernel
theorem dX10_removeEquation_30 : decode cX10_removeEquation 30 = .ok (.bipush 10, 2) := by decide +kernel
theorem dX10_removeEquation_32 : decode cX10_removeEquation 32 = .ok (.invokevirtual 147, 3) := by decide +kernel
theorem dX10_removeEquation_35 : decode cX10_removeEquation 35 = .ok (.aload_n 0, 1) := by decide +kernel
theorem dX10_removeEquation_36 : decode cX10_removeEquation 36 = .ok (.getfield 7, 3) := by decide +kernel
theorem dX10_removeEquation_39 : decode cX10_removeEquation 39 = .ok (.bipush 8, 2) := by decide +kernel
theorem dX10_removeEquation_41 : decode cX10_removeEquation 41 = .ok (.dup2, 1) := by decide +kernel
theorem dX10_removeEquation_42 : decode cX10_removeEquation 42 = .ok (.iaload, 1) := by decide +kernel
theorem dX10_removeEquation_43 : decode cX10_removeEquation 43 = .ok (.iconst 1, 1) := by decide +kernel
theorem dX10_removeEquation_44 : decode cX10_removeEquation 44 = .ok (.isub, 1) := by decide +kernel
theorem dX10_removeEquation_45 : decode cX10_removeEquation 45 = .ok (.iastore, 1) := by decide +kernel
theorem dX10_removeEquation_46 : decode cX10_removeEquation 46 = .ok (.aload_n 0, 1) := by decide +kernel
theorem dX10_removeEquation_47 : decode cX10_removeEquation 47 = .ok (.getfield 7, 3) := by decide +kernel
theorem dX10_removeEquation_50 : decode cX10_removeEquation 50 = .ok (.bipush 8, 2) := by decide +kernel
theorem dX10_removeEquation_52 : decode cX10_removeEquation 52 = .ok (.iaload, 1) := by decide +kernel
theorem dX10_removeEquation_53 : decode cX10_removeEquation 53 = .ok (.ireturn, 1) := by decide +kernel
theorem dX10_removeDisequation_0 : decode cX10_removeDisequation 0 = .ok (.aload_n 0, 1) := by decide +kernel
theorem dX10_removeDisequation_1 : decode cX10_removeDisequation 1 = .ok (.iconst 0, 1) := by decide +kernel
theorem dX10_removeDisequation_2 : decode cX10_removeDisequation 2 = .ok (.putfield 47, 3) := by decide +kernel
theorem dX10_removeDisequation_5 : decode cX10_removeDisequation 5 = .ok (.iload_n 1, 1) := by decide +kernel
theorem dX10_removeDisequation_6 : decode cX10_removeDisequation 6 = .ok (.iconst 0, 1) := by decide +kernel
theorem dX10_removeDisequation_7 : decode cX10_removeDisequation 7 = .ok (.aload_n 0, 1) := by decide +kernel
theorem dX10_removeDisequation_8 : decode cX10_removeDisequation 8 = .ok (.getfield 7, 3) := by decide +kernel
theorem dX10_removeDisequation_11 : decode cX10_removeDisequation 11 = .ok (.bipush 9, 2) := by decide +kernel
theorem dX10_removeDisequation_13 : decode cX10_removeDisequation 13 = .ok (.iaload, 1) := by decide +kernel
theorem dX10_removeDisequation_14 : decode cX10_removeDisequation 14 = .ok (.iconst 1, 1) := by decide +kernel
theorem dX10_removeDisequation_15 : decode cX10_removeDisequation 15 = .ok (.isub, 1) := by decide +kernel
theorem dX10_removeDisequation_16 : decode cX10_removeDisequation 16 = .ok (.invokestatic 60, 3) := by decide +kernel
theorem dX10_removeDisequation_19 : decode cX10_removeDisequation 19 = .ok (.ifCond .ne 5, 3) := by decide +kernel
theorem dX10_removeDisequation_22 : decode cX10_removeDisequation 22 = .ok (.iconst (-1), 1) := by decide +kernel
theorem dX10_removeDisequation_23 : decode cX10_removeDisequation 23 = .ok (.ireturn, 1) := by decide +kernel
theorem dX10_removeDisequation_24 : decode cX10_removeDisequation 24 = .ok (.aload_n 0, 1) := by decide +kernel
theorem dX10_removeDisequation_25 : decode cX10_removeDisequation 25 = .ok (.invokevirtual 141, 3) := by decide +kernel
theorem dX10_removeDisequation_28 : decode cX10_removeDisequation 28 = .ok (.aload_n 0, 1) := by decide +kernel
theorem dX10_removeDisequation_29 : decode cX10_removeDisequation 29 = .ok (.bipush 10, 2) := by decide +kernel
theorem dX10_removeDisequation_31 : decode cX10_removeDisequation 31 = .ok (.iload_n 1, 1) := by decide +kernel
theorem dX10_removeDisequation_32 : decode cX10_removeDisequation 32 = .ok (.iadd, 1) := by decide +kernel
theorem dX10_removeDisequation_33 : decode cX10_removeDisequation 33 = .ok (.bipush 13, 2) := by decide +kernel
theorem dX10_removeDisequation_35 : decode cX10_removeDisequation 35 = .ok (.invokevirtual 147, 3) := by decide +kernel
theorem dX10_removeDisequation_38 : decode cX10_removeDisequation 38 = .ok (.aload_n 0, 1) := by decide +kernel
theorem dX10_removeDisequation_39 : decode cX10_removeDisequation 39 = .ok (.getfield 7, 3) := by decide +kernel
theorem dX10_removeDisequation_42 : decode cX10_removeDisequation 42 = .ok (.bipush 9, 2) := by decide +kernel
theorem dX10_removeDisequation_44 : decode cX10_removeDisequation 44 = .ok (.dup2, 1) := by decide +kernel
theorem dX10_removeDisequation_45 : decode cX10_removeDisequation 45 = .ok (.iaload, 1) := by decide +kernel
theorem dX10_removeDisequation_46 : decode cX10_removeDisequation 46 = .ok (.iconst 1, 1) := by decide +kernel
theorem dX10_removeDisequation_47 : decode cX10_removeDisequation 47 = .ok (.isub, 1) := by decide +kernel
theorem dX10_removeDisequation_48 : decode cX10_removeDisequation 48 = .ok (.iastore, 1) := by decide +kernel
theorem dX10_removeDisequation_49 : decode cX10_removeDisequation 49 = .ok (.aload_n 0, 1) := by decide +kernel
theorem dX10_removeDisequation_50 : decode cX10_removeDisequation 50 = .ok (.getfield 7, 3) := by decide +kernel
theorem dX10_removeDisequation_53 : decode cX10_removeDisequation 53 = .ok (.bipush 9, 2) := by decide +kernel
theorem dX10_removeDisequation_55 : decode cX10_removeDisequation 55 = .ok (.iaload, 1) := by decide +kernel
theorem dX10_removeDisequation_56 : decode cX10_removeDisequation 56 = .ok (.ireturn, 1) := by decide +kernel
theorem dX10_isVariable_0 : decode cX10_isVariable 0 = .ok (.iload_n 0, 1) := by decide +kernel
theorem dX10_isVariable_1 : decode cX10_isVariable 1 = .ok (.iconst 0, 1) := by decide +kernel
theorem dX10_isVariable_2 : decode cX10_isVariable 2 = .ok (.bipush 7, 2) := by decide +kernel
theorem dX10_isVariable_4 : decode cX10_isVariable 4 = .ok (.invokestatic 60, 3) := by decide +kernel
theorem dX10_isVariable_7 : decode cX10_isVariable 7 = .ok (.ireturn, 1) := by decide +kernel
theorem dX10_width_0 : decode cX10_width 0 = .ok (.aload_n 0, 1) := by decide +kernel
theorem dX10_width_1 : decode cX10_width 1 = .ok (.iconst 0, 1) := by decide +kernel
theorem dX10_width_2 : decode cX10_width 2 = .ok (.putfield 47, 3) := by decide +kernel
theorem dX10_width_5 : decode cX10_width 5 = .ok (.iload_n 1, 1) := by decide +kernel
theorem dX10_width_6 : decode cX10_width 6 = .ok (.invokestatic 151, 3) := by decide +kernel
theorem dX10_width_9 : decode cX10_width 9 = .ok (.ifCond .eq 12, 3) := by decide +kernel
theorem dX10_width_12 : decode cX10_width 12 = .ok (.aload_n 0, 1) := by decide +kernel
theorem dX10_width_13 : decode cX10_width 13 = .ok (.getfield 7, 3) := by decide +kernel
theorem dX10_width_16 : decode cX10_width 16 = .ok (.iload_n 1, 1) := by decide +kernel
theorem dX10_width_17 : decode cX10_width 17 = .ok (.iaload, 1) := by decide +kernel
theorem dX10_width_18 : decode cX10_width 18 = .ok (.goto 4, 3) := by decide +kernel
theorem dX10_width_21 : decode cX10_width 21 = .ok (.iconst (-1), 1) := by decide +kernel
theorem dX10_width_22 : decode cX10_width 22 = .ok (.ireturn, 1) := by decide +kernel
theorem dX10_equationCount_0 : decode cX10_equationCount 0 = .ok (.aload_n 0, 1) := by decide +kernel
theorem dX10_equationCount_1 : decode cX10_equationCount 1 = .ok (.iconst 0, 1) := by decide +kernel
theorem dX10_equationCount_2 : decode cX10_equationCount 2 = .ok (.putfield 47, 3) := by decide +kernel
theorem dX10_equationCount_5 : decode cX10_equationCount 5 = .ok (.aload_n 0, 1) := by decide +kernel
theorem dX10_equationCount_6 : decode cX10_equationCount 6 = .ok (.getfield 7, 3) := by decide +kernel
theorem dX10_equationCount_9 : decode cX10_equationCount 9 = .ok (.bipush 8, 2) := by decide +kernel
theorem dX10_equationCount_11 : decode cX10_equationCount 11 = .ok (.iaload, 1) := by decide +kernel
theorem dX10_equationCount_12 : decode cX10_equationCount 12 = .ok (.ireturn, 1) := by decide +kernel
theorem dX10_disequationCount_0 : decode cX10_disequationCount 0 = .ok (.aload_n 0, 1) := by decide +kernel
theorem dX10_disequationCount_1 : decode cX10_disequationCount 1 = .ok (.iconst 0, 1) := by decide +kernel
theorem dX10_disequationCount_2 : decode cX10_disequationCount 2 = .ok (.putfield 47, 3) := by decide +kernel
theorem dX10_disequationCount_5 : decode cX10_disequationCount 5 = .ok (.aload_n 0, 1) := by decide +kernel
theorem dX10_disequationCount_6 : decode cX10_disequationCount 6 = .ok (.getfield 7, 3) := by decide +kernel
theorem dX10_disequationCount_9 : decode cX10_disequationCount 9 = .ok (.bipush 9, 2) := by decide +kernel
theorem dX10_disequationCount_11 : decode cX10_disequationCount 11 = .ok (.iaload, 1) := by decide +kernel
theorem dX10_disequationCount_12 : decode cX10_disequationCount 12 = .ok (.ireturn, 1) := by decide +kernel
theorem dX10_widthOf_0 : decode cX10_widthOf 0 = .ok (.aload_n 0, 1) := by decide +kernel
theorem dX10_widthOf_1 : decode cX10_widthOf 1 = .ok (.getfield 7, 3) := by decide +kernel
theorem dX10_widthOf_4 : decode cX10_widthOf 4 = .ok (.bipush 10, 2) := by decide +kernel
theorem dX10_widthOf_6 : decode cX10_widthOf 6 = .ok (.bipush 33, 2) := by decide +kernel
theorem dX10_widthOf_8 : decode cX10_widthOf 8 = .ok (.iload_n 1, 1) := by decide +kernel
theorem dX10_widthOf_9 : decode cX10_widthOf 9 = .ok (.imul, 1) := by decide +kernel
theorem dX10_widthOf_10 : decode cX10_widthOf 10 = .ok (.iadd, 1) := by decide +kernel
theorem dX10_widthOf_11 : decode cX10_widthOf 11 = .ok (.iaload, 1) := by decide +kernel
theorem dX10_widthOf_12 : decode cX10_widthOf 12 = .ok (.ireturn, 1) := by decide +kernel
theorem dX10_bitOf_0 : decode cX10_bitOf 0 = .ok (.aload_n 0, 1) := by decide +kernel
theorem dX10_bitOf_1 : decode cX10_bitOf 1 = .ok (.getfield 7, 3) := by decide +kernel
theorem dX10_bitOf_4 : decode cX10_bitOf 4 = .ok (.bipush 10, 2) := by decide +kernel
theorem dX10_bitOf_6 : decode cX10_bitOf 6 = .ok (.bipush 33, 2) := by decide +kernel
theorem dX10_bitOf_8 : decode cX10_bitOf 8 = .ok (.iload_n 1, 1) := by decide +kernel
theorem dX10_bitOf_9 : decode cX10_bitOf 9 = .ok (.imul, 1) := by decide +kernel
theorem dX10_bitOf_10 : decode cX10_bitOf 10 = .ok (.iadd, 1) := by decide +kernel
theorem dX10_bitOf_11 : decode cX10_bitOf 11 = .ok (.iconst 1, 1) := by decide +kernel
theorem dX10_bitOf_12 : decode cX10_bitOf 12 = .ok (.iadd, 1) := by decide +kernel
theorem dX10_bitOf_13 : decode cX10_bitOf 13 = .ok (.bipush 16, 2) := by decide +kernel
theorem dX10_bitOf_15 : decode cX10_bitOf 15 = .ok (.iload_n 2, 1) := by decide +kernel
theorem dX10_bitOf_16 : decode cX10_bitOf 16 = .ok (.imul, 1) := by decide +kernel
theorem dX10_bitOf_17 : decode cX10_bitOf 17 = .ok (.iadd, 1) := by decide +kernel
theorem dX10_bitOf_18 : decode cX10_bitOf 18 = .ok (.iload_n 3, 1) := by decide +kernel
theorem dX10_bitOf_19 : decode cX10_bitOf 19 = .ok (.iadd, 1) := by decide +kernel
theorem dX10_bitOf_20 : decode cX10_bitOf 20 = .ok (.iaload, 1) := by decide +kernel
theorem dX10_bitOf_21 : decode cX10_bitOf 21 = .ok (.ireturn, 1) := by decide +kernel
theorem dX10_addCut_0 : decode cX10_addCut 0 = .ok (.aload_n 0, 1) := by decide +kernel
theorem dX10_addCut_1 : decode cX10_addCut 1 = .ok (.aload_n 0, 1) := by decide +kernel
theorem dX10_addCut_2 : decode cX10_addCut 2 = .ok (.getfield 154, 3) := by decide +kernel
theorem dX10_addCut_5 : decode cX10_addCut 5 = .ok (.ifCond .ne 12, 3) := by decide +kernel
theorem dX10_addCut_8 : decode cX10_addCut 8 = .ok (.aload_n 0, 1) := by decide +kernel
theorem dX10_addCut_9 : decode cX10_addCut 9 = .ok (.getfield 32, 3) := by decide +kernel
theorem dX10_addCut_12 : decode cX10_addCut 12 = .ok (.iload_n 1, 1) := by decide +kernel
theorem dX10_addCut_13 : decode cX10_addCut 13 = .ok (.baload, 1) := by decide +kernel
theorem dX10_addCut_14 : decode cX10_addCut 14 = .ok (.ifCond .ne 7, 3) := by decide +kernel
theorem dX10_addCut_17 : decode cX10_addCut 17 = .ok (.iconst 1, 1) := by decide +kernel
theorem dX10_addCut_18 : decode cX10_addCut 18 = .ok (.goto 4, 3) := by decide +kernel
theorem dX10_addCut_21 : decode cX10_addCut 21 = .ok (.iconst 0, 1) := by decide +kernel
theorem dX10_addCut_22 : decode cX10_addCut 22 = .ok (.putfield 154, 3) := by decide +kernel
theorem dX10_addCut_25 : decode cX10_addCut 25 = .ok (.aload_n 0, 1) := by decide +kernel
theorem dX10_addCut_26 : decode cX10_addCut 26 = .ok (.getfield 32, 3) := by decide +kernel
theorem dX10_addCut_29 : decode cX10_addCut 29 = .ok (.iload_n 1, 1) := by decide +kernel
theorem dX10_addCut_30 : decode cX10_addCut 30 = .ok (.iconst 1, 1) := by decide +kernel
theorem dX10_addCut_31 : decode cX10_addCut 31 = .ok (.bastore, 1) := by decide +kernel
theorem dX10_addCut_32 : decode cX10_addCut 32 = .ok (.return_, 1) := by decide +kernel
theorem dX10_isOfVariable_0 : decode cX10_isOfVariable 0 = .ok (.iload_n 1, 1) := by decide +kernel
theorem dX10_isOfVariable_1 : decode cX10_isOfVariable 1 = .ok (.sipush 256, 3) := by decide +kernel
theorem dX10_isOfVariable_4 : decode cX10_isOfVariable 4 = .ok (.irem, 1) := by decide +kernel
theorem dX10_isOfVariable_5 : decode cX10_isOfVariable 5 = .ok (.bipush 16, 2) := by decide +kernel
theorem dX10_isOfVariable_7 : decode cX10_isOfVariable 7 = .ok (.if_icmp .lt 7, 3) := by decide +kernel
theorem dX10_isOfVariable_10 : decode cX10_isOfVariable 10 = .ok (.iconst 1, 1) := by decide +kernel
theorem dX10_isOfVariable_11 : decode cX10_isOfVariable 11 = .ok (.goto 4, 3) := by decide +kernel
theorem dX10_isOfVariable_14 : decode cX10_isOfVariable 14 = .ok (.iconst 0, 1) := by decide +kernel
theorem dX10_isOfVariable_15 : decode cX10_isOfVariable 15 = .ok (.ireturn, 1) := by decide +kernel
theorem dX10_variableBit_0 : decode cX10_variableBit 0 = .ok (.iload_n 0, 1) := by decide +kernel
theorem dX10_variableBit_1 : decode cX10_variableBit 1 = .ok (.sipush 256, 3) := by decide +kernel
theorem dX10_variableBit_4 : decode cX10_variableBit 4 = .ok (.irem, 1) := by decide +kernel
theorem dX10_variableBit_5 : decode cX10_variableBit 5 = .ok (.bipush 16, 2) := by decide +kernel
theorem dX10_variableBit_7 : decode cX10_variableBit 7 = .ok (.isub, 1) := by decide +kernel
theorem dX10_variableBit_8 : decode cX10_variableBit 8 = .ok (.ireturn, 1) := by decide +kernel
theorem dX10_areOfOnePart_0 : decode cX10_areOfOnePart 0 = .ok (.iload_n 0, 1) := by decide +kernel
theorem dX10_areOfOnePart_1 : decode cX10_areOfOnePart 1 = .ok (.sipush 256, 3) := by decide +kernel
theorem dX10_areOfOnePart_4 : decode cX10_areOfOnePart 4 = .ok (.idiv, 1) := by decide +kernel
theorem dX10_areOfOnePart_5 : decode cX10_areOfOnePart 5 = .ok (.iload_n 1, 1) := by decide +kernel
theorem dX10_areOfOnePart_6 : decode cX10_areOfOnePart 6 = .ok (.sipush 256, 3) := by decide +kernel
theorem dX10_areOfOnePart_9 : decode cX10_areOfOnePart 9 = .ok (.idiv, 1) := by decide +kernel
theorem dX10_areOfOnePart_10 : decode cX10_areOfOnePart 10 = .ok (.if_icmp .ne 7, 3) := by decide +kernel
theorem dX10_areOfOnePart_13 : decode cX10_areOfOnePart 13 = .ok (.iconst 1, 1) := by decide +kernel
theorem dX10_areOfOnePart_14 : decode cX10_areOfOnePart 14 = .ok (.goto 4, 3) := by decide +kernel
theorem dX10_areOfOnePart_17 : decode cX10_areOfOnePart 17 = .ok (.iconst 0, 1) := by decide +kernel
theorem dX10_areOfOnePart_18 : decode cX10_areOfOnePart 18 = .ok (.ireturn, 1) := by decide +kernel
theorem dX10_cutEnds_0 : decode cX10_cutEnds 0 = .ok (.aload_n 0, 1) := by decide +kernel
theorem dX10_cutEnds_1 : decode cX10_cutEnds 1 = .ok (.iload_n 1, 1) := by decide +kernel
theorem dX10_cutEnds_2 : decode cX10_cutEnds 2 = .ok (.invokevirtual 158, 3) := by decide +kernel
theorem dX10_cutEnds_5 : decode cX10_cutEnds 5 = .ok (.istore_n 3, 1) := by decide +kernel
theorem dX10_cutEnds_6 : decode cX10_cutEnds 6 = .ok (.iconst 0, 1) := by decide +kernel
theorem dX10_cutEnds_7 : decode cX10_cutEnds 7 = .ok (.istore 4, 2) := by decide +kernel
theorem dX10_cutEnds_9 : decode cX10_cutEnds 9 = .ok (.iload 4, 2) := by decide +kernel
theorem dX10_cutEnds_11 : decode cX10_cutEnds 11 = .ok (.iload_n 3, 1) := by decide +kernel
theorem dX10_cutEnds_12 : decode cX10_cutEnds 12 = .ok (.if_icmp .ge 150, 3) := by decide +kernel
theorem dX10_cutEnds_15 : decode cX10_cutEnds 15 = .ok (.aload_n 0, 1) := by decide +kernel
theorem dX10_cutEnds_16 : decode cX10_cutEnds 16 = .ok (.iload_n 1, 1) := by decide +kernel
theorem dX10_cutEnds_17 : decode cX10_cutEnds 17 = .ok (.iload_n 2, 1) := by decide +kernel
theorem dX10_cutEnds_18 : decode cX10_cutEnds 18 = .ok (.iload 4, 2) := by decide +kernel
theorem dX10_cutEnds_20 : decode cX10_cutEnds 20 = .ok (.invokevirtual 161, 3) := by decide +kernel
theorem dX10_cutEnds_23 : decode cX10_cutEnds 23 = .ok (.istore 5, 2) := by decide +kernel
theorem dX10_cutEnds_25 : decode cX10_cutEnds 25 = .ok (.aload_n 0, 1) := by decide +kernel
theorem dX10_cutEnds_26 : decode cX10_cutEnds 26 = .ok (.iload 5, 2) := by decide +kernel
theorem dX10_cutEnds_28 : decode cX10_cutEnds 28 = .ok (.invokevirtual 165, 3) := by decide +kernel
theorem dX10_cutEnds_31 : decode cX10_cutEnds 31 = .ok (.ifCond .eq 125, 3) := by decide +kernel
theorem dX10_cutEnds_34 : decode cX10_cutEnds 34 = .ok (.iload 5, 2) := by decide +kernel
theorem dX10_cutEnds_36 : decode cX10_cutEnds 36 = .ok (.invokestatic 168, 3) := by decide +kernel
theorem dX10_cutEnds_39 : decode cX10_cutEnds 39 = .ok (.istore 6, 2) := by decide +kernel
theorem dX10_cutEnds_41 : decode cX10_cutEnds 41 = .ok (.iload 4, 2) := by decide +kernel
theorem dX10_cutEnds_43 : decode cX10_cutEnds 43 = .ok (.ifCond .eq 21, 3) := by decide +kernel
theorem dX10_cutEnds_46 : decode cX10_cutEnds 46 = .ok (.iload 5, 2) := by decide +kernel
theorem dX10_cutEnds_48 : decode cX10_cutEnds 48 = .ok (.aload_n 0, 1) := by decide +kernel
theorem dX10_cutEnds_49 : decode cX10_cutEnds 49 = .ok (.iload_n 1, 1) := by decide +kernel
theorem dX10_cutEnds_50 : decode cX10_cutEnds 50 = .ok (.iload_n 2, 1) := by decide +kernel
theorem dX10_cutEnds_51 : decode cX10_cutEnds 51 = .ok (.iload 4, 2) := by decide +kernel
theorem dX10_cutEnds_53 : decode cX10_cutEnds 53 = .ok (.iconst 1, 1) := by decide +kernel
theorem dX10_cutEnds_54 : decode cX10_cutEnds 54 = .ok (.isub, 1) := by decide +kernel
theorem dX10_cutEnds_55 : decode cX10_cutEnds 55 = .ok (.invokevirtual 161, 3) := by decide +kernel
theorem dX10_cutEnds_58 : decode cX10_cutEnds 58 = .ok (.invokestatic 171, 3) := by decide +kernel
theorem dX10_cutEnds_61 : decode cX10_cutEnds 61 = .ok (.ifCond .ne 7, 3) := by decide +kernel
theorem dX10_cutEnds_64 : decode cX10_cutEnds 64 = .ok (.iconst 1, 1) := by decide +kernel
theorem dX10_cutEnds_65 : decode cX10_cutEnds 65 = .ok (.goto 4, 3) := by decide +kernel
theorem dX10_cutEnds_68 : decode cX10_cutEnds 68 = .ok (.iconst 0, 1) := by decide +kernel
theorem dX10_cutEnds_69 : decode cX10_cutEnds 69 = .ok (.istore 7, 2) := by decide +kernel
theorem dX10_cutEnds_71 : decode cX10_cutEnds 71 = .ok (.iload 4, 2) := by decide +kernel
theorem dX10_cutEnds_73 : decode cX10_cutEnds 73 = .ok (.iload_n 3, 1) := by decide +kernel
theorem dX10_cutEnds_74 : decode cX10_cutEnds 74 = .ok (.iconst 1, 1) := by decide +kernel
theorem dX10_cutEnds_75 : decode cX10_cutEnds 75 = .ok (.isub, 1) := by decide +kernel
theorem dX10_cutEnds_76 : decode cX10_cutEnds 76 = .ok (.if_icmp .eq 21, 3) := by decide +kernel
theorem dX10_cutEnds_79 : decode cX10_cutEnds 79 = .ok (.iload 5, 2) := by decide +kernel
theorem dX10_cutEnds_81 : decode cX10_cutEnds 81 = .ok (.aload_n 0, 1) := by decide +kernel
theorem dX10_cutEnds_82 : decode cX10_cutEnds 82 = .ok (.iload_n 1, 1) := by decide +kernel
theorem dX10_cutEnds_83 : decode cX10_cutEnds 83 = .ok (.iload_n 2, 1) := by decide +kernel
theorem dX10_cutEnds_84 : decode cX10_cutEnds 84 = .ok (.iload 4, 2) := by decide +kernel
theorem dX10_cutEnds_86 : decode cX10_cutEnds 86 = .ok (.iconst 1, 1) := by decide +kernel
theorem dX10_cutEnds_87 : decode cX10_cutEnds 87 = .ok (.iadd, 1) := by decide +kernel
theorem dX10_cutEnds_88 : decode cX10_cutEnds 88 = .ok (.invokevirtual 161, 3) := by decide +kernel
theorem dX10_cutEnds_91 : decode cX10_cutEnds 91 = .ok (.invokestatic 171, 3) := by decide +kernel
theorem dX10_cutEnds_94 : decode cX10_cutEnds 94 = .ok (.ifCond .ne 7, 3) := by decide +kernel
theorem dX10_cutEnds_97 : decode cX10_cutEnds 97 = .ok (.iconst 1, 1) := by decide +kernel
theorem dX10_cutEnds_98 : decode cX10_cutEnds 98 = .ok (.goto 4, 3) := by decide +kernel
theorem dX10_cutEnds_101 : decode cX10_cutEnds 101 = .ok (.iconst 0, 1) := by decide +kernel
theorem dX10_cutEnds_102 : decode cX10_cutEnds 102 = .ok (.istore 8, 2) := by decide +kernel
theorem dX10_cutEnds_104 : decode cX10_cutEnds 104 = .ok (.iload 7, 2) := by decide +kernel
theorem dX10_cutEnds_106 : decode cX10_cutEnds 106 = .ok (.ifCond .eq 17, 3) := by decide +kernel
theorem dX10_cutEnds_109 : decode cX10_cutEnds 109 = .ok (.iload 6, 2) := by decide +kernel
theorem dX10_cutEnds_111 : decode cX10_cutEnds 111 = .ok (.bipush 16, 2) := by decide +kernel
theorem dX10_cutEnds_113 : decode cX10_cutEnds 113 = .ok (.irem, 1) := by decide +kernel
theorem dX10_cutEnds_114 : decode cX10_cutEnds 114 = .ok (.ifCond .le 9, 3) := by decide +kernel
theorem dX10_cutEnds_117 : decode cX10_cutEnds 117 = .ok (.aload_n 0, 1) := by decide +kernel
theorem dX10_cutEnds_118 : decode cX10_cutEnds 118 = .ok (.iload 6, 2) := by decide +kernel
theorem dX10_cutEnds_120 : decode cX10_cutEnds 120 = .ok (.invokevirtual 175, 3) := by decide +kernel
theorem dX10_cutEnds_123 : decode cX10_cutEnds 123 = .ok (.iload 8, 2) := by decide +kernel
theorem dX10_cutEnds_125 : decode cX10_cutEnds 125 = .ok (.ifCond .eq 31, 3) := by decide +kernel
theorem dX10_cutEnds_128 : decode cX10_cutEnds 128 = .ok (.iload 6, 2) := by decide +kernel
theorem dX10_cutEnds_130 : decode cX10_cutEnds 130 = .ok (.bipush 16, 2) := by decide +kernel
theorem dX10_cutEnds_132 : decode cX10_cutEnds 132 = .ok (.irem, 1) := by decide +kernel
theorem dX10_cutEnds_133 : decode cX10_cutEnds 133 = .ok (.iconst 1, 1) := by decide +kernel
theorem dX10_cutEnds_134 : decode cX10_cutEnds 134 = .ok (.iadd, 1) := by decide +kernel
theorem dX10_cutEnds_135 : decode cX10_cutEnds 135 = .ok (.aload_n 0, 1) := by decide +kernel
theorem dX10_cutEnds_136 : decode cX10_cutEnds 136 = .ok (.getfield 7, 3) := by decide +kernel
theorem dX10_cutEnds_139 : decode cX10_cutEnds 139 = .ok (.iload 6, 2) := by decide +kernel
theorem dX10_cutEnds_141 : decode cX10_cutEnds 141 = .ok (.bipush 16, 2) := by decide +kernel
theorem dX10_cutEnds_143 : decode cX10_cutEnds 143 = .ok (.idiv, 1) := by decide +kernel
theorem dX10_cutEnds_144 : decode cX10_cutEnds 144 = .ok (.iaload, 1) := by decide +kernel
theorem dX10_cutEnds_145 : decode cX10_cutEnds 145 = .ok (.if_icmp .ge 11, 3) := by decide +kernel
theorem dX10_cutEnds_148 : decode cX10_cutEnds 148 = .ok (.aload_n 0, 1) := by decide +kernel
theorem dX10_cutEnds_149 : decode cX10_cutEnds 149 = .ok (.iload 6, 2) := by decide +kernel
theorem dX10_cutEnds_151 : decode cX10_cutEnds 151 = .ok (.iconst 1, 1) := by decide +kernel
theorem dX10_cutEnds_152 : decode cX10_cutEnds 152 = .ok (.iadd, 1) := by decide +kernel
theorem dX10_cutEnds_153 : decode cX10_cutEnds 153 = .ok (.invokevirtual 175, 3) := by decide +kernel
theorem dX10_cutEnds_156 : decode cX10_cutEnds 156 = .ok (.iinc 4 1, 3) := by decide +kernel
theorem dX10_cutEnds_159 : decode cX10_cutEnds 159 = .ok (.goto (-150), 3) := by decide +kernel
theorem dX10_cutEnds_162 : decode cX10_cutEnds 162 = .ok (.return_, 1) := by decide +kernel
theorem dX10_isMarked_0 : decode cX10_isMarked 0 = .ok (.aload_n 0, 1) := by decide +kernel
theorem dX10_isMarked_1 : decode cX10_isMarked 1 = .ok (.iload_n 1, 1) := by decide +kernel
theorem dX10_isMarked_2 : decode cX10_isMarked 2 = .ok (.iload_n 2, 1) := by decide +kernel
theorem dX10_isMarked_3 : decode cX10_isMarked 3 = .ok (.iload_n 3, 1) := by decide +kernel
theorem dX10_isMarked_4 : decode cX10_isMarked 4 = .ok (.iconst 1, 1) := by decide +kernel
theorem dX10_isMarked_5 : decode cX10_isMarked 5 = .ok (.isub, 1) := by decide +kernel
theorem dX10_isMarked_6 : decode cX10_isMarked 6 = .ok (.invokevirtual 161, 3) := by decide +kernel
theorem dX10_isMarked_9 : decode cX10_isMarked 9 = .ok (.istore 4, 2) := by decide +kernel
theorem dX10_isMarked_11 : decode cX10_isMarked 11 = .ok (.aload_n 0, 1) := by decide +kernel
theorem dX10_isMarked_12 : decode cX10_isMarked 12 = .ok (.iload_n 1, 1) := by decide +kernel
theorem dX10_isMarked_13 : decode cX10_isMarked 13 = .ok (.iload_n 2, 1) := by decide +kernel
theorem dX10_isMarked_14 : decode cX10_isMarked 14 = .ok (.iload_n 3, 1) := by decide +kernel
theorem dX10_isMarked_15 : decode cX10_isMarked 15 = .ok (.invokevirtual 161, 3) := by decide +kernel
theorem dX10_isMarked_18 : decode cX10_isMarked 18 = .ok (.istore 5, 2) := by decide +kernel
theorem dX10_isMarked_20 : decode cX10_isMarked 20 = .ok (.iload 4, 2) := by decide +kernel
theorem dX10_isMarked_22 : decode cX10_isMarked 22 = .ok (.iload 5, 2) := by decide +kernel
theorem dX10_isMarked_24 : decode cX10_isMarked 24 = .ok (.invokestatic 171, 3) := by decide +kernel
theorem dX10_isMarked_27 : decode cX10_isMarked 27 = .ok (.ifCond .eq 25, 3) := by decide +kernel
theorem dX10_isMarked_30 : decode cX10_isMarked 30 = .ok (.aload_n 0, 1) := by decide +kernel
theorem dX10_isMarked_31 : decode cX10_isMarked 31 = .ok (.iload 5, 2) := by decide +kernel
theorem dX10_isMarked_33 : decode cX10_isMarked 33 = .ok (.invokevirtual 165, 3) := by decide +kernel
theorem dX10_isMarked_36 : decode cX10_isMarked 36 = .ok (.ifCond .eq 20, 3) := by decide +kernel
theorem dX10_isMarked_39 : decode cX10_isMarked 39 = .ok (.aload_n 0, 1) := by decide +kernel
theorem dX10_isMarked_40 : decode cX10_isMarked 40 = .ok (.getfield 32, 3) := by decide +kernel
theorem dX10_isMarked_43 : decode cX10_isMarked 43 = .ok (.iload 5, 2) := by decide +kernel
theorem dX10_isMarked_45 : decode cX10_isMarked 45 = .ok (.invokestatic 168, 3) := by decide +kernel
theorem dX10_isMarked_48 : decode cX10_isMarked 48 = .ok (.baload, 1) := by decide +kernel
theorem dX10_isMarked_49 : decode cX10_isMarked 49 = .ok (.ifCond .eq 7, 3) := by decide +kernel
theorem dX10_isMarked_52 : decode cX10_isMarked 52 = .ok (.iconst 1, 1) := by decide +kernel
theorem dX10_isMarked_53 : decode cX10_isMarked 53 = .ok (.goto 4, 3) := by decide +kernel
theorem dX10_isMarked_56 : decode cX10_isMarked 56 = .ok (.iconst 0, 1) := by decide +kernel
theorem dX10_isMarked_57 : decode cX10_isMarked 57 = .ok (.ireturn, 1) := by decide +kernel
theorem dX10_carry_0 : decode cX10_carry 0 = .ok (.aload_n 0, 1) := by decide +kernel
theorem dX10_carry_1 : decode cX10_carry 1 = .ok (.iload_n 1, 1) := by decide +kernel
theorem dX10_carry_2 : decode cX10_carry 2 = .ok (.iconst 1, 1) := by decide +kernel
theorem dX10_carry_3 : decode cX10_carry 3 = .ok (.iload_n 2, 1) := by decide +kernel
theorem dX10_carry_4 : decode cX10_carry 4 = .ok (.isub, 1) := by decide +kernel
theorem dX10_carry_5 : decode cX10_carry 5 = .ok (.iload_n 3, 1) := by decide +kernel
theorem dX10_carry_6 : decode cX10_carry 6 = .ok (.iconst 1, 1) := by decide +kernel
theorem dX10_carry_7 : decode cX10_carry 7 = .ok (.isub, 1) := by decide +kernel
theorem dX10_carry_8 : decode cX10_carry 8 = .ok (.invokevirtual 161, 3) := by decide +kernel
theorem dX10_carry_11 : decode cX10_carry 11 = .ok (.istore 4, 2) := by decide +kernel
theorem dX10_carry_13 : decode cX10_carry 13 = .ok (.aload_n 0, 1) := by decide +kernel
theorem dX10_carry_14 : decode cX10_carry 14 = .ok (.iload_n 1, 1) := by decide +kernel
theorem dX10_carry_15 : decode cX10_carry 15 = .ok (.iconst 1, 1) := by decide +kernel
theorem dX10_carry_16 : decode cX10_carry 16 = .ok (.iload_n 2, 1) := by decide +kernel
theorem dX10_carry_17 : decode cX10_carry 17 = .ok (.isub, 1) := by decide +kernel
theorem dX10_carry_18 : decode cX10_carry 18 = .ok (.iload_n 3, 1) := by decide +kernel
theorem dX10_carry_19 : decode cX10_carry 19 = .ok (.invokevirtual 161, 3) := by decide +kernel
theorem dX10_carry_22 : decode cX10_carry 22 = .ok (.istore 5, 2) := by decide +kernel
theorem dX10_carry_24 : decode cX10_carry 24 = .ok (.aload_n 0, 1) := by decide +kernel
theorem dX10_carry_25 : decode cX10_carry 25 = .ok (.iload_n 1, 1) := by decide +kernel
theorem dX10_carry_26 : decode cX10_carry 26 = .ok (.iload_n 2, 1) := by decide +kernel
theorem dX10_carry_27 : decode cX10_carry 27 = .ok (.iload_n 3, 1) := by decide +kernel
theorem dX10_carry_28 : decode cX10_carry 28 = .ok (.invokevirtual 178, 3) := by decide +kernel
theorem dX10_carry_31 : decode cX10_carry 31 = .ok (.ifCond .eq 31, 3) := by decide +kernel
theorem dX10_carry_34 : decode cX10_carry 34 = .ok (.iload 4, 2) := by decide +kernel
theorem dX10_carry_36 : decode cX10_carry 36 = .ok (.iload 5, 2) := by decide +kernel
theorem dX10_carry_38 : decode cX10_carry 38 = .ok (.invokestatic 171, 3) := by decide +kernel
theorem dX10_carry_41 : decode cX10_carry 41 = .ok (.ifCond .eq 21, 3) := by decide +kernel
theorem dX10_carry_44 : decode cX10_carry 44 = .ok (.aload_n 0, 1) := by decide +kernel
theorem dX10_carry_45 : decode cX10_carry 45 = .ok (.iload 5, 2) := by decide +kernel
theorem dX10_carry_47 : decode cX10_carry 47 = .ok (.invokevirtual 165, 3) := by decide +kernel
theorem dX10_carry_50 : decode cX10_carry 50 = .ok (.ifCond .eq 12, 3) := by decide +kernel
theorem dX10_carry_53 : decode cX10_carry 53 = .ok (.aload_n 0, 1) := by decide +kernel
theorem dX10_carry_54 : decode cX10_carry 54 = .ok (.iload 5, 2) := by decide +kernel
theorem dX10_carry_56 : decode cX10_carry 56 = .ok (.invokestatic 168, 3) := by decide +kernel
theorem dX10_carry_59 : decode cX10_carry 59 = .ok (.invokevirtual 175, 3) := by decide +kernel
theorem dX10_carry_62 : decode cX10_carry 62 = .ok (.return_, 1) := by decide +kernel
theorem dX10_findCuts_0 : decode cX10_findCuts 0 = .ok (.iconst 0, 1) := by decide +kernel
theorem dX10_findCuts_1 : decode cX10_findCuts 1 = .ok (.istore_n 1, 1) := by decide +kernel
theorem dX10_findCuts_2 : decode cX10_findCuts 2 = .ok (.iload_n 1, 1) := by decide +kernel
theorem dX10_findCuts_3 : decode cX10_findCuts 3 = .ok (.sipush 128, 3) := by decide +kernel
theorem dX10_findCuts_6 : decode cX10_findCuts 6 = .ok (.if_icmp .ge 16, 3) := by decide +kernel
theorem dX10_findCuts_9 : decode cX10_findCuts 9 = .ok (.aload_n 0, 1) := by decide +kernel
theorem dX10_findCuts_10 : decode cX10_findCuts 10 = .ok (.getfield 32, 3) := by decide +kernel
theorem dX10_findCuts_13 : decode cX10_findCuts 13 = .ok (.iload_n 1, 1) := by decide +kernel
theorem dX10_findCuts_14 : decode cX10_findCuts 14 = .ok (.iconst 0, 1) := by decide +kernel
theorem dX10_findCuts_15 : decode cX10_findCuts 15 = .ok (.bastore, 1) := by decide +kernel
theorem dX10_findCuts_16 : decode cX10_findCuts 16 = .ok (.iinc 1 1, 3) := by decide +kernel
theorem dX10_findCuts_19 : decode cX10_findCuts 19 = .ok (.goto (-17), 3) := by decide +kernel
theorem dX10_findCuts_22 : decode cX10_findCuts 22 = .ok (.iconst 0, 1) := by decide +kernel
theorem dX10_findCuts_23 : decode cX10_findCuts 23 = .ok (.istore_n 1, 1) := by decide +kernel
theorem dX10_findCuts_24 : decode cX10_findCuts 24 = .ok (.iload_n 1, 1) := by decide +kernel
theorem dX10_findCuts_25 : decode cX10_findCuts 25 = .ok (.aload_n 0, 1) := by decide +kernel
theorem dX10_findCuts_26 : decode cX10_findCuts 26 = .ok (.getfield 7, 3) := by decide +kernel
theorem dX10_findCuts_29 : decode cX10_findCuts 29 = .ok (.bipush 8, 2) := by decide +kernel
theorem dX10_findCuts_31 : decode cX10_findCuts 31 = .ok (.iaload, 1) := by decide +kernel
theorem dX10_findCuts_32 : decode cX10_findCuts 32 = .ok (.if_icmp .ge 21, 3) := by decide +kernel
theorem dX10_findCuts_35 : decode cX10_findCuts 35 = .ok (.aload_n 0, 1) := by decide +kernel
theorem dX10_findCuts_36 : decode cX10_findCuts 36 = .ok (.iload_n 1, 1) := by decide +kernel
theorem dX10_findCuts_37 : decode cX10_findCuts 37 = .ok (.iconst 0, 1) := by decide +kernel
theorem dX10_findCuts_38 : decode cX10_findCuts 38 = .ok (.invokevirtual 181, 3) := by decide +kernel
theorem dX10_findCuts_41 : decode cX10_findCuts 41 = .ok (.aload_n 0, 1) := by decide +kernel
theorem dX10_findCuts_42 : decode cX10_findCuts 42 = .ok (.iload_n 1, 1) := by decide +kernel
theorem dX10_findCuts_43 : decode cX10_findCuts 43 = .ok (.iconst 1, 1) := by decide +kernel
theorem dX10_findCuts_44 : decode cX10_findCuts 44 = .ok (.invokevirtual 181, 3) := by decide +kernel
theorem dX10_findCuts_47 : decode cX10_findCuts 47 = .ok (.iinc 1 1, 3) := by decide +kernel
theorem dX10_findCuts_50 : decode cX10_findCuts 50 = .ok (.goto (-26), 3) := by decide +kernel
theorem dX10_findCuts_53 : decode cX10_findCuts 53 = .ok (.aload_n 0, 1) := by decide +kernel
theorem dX10_findCuts_54 : decode cX10_findCuts 54 = .ok (.iconst 1, 1) := by decide +kernel
theorem dX10_findCuts_55 : decode cX10_findCuts 55 = .ok (.putfield 154, 3) := by decide +kernel
theorem dX10_findCuts_58 : decode cX10_findCuts 58 = .ok (.aload_n 0, 1) := by decide +kernel
theorem dX10_findCuts_59 : decode cX10_findCuts 59 = .ok (.getfield 154, 3) := by decide +kernel
theorem dX10_findCuts_62 : decode cX10_findCuts 62 = .ok (.ifCond .eq 61, 3) := by decide +kernel
theorem dX10_findCuts_65 : decode cX10_findCuts 65 = .ok (.aload_n 0, 1) := by decide +kernel
theorem dX10_findCuts_66 : decode cX10_findCuts 66 = .ok (.iconst 0, 1) := by decide +kernel
theorem dX10_findCuts_67 : decode cX10_findCuts 67 = .ok (.putfield 154, 3) := by decide +kernel
theorem dX10_findCuts_70 : decode cX10_findCuts 70 = .ok (.iconst 0, 1) := by decide +kernel
theorem dX10_findCuts_71 : decode cX10_findCuts 71 = .ok (.istore_n 1, 1) := by decide +kernel
theorem dX10_findCuts_72 : decode cX10_findCuts 72 = .ok (.iload_n 1, 1) := by decide +kernel
theorem dX10_findCuts_73 : decode cX10_findCuts 73 = .ok (.aload_n 0, 1) := by decide +kernel
theorem dX10_findCuts_74 : decode cX10_findCuts 74 = .ok (.getfield 7, 3) := by decide +kernel
theorem dX10_findCuts_77 : decode cX10_findCuts 77 = .ok (.bipush 8, 2) := by decide +kernel
theorem dX10_findCuts_79 : decode cX10_findCuts 79 = .ok (.iaload, 1) := by decide +kernel
theorem dX10_findCuts_80 : decode cX10_findCuts 80 = .ok (.if_icmp .ge 40, 3) := by decide +kernel
theorem dX10_findCuts_83 : decode cX10_findCuts 83 = .ok (.iconst 1, 1) := by decide +kernel
theorem dX10_findCuts_84 : decode cX10_findCuts 84 = .ok (.istore_n 2, 1) := by decide +kernel
theorem dX10_findCuts_85 : decode cX10_findCuts 85 = .ok (.iload_n 2, 1) := by decide +kernel
theorem dX10_findCuts_86 : decode cX10_findCuts 86 = .ok (.aload_n 0, 1) := by decide +kernel
theorem dX10_findCuts_87 : decode cX10_findCuts 87 = .ok (.iload_n 1, 1) := by decide +kernel
theorem dX10_findCuts_88 : decode cX10_findCuts 88 = .ok (.invokevirtual 158, 3) := by decide +kernel
theorem dX10_findCuts_91 : decode cX10_findCuts 91 = .ok (.if_icmp .ge 23, 3) := by decide +kernel
theorem dX10_findCuts_94 : decode cX10_findCuts 94 = .ok (.aload_n 0, 1) := by decide +kernel
theorem dX10_findCuts_95 : decode cX10_findCuts 95 = .ok (.iload_n 1, 1) := by decide +kernel
theorem dX10_findCuts_96 : decode cX10_findCuts 96 = .ok (.iconst 0, 1) := by decide +kernel
theorem dX10_findCuts_97 : decode cX10_findCuts 97 = .ok (.iload_n 2, 1) := by decide +kernel
theorem dX10_findCuts_98 : decode cX10_findCuts 98 = .ok (.invokevirtual 184, 3) := by decide +kernel
theorem dX10_findCuts_101 : decode cX10_findCuts 101 = .ok (.aload_n 0, 1) := by decide +kernel
theorem dX10_findCuts_102 : decode cX10_findCuts 102 = .ok (.iload_n 1, 1) := by decide +kernel
theorem dX10_findCuts_103 : decode cX10_findCuts 103 = .ok (.iconst 1, 1) := by decide +kernel
theorem dX10_findCuts_104 : decode cX10_findCuts 104 = .ok (.iload_n 2, 1) := by decide +kernel
theorem dX10_findCuts_105 : decode cX10_findCuts 105 = .ok (.invokevirtual 184, 3) := by decide +kernel
theorem dX10_findCuts_108 : decode cX10_findCuts 108 = .ok (.iinc 2 1, 3) := by decide +kernel
theorem dX10_findCuts_111 : decode cX10_findCuts 111 = .ok (.goto (-26), 3) := by decide +kernel
theorem dX10_findCuts_114 : decode cX10_findCuts 114 = .ok (.iinc 1 1, 3) := by decide +kernel
theorem dX10_findCuts_117 : decode cX10_findCuts 117 = .ok (.goto (-45), 3) := by decide +kernel
theorem dX10_findCuts_120 : decode cX10_findCuts 120 = .ok (.goto (-62), 3) := by decide +kernel
theorem dX10_findCuts_123 : decode cX10_findCuts 123 = .ok (.return_, 1) := by decide +kernel
theorem dX10_slicesOf_0 : decode cX10_slicesOf 0 = .ok (.aload_n 0, 1) := by decide +kernel
theorem dX10_slicesOf_1 : decode cX10_slicesOf 1 = .ok (.getfield 7, 3) := by decide +kernel
theorem dX10_slicesOf_4 : decode cX10_slicesOf 4 = .ok (.iload_n 1, 1) := by decide +kernel
theorem dX10_slicesOf_5 : decode cX10_slicesOf 5 = .ok (.iaload, 1) := by decide +kernel
theorem dX10_slicesOf_6 : decode cX10_slicesOf 6 = .ok (.ifCond .le 7, 3) := by decide +kernel
theorem dX10_slicesOf_9 : decode cX10_slicesOf 9 = .ok (.iconst 1, 1) := by decide +kernel
theorem dX10_slicesOf_10 : decode cX10_slicesOf 10 = .ok (.goto 4, 3) := by decide +kernel
theorem dX10_slicesOf_13 : decode cX10_slicesOf 13 = .ok (.iconst 0, 1) := by decide +kernel
theorem dX10_slicesOf_14 : decode cX10_slicesOf 14 = .ok (.istore_n 2, 1) := by decide +kernel
theorem dX10_slicesOf_15 : decode cX10_slicesOf 15 = .ok (.iconst 1, 1) := by decide +kernel
theorem dX10_slicesOf_16 : decode cX10_slicesOf 16 = .ok (.istore_n 3, 1) := by decide +kernel
theorem dX10_slicesOf_17 : decode cX10_slicesOf 17 = .ok (.iload_n 3, 1) := by decide +kernel
theorem dX10_slicesOf_18 : decode cX10_slicesOf 18 = .ok (.aload_n 0, 1) := by decide +kernel
theorem dX10_slicesOf_19 : decode cX10_slicesOf 19 = .ok (.getfield 7, 3) := by decide +kernel
theorem dX10_slicesOf_22 : decode cX10_slicesOf 22 = .ok (.iload_n 1, 1) := by decide +kernel
theorem dX10_slicesOf_23 : decode cX10_slicesOf 23 = .ok (.iaload, 1) := by decide +kernel
theorem dX10_slicesOf_24 : decode cX10_slicesOf 24 = .ok (.if_icmp .ge 31, 3) := by decide +kernel
theorem dX10_slicesOf_27 : decode cX10_slicesOf 27 = .ok (.iload_n 2, 1) := by decide +kernel
theorem dX10_slicesOf_28 : decode cX10_slicesOf 28 = .ok (.aload_n 0, 1) := by decide +kernel
theorem dX10_slicesOf_29 : decode cX10_slicesOf 29 = .ok (.getfield 32, 3) := by decide +kernel
theorem dX10_slicesOf_32 : decode cX10_slicesOf 32 = .ok (.bipush 16, 2) := by decide +kernel
theorem dX10_slicesOf_34 : decode cX10_slicesOf 34 = .ok (.iload_n 1, 1) := by decide +kernel
theorem dX10_slicesOf_35 : decode cX10_slicesOf 35 = .ok (.imul, 1) := by decide +kernel
theorem dX10_slicesOf_36 : decode cX10_slicesOf 36 = .ok (.iload_n 3, 1) := by decide +kernel
theorem dX10_slicesOf_37 : decode cX10_slicesOf 37 = .ok (.iadd, 1) := by decide +kernel
theorem dX10_slicesOf_38 : decode cX10_slicesOf 38 = .ok (.baload, 1) := by decide +kernel
theorem dX10_slicesOf_39 : decode cX10_slicesOf 39 = .ok (.ifCond .eq 7, 3) := by decide +kernel
theorem dX10_slicesOf_42 : decode cX10_slicesOf 42 = .ok (.iconst 1, 1) := by decide +kernel
theorem dX10_slicesOf_43 : decode cX10_slicesOf 43 = .ok (.goto 4, 3) := by decide +kernel
theorem dX10_slicesOf_46 : decode cX10_slicesOf 46 = .ok (.iconst 0, 1) := by decide +kernel
theorem dX10_slicesOf_47 : decode cX10_slicesOf 47 = .ok (.iadd, 1) := by decide +kernel
theorem dX10_slicesOf_48 : decode cX10_slicesOf 48 = .ok (.istore_n 2, 1) := by decide +kernel
theorem dX10_slicesOf_49 : decode cX10_slicesOf 49 = .ok (.iinc 3 1, 3) := by decide +kernel
theorem dX10_slicesOf_52 : decode cX10_slicesOf 52 = .ok (.goto (-35), 3) := by decide +kernel
theorem dX10_slicesOf_55 : decode cX10_slicesOf 55 = .ok (.iload_n 2, 1) := by decide +kernel
theorem dX10_slicesOf_56 : decode cX10_slicesOf 56 = .ok (.ireturn, 1) := by decide +kernel
theorem dX10_startOf_0 : decode cX10_startOf 0 = .ok (.iload_n 2, 1) := by decide +kernel
theorem dX10_startOf_1 : decode cX10_startOf 1 = .ok (.istore_n 3, 1) := by decide +kernel
theorem dX10_startOf_2 : decode cX10_startOf 2 = .ok (.iconst 0, 1) := by decide +kernel
theorem dX10_startOf_3 : decode cX10_startOf 3 = .ok (.istore 4, 2) := by decide +kernel
theorem dX10_startOf_5 : decode cX10_startOf 5 = .ok (.iload_n 3, 1) := by decide +kernel
theorem dX10_startOf_6 : decode cX10_startOf 6 = .ok (.ifCond .le 54, 3) := by decide +kernel
theorem dX10_startOf_9 : decode cX10_startOf 9 = .ok (.iload 4, 2) := by decide +kernel
theorem dX10_startOf_11 : decode cX10_startOf 11 = .ok (.aload_n 0, 1) := by decide +kernel
theorem dX10_startOf_12 : decode cX10_startOf 12 = .ok (.getfield 7, 3) := by decide +kernel
theorem dX10_startOf_15 : decode cX10_startOf 15 = .ok (.iload_n 1, 1) := by decide +kernel
theorem dX10_startOf_16 : decode cX10_startOf 16 = .ok (.iaload, 1) := by decide +kernel
theorem dX10_startOf_17 : decode cX10_startOf 17 = .ok (.if_icmp .ge 43, 3) := by decide +kernel
theorem dX10_startOf_20 : decode cX10_startOf 20 = .ok (.iinc 4 1, 3) := by decide +kernel
theorem dX10_startOf_23 : decode cX10_startOf 23 = .ok (.iload_n 3, 1) := by decide +kernel
theorem dX10_startOf_24 : decode cX10_startOf 24 = .ok (.iload 4, 2) := by decide +kernel
theorem dX10_startOf_26 : decode cX10_startOf 26 = .ok (.aload_n 0, 1) := by decide +kernel
theorem dX10_startOf_27 : decode cX10_startOf 27 = .ok (.getfield 7, 3) := by decide +kernel
theorem dX10_startOf_30 : decode cX10_startOf 30 = .ok (.iload_n 1, 1) := by decide +kernel
theorem dX10_startOf_31 : decode cX10_startOf 31 = .ok (.iaload, 1) := by decide +kernel
theorem dX10_startOf_32 : decode cX10_startOf 32 = .ok (.if_icmp .ge 22, 3) := by decide +kernel
theorem dX10_startOf_35 : decode cX10_startOf 35 = .ok (.aload_n 0, 1) := by decide +kernel
theorem dX10_startOf_36 : decode cX10_startOf 36 = .ok (.getfield 32, 3) := by decide +kernel
theorem dX10_startOf_39 : decode cX10_startOf 39 = .ok (.bipush 16, 2) := by decide +kernel
theorem dX10_startOf_41 : decode cX10_startOf 41 = .ok (.iload_n 1, 1) := by decide +kernel
theorem dX10_startOf_42 : decode cX10_startOf 42 = .ok (.imul, 1) := by decide +kernel
theorem dX10_startOf_43 : decode cX10_startOf 43 = .ok (.iload 4, 2) := by decide +kernel
theorem dX10_startOf_45 : decode cX10_startOf 45 = .ok (.iadd, 1) := by decide +kernel
theorem dX10_startOf_46 : decode cX10_startOf 46 = .ok (.baload, 1) := by decide +kernel
theorem dX10_startOf_47 : decode cX10_startOf 47 = .ok (.ifCond .eq 7, 3) := by decide +kernel
theorem dX10_startOf_50 : decode cX10_startOf 50 = .ok (.iconst 1, 1) := by decide +kernel
theorem dX10_startOf_51 : decode cX10_startOf 51 = .ok (.goto 4, 3) := by decide +kernel
theorem dX10_startOf_54 : decode cX10_startOf 54 = .ok (.iconst 0, 1) := by decide +kernel
theorem dX10_startOf_55 : decode cX10_startOf 55 = .ok (.isub, 1) := by decide +kernel
theorem dX10_startOf_56 : decode cX10_startOf 56 = .ok (.istore_n 3, 1) := by decide +kernel
theorem dX10_startOf_57 : decode cX10_startOf 57 = .ok (.goto (-52), 3) := by decide +kernel
theorem dX10_startOf_60 : decode cX10_startOf 60 = .ok (.iload 4, 2) := by decide +kernel
theorem dX10_startOf_62 : decode cX10_startOf 62 = .ok (.ireturn, 1) := by decide +kernel
theorem dX10_sliceOfBit_0 : decode cX10_sliceOfBit 0 = .ok (.iconst 0, 1) := by decide +kernel
theorem dX10_sliceOfBit_1 : decode cX10_sliceOfBit 1 = .ok (.istore_n 3, 1) := by decide +kernel
theorem dX10_sliceOfBit_2 : decode cX10_sliceOfBit 2 = .ok (.iconst 1, 1) := by decide +kernel
theorem dX10_sliceOfBit_3 : decode cX10_sliceOfBit 3 = .ok (.istore 4, 2) := by decide +kernel
theorem dX10_sliceOfBit_5 : decode cX10_sliceOfBit 5 = .ok (.iload 4, 2) := by decide +kernel
theorem dX10_sliceOfBit_7 : decode cX10_sliceOfBit 7 = .ok (.iload_n 2, 1) := by decide +kernel
theorem dX10_sliceOfBit_8 : decode cX10_sliceOfBit 8 = .ok (.if_icmp .gt 32, 3) := by decide +kernel
theorem dX10_sliceOfBit_11 : decode cX10_sliceOfBit 11 = .ok (.iload_n 3, 1) := by decide +kernel
theorem dX10_sliceOfBit_12 : decode cX10_sliceOfBit 12 = .ok (.aload_n 0, 1) := by decide +kernel
theorem dX10_sliceOfBit_13 : decode cX10_sliceOfBit 13 = .ok (.getfield 32, 3) := by decide +kernel
theorem dX10_sliceOfBit_16 : decode cX10_sliceOfBit 16 = .ok (.bipush 16, 2) := by decide +kernel
theorem dX10_sliceOfBit_18 : decode cX10_sliceOfBit 18 = .ok (.iload_n 1, 1) := by decide +kernel
theorem dX10_sliceOfBit_19 : decode cX10_sliceOfBit 19 = .ok (.imul, 1) := by decide +kernel
theorem dX10_sliceOfBit_20 : decode cX10_sliceOfBit 20 = .ok (.iload 4, 2) := by decide +kernel
theorem dX10_sliceOfBit_22 : decode cX10_sliceOfBit 22 = .ok (.iadd, 1) := by decide +kernel
theorem dX10_sliceOfBit_23 : decode cX10_sliceOfBit 23 = .ok (.baload, 1) := by decide +kernel
theorem dX10_sliceOfBit_24 : decode cX10_sliceOfBit 24 = .ok (.ifCond .eq 7, 3) := by decide +kernel
theorem dX10_sliceOfBit_27 : decode cX10_sliceOfBit 27 = .ok (.iconst 1, 1) := by decide +kernel
theorem dX10_sliceOfBit_28 : decode cX10_sliceOfBit 28 = .ok (.goto 4, 3) := by decide +kernel
theorem dX10_sliceOfBit_31 : decode cX10_sliceOfBit 31 = .ok (.iconst 0, 1) := by decide +kernel
theorem dX10_sliceOfBit_32 : decode cX10_sliceOfBit 32 = .ok (.iadd, 1) := by decide +kernel
theorem dX10_sliceOfBit_33 : decode cX10_sliceOfBit 33 = .ok (.istore_n 3, 1) := by decide +kernel
theorem dX10_sliceOfBit_34 : decode cX10_sliceOfBit 34 = .ok (.iinc 4 1, 3) := by decide +kernel
theorem dX10_sliceOfBit_37 : decode cX10_sliceOfBit 37 = .ok (.goto (-32), 3) := by decide +kernel
theorem dX10_sliceOfBit_40 : decode cX10_sliceOfBit 40 = .ok (.iload_n 3, 1) := by decide +kernel
theorem dX10_sliceOfBit_41 : decode cX10_sliceOfBit 41 = .ok (.ireturn, 1) := by decide +kernel
theorem dX10_sliceCount_0 : decode cX10_sliceCount 0 = .ok (.aload_n 0, 1) := by decide +kernel
theorem dX10_sliceCount_1 : decode cX10_sliceCount 1 = .ok (.iconst 0, 1) := by decide +kernel
theorem dX10_sliceCount_2 : decode cX10_sliceCount 2 = .ok (.putfield 47, 3) := by decide +kernel
theorem dX10_sliceCount_5 : decode cX10_sliceCount 5 = .ok (.aload_n 0, 1) := by decide +kernel
theorem dX10_sliceCount_6 : decode cX10_sliceCount 6 = .ok (.invokevirtual 188, 3) := by decide +kernel
theorem dX10_sliceCount_9 : decode cX10_sliceCount 9 = .ok (.iload_n 1, 1) := by decide +kernel
theorem dX10_sliceCount_10 : decode cX10_sliceCount 10 = .ok (.invokestatic 151, 3) := by decide +kernel
theorem dX10_sliceCount_13 : decode cX10_sliceCount 13 = .ok (.ifCond .eq 11, 3) := by decide +kernel
theorem dX10_sliceCount_16 : decode cX10_sliceCount 16 = .ok (.aload_n 0, 1) := by decide +kernel
theorem dX10_sliceCount_17 : decode cX10_sliceCount 17 = .ok (.iload_n 1, 1) := by decide +kernel
theorem dX10_sliceCount_18 : decode cX10_sliceCount 18 = .ok (.invokevirtual 191, 3) := by decide +kernel
theorem dX10_sliceCount_21 : decode cX10_sliceCount 21 = .ok (.goto 4, 3) := by decide +kernel
theorem dX10_sliceCount_24 : decode cX10_sliceCount 24 = .ok (.iconst (-1), 1) := by decide +kernel
theorem dX10_sliceCount_25 : decode cX10_sliceCount 25 = .ok (.ireturn, 1) := by decide +kernel
theorem dX10_isSlice_0 : decode cX10_isSlice 0 = .ok (.aload_n 0, 1) := by decide +kernel
theorem dX10_isSlice_1 : decode cX10_isSlice 1 = .ok (.invokevirtual 188, 3) := by decide +kernel
theorem dX10_isSlice_4 : decode cX10_isSlice 4 = .ok (.iload_n 1, 1) := by decide +kernel
theorem dX10_isSlice_5 : decode cX10_isSlice 5 = .ok (.invokestatic 151, 3) := by decide +kernel
theorem dX10_isSlice_8 : decode cX10_isSlice 8 = .ok (.ifCond .eq 22, 3) := by decide +kernel
theorem dX10_isSlice_11 : decode cX10_isSlice 11 = .ok (.iload_n 2, 1) := by decide +kernel
theorem dX10_isSlice_12 : decode cX10_isSlice 12 = .ok (.iconst 0, 1) := by decide +kernel
theorem dX10_isSlice_13 : decode cX10_isSlice 13 = .ok (.aload_n 0, 1) := by decide +kernel
theorem dX10_isSlice_14 : decode cX10_isSlice 14 = .ok (.iload_n 1, 1) := by decide +kernel
theorem dX10_isSlice_15 : decode cX10_isSlice 15 = .ok (.invokevirtual 191, 3) := by decide +kernel
theorem dX10_isSlice_18 : decode cX10_isSlice 18 = .ok (.iconst 1, 1) := by decide +kernel
theorem dX10_isSlice_19 : decode cX10_isSlice 19 = .ok (.isub, 1) := by decide +kernel
theorem dX10_isSlice_20 : decode cX10_isSlice 20 = .ok (.invokestatic 60, 3) := by decide +kernel
theorem dX10_isSlice_23 : decode cX10_isSlice 23 = .ok (.ifCond .eq 7, 3) := by decide +kernel
theorem dX10_isSlice_26 : decode cX10_isSlice 26 = .ok (.iconst 1, 1) := by decide +kernel
theorem dX10_isSlice_27 : decode cX10_isSlice 27 = .ok (.goto 4, 3) := by decide +kernel
theorem dX10_isSlice_30 : decode cX10_isSlice 30 = .ok (.iconst 0, 1) := by decide +kernel
theorem dX10_isSlice_31 : decode cX10_isSlice 31 = .ok (.ireturn, 1) := by decide +kernel
theorem dX10_sliceStart_0 : decode cX10_sliceStart 0 = .ok (.aload_n 0, 1) := by decide +kernel
theorem dX10_sliceStart_1 : decode cX10_sliceStart 1 = .ok (.iconst 0, 1) := by decide +kernel
theorem dX10_sliceStart_2 : decode cX10_sliceStart 2 = .ok (.putfield 47, 3) := by decide +kernel
theorem dX10_sliceStart_5 : decode cX10_sliceStart 5 = .ok (.aload_n 0, 1) := by decide +kernel
theorem dX10_sliceStart_6 : decode cX10_sliceStart 6 = .ok (.iload_n 1, 1) := by decide +kernel
theorem dX10_sliceStart_7 : decode cX10_sliceStart 7 = .ok (.iload_n 2, 1) := by decide +kernel
theorem dX10_sliceStart_8 : decode cX10_sliceStart 8 = .ok (.invokevirtual 194, 3) := by decide +kernel
theorem dX10_sliceStart_11 : decode cX10_sliceStart 11 = .ok (.ifCond .eq 12, 3) := by decide +kernel
theorem dX10_sliceStart_14 : decode cX10_sliceStart 14 = .ok (.aload_n 0, 1) := by decide +kernel
theorem dX10_sliceStart_15 : decode cX10_sliceStart 15 = .ok (.iload_n 1, 1) := by decide +kernel
theorem dX10_sliceStart_16 : decode cX10_sliceStart 16 = .ok (.iload_n 2, 1) := by decide +kernel
theorem dX10_sliceStart_17 : decode cX10_sliceStart 17 = .ok (.invokevirtual 197, 3) := by decide +kernel
theorem dX10_sliceStart_20 : decode cX10_sliceStart 20 = .ok (.goto 4, 3) := by decide +kernel
theorem dX10_sliceStart_23 : decode cX10_sliceStart 23 = .ok (.iconst (-1), 1) := by decide +kernel
theorem dX10_sliceStart_24 : decode cX10_sliceStart 24 = .ok (.ireturn, 1) := by decide +kernel
theorem dX10_sliceWidth_0 : decode cX10_sliceWidth 0 = .ok (.aload_n 0, 1) := by decide +kernel
theorem dX10_sliceWidth_1 : decode cX10_sliceWidth 1 = .ok (.iconst 0, 1) := by decide +kernel
theorem dX10_sliceWidth_2 : decode cX10_sliceWidth 2 = .ok (.putfield 47, 3) := by decide +kernel
theorem dX10_sliceWidth_5 : decode cX10_sliceWidth 5 = .ok (.aload_n 0, 1) := by decide +kernel
theorem dX10_sliceWidth_6 : decode cX10_sliceWidth 6 = .ok (.iload_n 1, 1) := by decide +kernel
theorem dX10_sliceWidth_7 : decode cX10_sliceWidth 7 = .ok (.iload_n 2, 1) := by decide +kernel
theorem dX10_sliceWidth_8 : decode cX10_sliceWidth 8 = .ok (.invokevirtual 194, 3) := by decide +kernel
theorem dX10_sliceWidth_11 : decode cX10_sliceWidth 11 = .ok (.ifCond .eq 21, 3) := by decide +kernel
theorem dX10_sliceWidth_14 : decode cX10_sliceWidth 14 = .ok (.aload_n 0, 1) := by decide +kernel
theorem dX10_sliceWidth_15 : decode cX10_sliceWidth 15 = .ok (.iload_n 1, 1) := by decide +kernel
theorem dX10_sliceWidth_16 : decode cX10_sliceWidth 16 = .ok (.iload_n 2, 1) := by decide +kernel
theorem dX10_sliceWidth_17 : decode cX10_sliceWidth 17 = .ok (.iconst 1, 1) := by decide +kernel
theorem dX10_sliceWidth_18 : decode cX10_sliceWidth 18 = .ok (.iadd, 1) := by decide +kernel
theorem dX10_sliceWidth_19 : decode cX10_sliceWidth 19 = .ok (.invokevirtual 197, 3) := by decide +kernel
theorem dX10_sliceWidth_22 : decode cX10_sliceWidth 22 = .ok (.aload_n 0, 1) := by decide +kernel
theorem dX10_sliceWidth_23 : decode cX10_sliceWidth 23 = .ok (.iload_n 1, 1) := by decide +kernel
theorem dX10_sliceWidth_24 : decode cX10_sliceWidth 24 = .ok (.iload_n 2, 1) := by decide +kernel
theorem dX10_sliceWidth_25 : decode cX10_sliceWidth 25 = .ok (.invokevirtual 197, 3) := by decide +kernel
theorem dX10_sliceWidth_28 : decode cX10_sliceWidth 28 = .ok (.isub, 1) := by decide +kernel
theorem dX10_sliceWidth_29 : decode cX10_sliceWidth 29 = .ok (.goto 4, 3) := by decide +kernel
theorem dX10_sliceWidth_32 : decode cX10_sliceWidth 32 = .ok (.iconst (-1), 1) := by decide +kernel
theorem dX10_sliceWidth_33 : decode cX10_sliceWidth 33 = .ok (.ireturn, 1) := by decide +kernel
theorem dX10_rootOf_0 : decode cX10_rootOf 0 = .ok (.iload_n 1, 1) := by decide +kernel
theorem dX10_rootOf_1 : decode cX10_rootOf 1 = .ok (.istore_n 2, 1) := by decide +kernel
theorem dX10_rootOf_2 : decode cX10_rootOf 2 = .ok (.aload_n 0, 1) := by decide +kernel
theorem dX10_rootOf_3 : decode cX10_rootOf 3 = .ok (.getfield 35, 3) := by decide +kernel
theorem dX10_rootOf_6 : decode cX10_rootOf 6 = .ok (.iload_n 2, 1) := by decide +kernel
theorem dX10_rootOf_7 : decode cX10_rootOf 7 = .ok (.iaload, 1) := by decide +kernel
theorem dX10_rootOf_8 : decode cX10_rootOf 8 = .ok (.iload_n 2, 1) := by decide +kernel
theorem dX10_rootOf_9 : decode cX10_rootOf 9 = .ok (.if_icmp .eq 13, 3) := by decide +kernel
theorem dX10_rootOf_12 : decode cX10_rootOf 12 = .ok (.aload_n 0, 1) := by decide +kernel
theorem dX10_rootOf_13 : decode cX10_rootOf 13 = .ok (.getfield 35, 3) := by decide +kernel
theorem dX10_rootOf_16 : decode cX10_rootOf 16 = .ok (.iload_n 2, 1) := by decide +kernel
theorem dX10_rootOf_17 : decode cX10_rootOf 17 = .ok (.iaload, 1) := by decide +kernel
theorem dX10_rootOf_18 : decode cX10_rootOf 18 = .ok (.istore_n 2, 1) := by decide +kernel
theorem dX10_rootOf_19 : decode cX10_rootOf 19 = .ok (.goto (-17), 3) := by decide +kernel
theorem dX10_rootOf_22 : decode cX10_rootOf 22 = .ok (.iload_n 2, 1) := by decide +kernel
theorem dX10_rootOf_23 : decode cX10_rootOf 23 = .ok (.ireturn, 1) := by decide +kernel
theorem dX10_fix_0 : decode cX10_fix 0 = .ok (.aload_n 0, 1) := by decide +kernel
theorem dX10_fix_1 : decode cX10_fix 1 = .ok (.aload_n 0, 1) := by decide +kernel
theorem dX10_fix_2 : decode cX10_fix 2 = .ok (.getfield 200, 3) := by decide +kernel
theorem dX10_fix_5 : decode cX10_fix 5 = .ok (.ifCond .ne 24, 3) := by decide +kernel
theorem dX10_fix_8 : decode cX10_fix 8 = .ok (.aload_n 0, 1) := by decide +kernel
theorem dX10_fix_9 : decode cX10_fix 9 = .ok (.getfield 38, 3) := by decide +kernel
theorem dX10_fix_12 : decode cX10_fix 12 = .ok (.iload_n 1, 1) := by decide +kernel
theorem dX10_fix_13 : decode cX10_fix 13 = .ok (.iaload, 1) := by decide +kernel
theorem dX10_fix_14 : decode cX10_fix 14 = .ok (.bipush (-9), 2) := by decide +kernel
theorem dX10_fix_16 : decode cX10_fix 16 = .ok (.if_icmp .eq 17, 3) := by decide +kernel
theorem dX10_fix_19 : decode cX10_fix 19 = .ok (.aload_n 0, 1) := by decide +kernel
theorem dX10_fix_20 : decode cX10_fix 20 = .ok (.getfield 38, 3) := by decide +kernel
theorem dX10_fix_23 : decode cX10_fix 23 = .ok (.iload_n 1, 1) := by decide +kernel
theorem dX10_fix_24 : decode cX10_fix 24 = .ok (.iaload, 1) := by decide +kernel
theorem dX10_fix_25 : decode cX10_fix 25 = .ok (.iload_n 2, 1) := by decide +kernel
theorem dX10_fix_26 : decode cX10_fix 26 = .ok (.if_icmp .eq 7, 3) := by decide +kernel
theorem dX10_fix_29 : decode cX10_fix 29 = .ok (.iconst 1, 1) := by decide +kernel
theorem dX10_fix_30 : decode cX10_fix 30 = .ok (.goto 4, 3) := by decide +kernel
theorem dX10_fix_33 : decode cX10_fix 33 = .ok (.iconst 0, 1) := by decide +kernel
theorem dX10_fix_34 : decode cX10_fix 34 = .ok (.putfield 200, 3) := by decide +kernel
theorem dX10_fix_37 : decode cX10_fix 37 = .ok (.aload_n 0, 1) := by decide +kernel
theorem dX10_fix_38 : decode cX10_fix 38 = .ok (.getfield 38, 3) := by decide +kernel
theorem dX10_fix_41 : decode cX10_fix 41 = .ok (.iload_n 1, 1) := by decide +kernel
theorem dX10_fix_42 : decode cX10_fix 42 = .ok (.iload_n 2, 1) := by decide +kernel
theorem dX10_fix_43 : decode cX10_fix 43 = .ok (.iastore, 1) := by decide +kernel
theorem dX10_fix_44 : decode cX10_fix 44 = .ok (.return_, 1) := by decide +kernel
theorem dX10_equate_0 : decode cX10_equate 0 = .ok (.aload_n 0, 1) := by decide +kernel
theorem dX10_equate_1 : decode cX10_equate 1 = .ok (.iload_n 1, 1) := by decide +kernel
theorem dX10_equate_2 : decode cX10_equate 2 = .ok (.invokevirtual 165, 3) := by decide +kernel
theorem dX10_equate_5 : decode cX10_equate 5 = .ok (.ifCond .ne 43, 3) := by decide +kernel
theorem dX10_equate_8 : decode cX10_equate 8 = .ok (.aload_n 0, 1) := by decide +kernel
theorem dX10_equate_9 : decode cX10_equate 9 = .ok (.iload_n 2, 1) := by decide +kernel
theorem dX10_equate_10 : decode cX10_equate 10 = .ok (.invokevirtual 165, 3) := by decide +kernel
theorem dX10_equate_13 : decode cX10_equate 13 = .ok (.ifCond .ne 35, 3) := by decide +kernel
theorem dX10_equate_16 : decode cX10_equate 16 = .ok (.aload_n 0, 1) := by decide +kernel
theorem dX10_equate_17 : decode cX10_equate 17 = .ok (.aload_n 0, 1) := by decide +kernel
theorem dX10_equate_18 : decode cX10_equate 18 = .ok (.getfield 200, 3) := by decide +kernel
theorem dX10_equate_21 : decode cX10_equate 21 = .ok (.ifCond .ne 16, 3) := by decide +kernel
theorem dX10_equate_24 : decode cX10_equate 24 = .ok (.iload_n 1, 1) := by decide +kernel
theorem dX10_equate_25 : decode cX10_equate 25 = .ok (.sipush 256, 3) := by decide +kernel
theorem dX10_equate_28 : decode cX10_equate 28 = .ok (.irem, 1) := by decide +kernel
theorem dX10_equate_29 : decode cX10_equate 29 = .ok (.iload_n 2, 1) := by decide +kernel
theorem dX10_equate_30 : decode cX10_equate 30 = .ok (.sipush 256, 3) := by decide +kernel
theorem dX10_equate_33 : decode cX10_equate 33 = .ok (.irem, 1) := by decide +kernel
theorem dX10_equate_34 : decode cX10_equate 34 = .ok (.if_icmp .eq 7, 3) := by decide +kernel
theorem dX10_equate_37 : decode cX10_equate 37 = .ok (.iconst 1, 1) := by decide +kernel
theorem dX10_equate_38 : decode cX10_equate 38 = .ok (.goto 4, 3) := by decide +kernel
theorem dX10_equate_41 : decode cX10_equate 41 = .ok (.iconst 0, 1) := by decide +kernel
theorem dX10_equate_42 : decode cX10_equate 42 = .ok (.putfield 200, 3) := by decide +kernel
theorem dX10_equate_45 : decode cX10_equate 45 = .ok (.goto 79, 3) := by decide +kernel
theorem dX10_equate_48 : decode cX10_equate 48 = .ok (.aload_n 0, 1) := by decide +kernel
theorem dX10_equate_49 : decode cX10_equate 49 = .ok (.iload_n 1, 1) := by decide +kernel
theorem dX10_equate_50 : decode cX10_equate 50 = .ok (.invokevirtual 165, 3) := by decide +kernel
theorem dX10_equate_53 : decode cX10_equate 53 = .ok (.ifCond .ne 23, 3) := by decide +kernel
theorem dX10_equate_56 : decode cX10_equate 56 = .ok (.aload_n 0, 1) := by decide +kernel
theorem dX10_equate_57 : decode cX10_equate 57 = .ok (.aload_n 0, 1) := by decide +kernel
theorem dX10_equate_58 : decode cX10_equate 58 = .ok (.iload_n 2, 1) := by decide +kernel
theorem dX10_equate_59 : decode cX10_equate 59 = .ok (.invokestatic 168, 3) := by decide +kernel
theorem dX10_equate_62 : decode cX10_equate 62 = .ok (.invokevirtual 203, 3) := by decide +kernel
theorem dX10_equate_65 : decode cX10_equate 65 = .ok (.iload_n 1, 1) := by decide +kernel
theorem dX10_equate_66 : decode cX10_equate 66 = .ok (.sipush 256, 3) := by decide +kernel
theorem dX10_equate_69 : decode cX10_equate 69 = .ok (.irem, 1) := by decide +kernel
theorem dX10_equate_70 : decode cX10_equate 70 = .ok (.invokevirtual 206, 3) := by decide +kernel
theorem dX10_equate_73 : decode cX10_equate 73 = .ok (.goto 51, 3) := by decide +kernel
theorem dX10_equate_76 : decode cX10_equate 76 = .ok (.aload_n 0, 1) := by decide +kernel
theorem dX10_equate_77 : decode cX10_equate 77 = .ok (.iload_n 2, 1) := by decide +kernel
theorem dX10_equate_78 : decode cX10_equate 78 = .ok (.invokevirtual 165, 3) := by decide +kernel
theorem dX10_equate_81 : decode cX10_equate 81 = .ok (.ifCond .ne 23, 3) := by decide +kernel
theorem dX10_equate_84 : decode cX10_equate 84 = .ok (.aload_n 0, 1) := by decide +kernel
theorem dX10_equate_85 : decode cX10_equate 85 = .ok (.aload_n 0, 1) := by decide +kernel
theorem dX10_equate_86 : decode cX10_equate 86 = .ok (.iload_n 1, 1) := by decide +kernel
theorem dX10_equate_87 : decode cX10_equate 87 = .ok (.invokestatic 168, 3) := by decide +kernel
theorem dX10_equate_90 : decode cX10_equate 90 = .ok (.invokevirtual 203, 3) := by decide +kernel
theorem dX10_equate_93 : decode cX10_equate 93 = .ok (.iload_n 2, 1) := by decide +kernel
theorem dX10_equate_94 : decode cX10_equate 94 = .ok (.sipush 256, 3) := by decide +kernel
theorem dX10_equate_97 : decode cX10_equate 97 = .ok (.irem, 1) := by decide +kernel
theorem dX10_equate_98 : decode cX10_equate 98 = .ok (.invokevirtual 206, 3) := by decide +kernel
theorem dX10_equate_101 : decode cX10_equate 101 = .ok (.goto 23, 3) := by decide +kernel
theorem dX10_equate_104 : decode cX10_equate 104 = .ok (.aload_n 0, 1) := by decide +kernel
theorem dX10_equate_105 : decode cX10_equate 105 = .ok (.aload_n 0, 1) := by decide +kernel
theorem dX10_equate_106 : decode cX10_equate 106 = .ok (.iload_n 1, 1) := by decide +kernel
theorem dX10_equate_107 : decode cX10_equate 107 = .ok (.invokestatic 168, 3) := by decide +kernel
theorem dX10_equate_110 : decode cX10_equate 110 = .ok (.invokevirtual 203, 3) := by decide +kernel
theorem dX10_equate_113 : decode cX10_equate 113 = .ok (.aload_n 0, 1) := by decide +kernel
theorem dX10_equate_114 : decode cX10_equate 114 = .ok (.iload_n 2, 1) := by decide +kernel
theorem dX10_equate_115 : decode cX10_equate 115 = .ok (.invokestatic 168, 3) := by decide +kernel
theorem dX10_equate_118 : decode cX10_equate 118 = .ok (.invokevirtual 203, 3) := by decide +kernel
theorem dX10_equate_121 : decode cX10_equate 121 = .ok (.invokevirtual 209, 3) := by decide +kernel
theorem dX10_equate_124 : decode cX10_equate 124 = .ok (.return_, 1) := by decide +kernel
theorem dX10_join_0 : decode cX10_join 0 = .ok (.iload_n 1, 1) := by decide +kernel
theorem dX10_join_1 : decode cX10_join 1 = .ok (.iload_n 2, 1) := by decide +kernel
theorem dX10_join_2 : decode cX10_join 2 = .ok (.if_icmp .ge 7, 3) := by decide +kernel
theorem dX10_join_5 : decode cX10_join 5 = .ok (.iload_n 1, 1) := by decide +kernel
theorem dX10_join_6 : decode cX10_join 6 = .ok (.goto 4, 3) := by decide +kernel
theorem dX10_join_9 : decode cX10_join 9 = .ok (.iload_n 2, 1) := by decide +kernel
theorem dX10_join_10 : decode cX10_join 10 = .ok (.istore_n 3, 1) := by decide +kernel
theorem dX10_join_11 : decode cX10_join 11 = .ok (.iload_n 1, 1) := by decide +kernel
theorem dX10_join_12 : decode cX10_join 12 = .ok (.iload_n 2, 1) := by decide +kernel
theorem dX10_join_13 : decode cX10_join 13 = .ok (.if_icmp .ge 7, 3) := by decide +kernel
theorem dX10_join_16 : decode cX10_join 16 = .ok (.iload_n 2, 1) := by decide +kernel
theorem dX10_join_17 : decode cX10_join 17 = .ok (.goto 4, 3) := by decide +kernel
theorem dX10_join_20 : decode cX10_join 20 = .ok (.iload_n 1, 1) := by decide +kernel
theorem dX10_join_21 : decode cX10_join 21 = .ok (.istore 4, 2) := by decide +kernel
theorem dX10_join_23 : decode cX10_join 23 = .ok (.iload_n 3, 1) := by decide +kernel
theorem dX10_join_24 : decode cX10_join 24 = .ok (.iload 4, 2) := by decide +kernel
theorem dX10_join_26 : decode cX10_join 26 = .ok (.if_icmp .eq 35, 3) := by decide +kernel
theorem dX10_join_29 : decode cX10_join 29 = .ok (.aload_n 0, 1) := by decide +kernel
theorem dX10_join_30 : decode cX10_join 30 = .ok (.getfield 35, 3) := by decide +kernel
theorem dX10_join_33 : decode cX10_join 33 = .ok (.iload 4, 2) := by decide +kernel
theorem dX10_join_35 : decode cX10_join 35 = .ok (.iload_n 3, 1) := by decide +kernel
theorem dX10_join_36 : decode cX10_join 36 = .ok (.iastore, 1) := by decide +kernel
theorem dX10_join_37 : decode cX10_join 37 = .ok (.aload_n 0, 1) := by decide +kernel
theorem dX10_join_38 : decode cX10_join 38 = .ok (.getfield 38, 3) := by decide +kernel
theorem dX10_join_41 : decode cX10_join 41 = .ok (.iload 4, 2) := by decide +kernel
theorem dX10_join_43 : decode cX10_join 43 = .ok (.iaload, 1) := by decide +kernel
theorem dX10_join_44 : decode cX10_join 44 = .ok (.bipush (-9), 2) := by decide +kernel
theorem dX10_join_46 : decode cX10_join 46 = .ok (.if_icmp .eq 15, 3) := by decide +kernel
theorem dX10_join_49 : decode cX10_join 49 = .ok (.aload_n 0, 1) := by decide +kernel
theorem dX10_join_50 : decode cX10_join 50 = .ok (.iload_n 3, 1) := by decide +kernel
theorem dX10_join_51 : decode cX10_join 51 = .ok (.aload_n 0, 1) := by decide +kernel
theorem dX10_join_52 : decode cX10_join 52 = .ok (.getfield 38, 3) := by decide +kernel
theorem dX10_join_55 : decode cX10_join 55 = .ok (.iload 4, 2) := by decide +kernel
theorem dX10_join_57 : decode cX10_join 57 = .ok (.iaload, 1) := by decide +kernel
theorem dX10_join_58 : decode cX10_join 58 = .ok (.invokevirtual 206, 3) := by decide +kernel
theorem dX10_join_61 : decode cX10_join 61 = .ok (.return_, 1) := by decide +kernel
theorem dX10_equateTerms_0 : decode cX10_equateTerms 0 = .ok (.iconst 0, 1) := by decide +kernel
theorem dX10_equateTerms_1 : decode cX10_equateTerms 1 = .ok (.istore_n 2, 1) := by decide +kernel
theorem dX10_equateTerms_2 : decode cX10_equateTerms 2 = .ok (.iload_n 2, 1) := by decide +kernel
theorem dX10_equateTerms_3 : decode cX10_equateTerms 3 = .ok (.aload_n 0, 1) := by decide +kernel
theorem dX10_equateTerms_4 : decode cX10_equateTerms 4 = .ok (.iload_n 1, 1) := by decide +kernel
theorem dX10_equateTerms_5 : decode cX10_equateTerms 5 = .ok (.invokevirtual 158, 3) := by decide +kernel
theorem dX10_equateTerms_8 : decode cX10_equateTerms 8 = .ok (.if_icmp .ge 27, 3) := by decide +kernel
theorem dX10_equateTerms_11 : decode cX10_equateTerms 11 = .ok (.aload_n 0, 1) := by decide +kernel
theorem dX10_equateTerms_12 : decode cX10_equateTerms 12 = .ok (.aload_n 0, 1) := by decide +kernel
theorem dX10_equateTerms_13 : decode cX10_equateTerms 13 = .ok (.iload_n 1, 1) := by decide +kernel
theorem dX10_equateTerms_14 : decode cX10_equateTerms 14 = .ok (.iconst 0, 1) := by decide +kernel
theorem dX10_equateTerms_15 : decode cX10_equateTerms 15 = .ok (.iload_n 2, 1) := by decide +kernel
theorem dX10_equateTerms_16 : decode cX10_equateTerms 16 = .ok (.invokevirtual 161, 3) := by decide +kernel
theorem dX10_equateTerms_19 : decode cX10_equateTerms 19 = .ok (.aload_n 0, 1) := by decide +kernel
theorem dX10_equateTerms_20 : decode cX10_equateTerms 20 = .ok (.iload_n 1, 1) := by decide +kernel
theorem dX10_equateTerms_21 : decode cX10_equateTerms 21 = .ok (.iconst 1, 1) := by decide +kernel
theorem dX10_equateTerms_22 : decode cX10_equateTerms 22 = .ok (.iload_n 2, 1) := by decide +kernel
theorem dX10_equateTerms_23 : decode cX10_equateTerms 23 = .ok (.invokevirtual 161, 3) := by decide +kernel
theorem dX10_equateTerms_26 : decode cX10_equateTerms 26 = .ok (.invokevirtual 212, 3) := by decide +kernel
theorem dX10_equateTerms_29 : decode cX10_equateTerms 29 = .ok (.iinc 2 1, 3) := by decide +kernel
theorem dX10_equateTerms_32 : decode cX10_equateTerms 32 = .ok (.goto (-30), 3) := by decide +kernel
theorem dX10_equateTerms_35 : decode cX10_equateTerms 35 = .ok (.return_, 1) := by decide +kernel
theorem dX10_solve_0 : decode cX10_solve 0 = .ok (.iconst 0, 1) := by decide +kernel
theorem dX10_solve_1 : decode cX10_solve 1 = .ok (.istore_n 2, 1) := by decide +kernel
theorem dX10_solve_2 : decode cX10_solve 2 = .ok (.iload_n 2, 1) := by decide +kernel
theorem dX10_solve_3 : decode cX10_solve 3 = .ok (.sipush 128, 3) := by decide +kernel
theorem dX10_solve_6 : decode cX10_solve 6 = .ok (.if_icmp .ge 24, 3) := by decide +kernel
theorem dX10_solve_9 : decode cX10_solve 9 = .ok (.aload_n 0, 1) := by decide +kernel
theorem dX10_solve_10 : decode cX10_solve 10 = .ok (.getfield 35, 3) := by decide +kernel
theorem dX10_solve_13 : decode cX10_solve 13 = .ok (.iload_n 2, 1) := by decide +kernel
theorem dX10_solve_14 : decode cX10_solve 14 = .ok (.iload_n 2, 1) := by decide +kernel
theorem dX10_solve_15 : decode cX10_solve 15 = .ok (.iastore, 1) := by decide +kernel
theorem dX10_solve_16 : decode cX10_solve 16 = .ok (.aload_n 0, 1) := by decide +kernel
theorem dX10_solve_17 : decode cX10_solve 17 = .ok (.getfield 38, 3) := by decide +kernel
theorem dX10_solve_20 : decode cX10_solve 20 = .ok (.iload_n 2, 1) := by decide +kernel
theorem dX10_solve_21 : decode cX10_solve 21 = .ok (.bipush (-9), 2) := by decide +kernel
theorem dX10_solve_23 : decode cX10_solve 23 = .ok (.iastore, 1) := by decide +kernel
theorem dX10_solve_24 : decode cX10_solve 24 = .ok (.iinc 2 1, 3) := by decide +kernel
theorem dX10_solve_27 : decode cX10_solve 27 = .ok (.goto (-25), 3) := by decide +kernel
theorem dX10_solve_30 : decode cX10_solve 30 = .ok (.aload_n 0, 1) := by decide +kernel
theorem dX10_solve_31 : decode cX10_solve 31 = .ok (.iconst 0, 1) := by decide +kernel
theorem dX10_solve_32 : decode cX10_solve 32 = .ok (.putfield 200, 3) := by decide +kernel
theorem dX10_solve_35 : decode cX10_solve 35 = .ok (.iconst 0, 1) := by decide +kernel
theorem dX10_solve_36 : decode cX10_solve 36 = .ok (.istore_n 2, 1) := by decide +kernel
theorem dX10_solve_37 : decode cX10_solve 37 = .ok (.iload_n 2, 1) := by decide +kernel
theorem dX10_solve_38 : decode cX10_solve 38 = .ok (.aload_n 0, 1) := by decide +kernel
theorem dX10_solve_39 : decode cX10_solve 39 = .ok (.getfield 7, 3) := by decide +kernel
theorem dX10_solve_42 : decode cX10_solve 42 = .ok (.bipush 8, 2) := by decide +kernel
theorem dX10_solve_44 : decode cX10_solve 44 = .ok (.iaload, 1) := by decide +kernel
theorem dX10_solve_45 : decode cX10_solve 45 = .ok (.if_icmp .ge 23, 3) := by decide +kernel
theorem dX10_solve_48 : decode cX10_solve 48 = .ok (.iload_n 1, 1) := by decide +kernel
theorem dX10_solve_49 : decode cX10_solve 49 = .ok (.iload_n 2, 1) := by decide +kernel
theorem dX10_solve_50 : decode cX10_solve 50 = .ok (.ishr, 1) := by decide +kernel
theorem dX10_solve_51 : decode cX10_solve 51 = .ok (.iconst 1, 1) := by decide +kernel
theorem dX10_solve_52 : decode cX10_solve 52 = .ok (.iand, 1) := by decide +kernel
theorem dX10_solve_53 : decode cX10_solve 53 = .ok (.iconst 1, 1) := by decide +kernel
theorem dX10_solve_54 : decode cX10_solve 54 = .ok (.if_icmp .ne 8, 3) := by decide +kernel
theorem dX10_solve_57 : decode cX10_solve 57 = .ok (.aload_n 0, 1) := by decide +kernel
theorem dX10_solve_58 : decode cX10_solve 58 = .ok (.iload_n 2, 1) := by decide +kernel
theorem dX10_solve_59 : decode cX10_solve 59 = .ok (.invokevirtual 215, 3) := by decide +kernel
theorem dX10_solve_62 : decode cX10_solve 62 = .ok (.iinc 2 1, 3) := by decide +kernel
theorem dX10_solve_65 : decode cX10_solve 65 = .ok (.goto (-28), 3) := by decide +kernel
theorem dX10_solve_68 : decode cX10_solve 68 = .ok (.aload_n 0, 1) := by decide +kernel
theorem dX10_solve_69 : decode cX10_solve 69 = .ok (.getfield 200, 3) := by decide +kernel
theorem dX10_solve_72 : decode cX10_solve 72 = .ok (.ifCond .ne 7, 3) := by decide +kernel
theorem dX10_solve_75 : decode cX10_solve 75 = .ok (.iconst 1, 1) := by decide +kernel
theorem dX10_solve_76 : decode cX10_solve 76 = .ok (.goto 4, 3) := by decide +kernel
theorem dX10_solve_79 : decode cX10_solve 79 = .ok (.iconst 0, 1) := by decide +kernel
theorem dX10_solve_80 : decode cX10_solve 80 = .ok (.ireturn, 1) := by decide +kernel
theorem dX10_solveAll_0 : decode cX10_solveAll 0 = .ok (.aload_n 0, 1) := by decide +kernel
theorem dX10_solveAll_1 : decode cX10_solveAll 1 = .ok (.iconst 1, 1) := by decide +kernel
theorem dX10_solveAll_2 : decode cX10_solveAll 2 = .ok (.aload_n 0, 1) := by decide +kernel
theorem dX10_solveAll_3 : decode cX10_solveAll 3 = .ok (.getfield 7, 3) := by decide +kernel
theorem dX10_solveAll_6 : decode cX10_solveAll 6 = .ok (.bipush 8, 2) := by decide +kernel
theorem dX10_solveAll_8 : decode cX10_solveAll 8 = .ok (.iaload, 1) := by decide +kernel
theorem dX10_solveAll_9 : decode cX10_solveAll 9 = .ok (.ishl, 1) := by decide +kernel
theorem dX10_solveAll_10 : decode cX10_solveAll 10 = .ok (.iconst 1, 1) := by decide +kernel
theorem dX10_solveAll_11 : decode cX10_solveAll 11 = .ok (.isub, 1) := by decide +kernel
theorem dX10_solveAll_12 : decode cX10_solveAll 12 = .ok (.invokevirtual 218, 3) := by decide +kernel
theorem dX10_solveAll_15 : decode cX10_solveAll 15 = .ok (.ireturn, 1) := by decide +kernel
theorem dX10_representative_0 : decode cX10_representative 0 = .ok (.aload_n 0, 1) := by decide +kernel
theorem dX10_representative_1 : decode cX10_representative 1 = .ok (.iconst 0, 1) := by decide +kernel
theorem dX10_representative_2 : decode cX10_representative 2 = .ok (.putfield 47, 3) := by decide +kernel
theorem dX10_representative_5 : decode cX10_representative 5 = .ok (.aload_n 0, 1) := by decide +kernel
theorem dX10_representative_6 : decode cX10_representative 6 = .ok (.iload_n 1, 1) := by decide +kernel
theorem dX10_representative_7 : decode cX10_representative 7 = .ok (.iload_n 2, 1) := by decide +kernel
theorem dX10_representative_8 : decode cX10_representative 8 = .ok (.invokevirtual 194, 3) := by decide +kernel
theorem dX10_representative_11 : decode cX10_representative 11 = .ok (.ifCond .ne 5, 3) := by decide +kernel
theorem dX10_representative_14 : decode cX10_representative 14 = .ok (.iconst (-1), 1) := by decide +kernel
theorem dX10_representative_15 : decode cX10_representative 15 = .ok (.ireturn, 1) := by decide +kernel
theorem dX10_representative_16 : decode cX10_representative 16 = .ok (.aload_n 0, 1) := by decide +kernel
theorem dX10_representative_17 : decode cX10_representative 17 = .ok (.invokevirtual 221, 3) := by decide +kernel
theorem dX10_representative_20 : decode cX10_representative 20 = .ok (.pop, 1) := by decide +kernel
theorem dX10_representative_21 : decode cX10_representative 21 = .ok (.aload_n 0, 1) := by decide +kernel
theorem dX10_representative_22 : decode cX10_representative 22 = .ok (.bipush 16, 2) := by decide +kernel
theorem dX10_representative_24 : decode cX10_representative 24 = .ok (.iload_n 1, 1) := by decide +kernel
theorem dX10_representative_25 : decode cX10_representative 25 = .ok (.imul, 1) := by decide +kernel
theorem dX10_representative_26 : decode cX10_representative 26 = .ok (.aload_n 0, 1) := by decide +kernel
theorem dX10_representative_27 : decode cX10_representative 27 = .ok (.iload_n 1, 1) := by decide +kernel
theorem dX10_representative_28 : decode cX10_representative 28 = .ok (.iload_n 2, 1) := by decide +kernel
theorem dX10_representative_29 : decode cX10_representative 29 = .ok (.invokevirtual 197, 3) := by decide +kernel
theorem dX10_representative_32 : decode cX10_representative 32 = .ok (.iadd, 1) := by decide +kernel
theorem dX10_representative_33 : decode cX10_representative 33 = .ok (.invokevirtual 203, 3) := by decide +kernel
theorem dX10_representative_36 : decode cX10_representative 36 = .ok (.istore_n 3, 1) := by decide +kernel
theorem dX10_representative_37 : decode cX10_representative 37 = .ok (.bipush 16, 2) := by decide +kernel
theorem dX10_representative_39 : decode cX10_representative 39 = .ok (.iload_n 3, 1) := by decide +kernel
theorem dX10_representative_40 : decode cX10_representative 40 = .ok (.bipush 16, 2) := by decide +kernel
theorem dX10_representative_42 : decode cX10_representative 42 = .ok (.idiv, 1) := by decide +kernel
theorem dX10_representative_43 : decode cX10_representative 43 = .ok (.imul, 1) := by decide +kernel
theorem dX10_representative_44 : decode cX10_representative 44 = .ok (.aload_n 0, 1) := by decide +kernel
theorem dX10_representative_45 : decode cX10_representative 45 = .ok (.iload_n 3, 1) := by decide +kernel
theorem dX10_representative_46 : decode cX10_representative 46 = .ok (.bipush 16, 2) := by decide +kernel
theorem dX10_representative_48 : decode cX10_representative 48 = .ok (.idiv, 1) := by decide +kernel
theorem dX10_representative_49 : decode cX10_representative 49 = .ok (.iload_n 3, 1) := by decide +kernel
theorem dX10_representative_50 : decode cX10_representative 50 = .ok (.bipush 16, 2) := by decide +kernel
theorem dX10_representative_52 : decode cX10_representative 52 = .ok (.irem, 1) := by decide +kernel
theorem dX10_representative_53 : decode cX10_representative 53 = .ok (.invokevirtual 224, 3) := by decide +kernel
theorem dX10_representative_56 : decode cX10_representative 56 = .ok (.iadd, 1) := by decide +kernel

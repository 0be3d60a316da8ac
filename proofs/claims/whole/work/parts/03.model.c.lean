theorem dX10_strain_214 : decode cX10_strain 214 = .ok (.ifCond .le 5, 3) := by decide +kernel
theorem dX10_strain_217 : decode cX10_strain 217 = .ok (.lconst 0, 1) := by decide +kernel
theorem dX10_strain_218 : decode cX10_strain 218 = .ok (.lreturn, 1) := by decide +kernel
theorem dX10_strain_219 : decode cX10_strain 219 = .ok (.lload 6, 2) := by decide +kernel
theorem dX10_strain_221 : decode cX10_strain 221 = .ok (.lload 18, 2) := by decide +kernel
theorem dX10_strain_223 : decode cX10_strain 223 = .ok (.lmul, 1) := by decide +kernel
theorem dX10_strain_224 : decode cX10_strain 224 = .ok (.lload 10, 2) := by decide +kernel
theorem dX10_strain_226 : decode cX10_strain 226 = .ok (.lload 14, 2) := by decide +kernel
theorem dX10_strain_228 : decode cX10_strain 228 = .ok (.lmul, 1) := by decide +kernel
theorem dX10_strain_229 : decode cX10_strain 229 = .ok (.lsub, 1) := by decide +kernel
theorem dX10_strain_230 : decode cX10_strain 230 = .ok (.lstore 24, 2) := by decide +kernel
theorem dX10_strain_232 : decode cX10_strain 232 = .ok (.lload 16, 2) := by decide +kernel
theorem dX10_strain_234 : decode cX10_strain 234 = .ok (.lload 12, 2) := by decide +kernel
theorem dX10_strain_236 : decode cX10_strain 236 = .ok (.lmul, 1) := by decide +kernel
theorem dX10_strain_237 : decode cX10_strain 237 = .ok (.lload 20, 2) := by decide +kernel
theorem dX10_strain_239 : decode cX10_strain 239 = .ok (.lload 8, 2) := by decide +kernel
theorem dX10_strain_241 : decode cX10_strain 241 = .ok (.lmul, 1) := by decide +kernel
theorem dX10_strain_242 : decode cX10_strain 242 = .ok (.lsub, 1) := by decide +kernel
theorem dX10_strain_243 : decode cX10_strain 243 = .ok (.lstore 26, 2) := by decide +kernel
theorem dX10_strain_245 : decode cX10_strain 245 = .ok (.iload 4, 2) := by decide +kernel
theorem dX10_strain_247 : decode cX10_strain 247 = .ok (.ifCond .ne 17, 3) := by decide +kernel
theorem dX10_strain_250 : decode cX10_strain 250 = .ok (.lload 14, 2) := by decide +kernel
theorem dX10_strain_252 : decode cX10_strain 252 = .ok (.lload 12, 2) := by decide +kernel
theorem dX10_strain_254 : decode cX10_strain 254 = .ok (.lmul, 1) := by decide +kernel
theorem dX10_strain_255 : decode cX10_strain 255 = .ok (.lload 18, 2) := by decide +kernel
theorem dX10_strain_257 : decode cX10_strain 257 = .ok (.lload 8, 2) := by decide +kernel
theorem dX10_strain_259 : decode cX10_strain 259 = .ok (.lmul, 1) := by decide +kernel
theorem dX10_strain_260 : decode cX10_strain 260 = .ok (.lsub, 1) := by decide +kernel
theorem dX10_strain_261 : decode cX10_strain 261 = .ok (.goto 42, 3) := by decide +kernel
theorem dX10_strain_264 : decode cX10_strain 264 = .ok (.iload 4, 2) := by decide +kernel
theorem dX10_strain_266 : decode cX10_strain 266 = .ok (.iconst 1, 1) := by decide +kernel
theorem dX10_strain_267 : decode cX10_strain 267 = .ok (.if_icmp .ne 17, 3) := by decide +kernel
theorem dX10_strain_270 : decode cX10_strain 270 = .ok (.lload 6, 2) := by decide +kernel
theorem dX10_strain_272 : decode cX10_strain 272 = .ok (.lload 20, 2) := by decide +kernel
theorem dX10_strain_274 : decode cX10_strain 274 = .ok (.lmul, 1) := by decide +kernel
theorem dX10_strain_275 : decode cX10_strain 275 = .ok (.lload 10, 2) := by decide +kernel
theorem dX10_strain_277 : decode cX10_strain 277 = .ok (.lload 16, 2) := by decide +kernel
theorem dX10_strain_279 : decode cX10_strain 279 = .ok (.lmul, 1) := by decide +kernel
theorem dX10_strain_280 : decode cX10_strain 280 = .ok (.lsub, 1) := by decide +kernel
theorem dX10_strain_281 : decode cX10_strain 281 = .ok (.goto 22, 3) := by decide +kernel
theorem dX10_strain_284 : decode cX10_strain 284 = .ok (.iload 4, 2) := by decide +kernel
theorem dX10_strain_286 : decode cX10_strain 286 = .ok (.iconst 2, 1) := by decide +kernel
theorem dX10_strain_287 : decode cX10_strain 287 = .ok (.if_icmp .ne 11, 3) := by decide +kernel
theorem dX10_strain_290 : decode cX10_strain 290 = .ok (.lload 24, 2) := by decide +kernel
theorem dX10_strain_292 : decode cX10_strain 292 = .ok (.lload 26, 2) := by decide +kernel
theorem dX10_strain_294 : decode cX10_strain 294 = .ok (.ladd, 1) := by decide +kernel
theorem dX10_strain_295 : decode cX10_strain 295 = .ok (.goto 8, 3) := by decide +kernel
theorem dX10_strain_298 : decode cX10_strain 298 = .ok (.lload 26, 2) := by decide +kernel
theorem dX10_strain_300 : decode cX10_strain 300 = .ok (.lload 24, 2) := by decide +kernel
theorem dX10_strain_302 : decode cX10_strain 302 = .ok (.lsub, 1) := by decide +kernel
theorem dX10_strain_303 : decode cX10_strain 303 = .ok (.lstore 28, 2) := by decide +kernel
theorem dX10_strain_305 : decode cX10_strain 305 = .ok (.aload_n 0, 1) := by decide +kernel
theorem dX10_strain_306 : decode cX10_strain 306 = .ok (.lload 28, 2) := by decide +kernel
theorem dX10_strain_308 : decode cX10_strain 308 = .ok (.lload 22, 2) := by decide +kernel
theorem dX10_strain_310 : decode cX10_strain 310 = .ok (.iload 5, 2) := by decide +kernel
theorem dX10_strain_312 : decode cX10_strain 312 = .ok (.invokevirtual 160, 3) := by decide +kernel
theorem dX10_strain_315 : decode cX10_strain 315 = .ok (.lreturn, 1) := by decide +kernel
theorem dX10_isBlock_0 : decode cX10_isBlock 0 = .ok (.iconst 0, 1) := by decide +kernel
theorem dX10_isBlock_1 : decode cX10_isBlock 1 = .ok (.istore_n 2, 1) := by decide +kernel
theorem dX10_isBlock_2 : decode cX10_isBlock 2 = .ok (.iload_n 1, 1) := by decide +kernel
theorem dX10_isBlock_3 : decode cX10_isBlock 3 = .ok (.iload_n 2, 1) := by decide +kernel
theorem dX10_isBlock_4 : decode cX10_isBlock 4 = .ok (.ishr, 1) := by decide +kernel
theorem dX10_isBlock_5 : decode cX10_isBlock 5 = .ok (.iconst 1, 1) := by decide +kernel
theorem dX10_isBlock_6 : decode cX10_isBlock 6 = .ok (.iand, 1) := by decide +kernel
theorem dX10_isBlock_7 : decode cX10_isBlock 7 = .ok (.ifCond .ne 9, 3) := by decide +kernel
theorem dX10_isBlock_10 : decode cX10_isBlock 10 = .ok (.iinc 2 1, 3) := by decide +kernel
theorem dX10_isBlock_13 : decode cX10_isBlock 13 = .ok (.goto (-11), 3) := by decide +kernel
theorem dX10_isBlock_16 : decode cX10_isBlock 16 = .ok (.lconst 0, 1) := by decide +kernel
theorem dX10_isBlock_17 : decode cX10_isBlock 17 = .ok (.lstore_n 3, 1) := by decide +kernel
theorem dX10_isBlock_18 : decode cX10_isBlock 18 = .ok (.lconst 0, 1) := by decide +kernel
theorem dX10_isBlock_19 : decode cX10_isBlock 19 = .ok (.lstore 5, 2) := by decide +kernel
theorem dX10_isBlock_21 : decode cX10_isBlock 21 = .ok (.iload_n 2, 1) := by decide +kernel
theorem dX10_isBlock_22 : decode cX10_isBlock 22 = .ok (.iconst 1, 1) := by decide +kernel
theorem dX10_isBlock_23 : decode cX10_isBlock 23 = .ok (.iadd, 1) := by decide +kernel
theorem dX10_isBlock_24 : decode cX10_isBlock 24 = .ok (.istore 7, 2) := by decide +kernel
theorem dX10_isBlock_26 : decode cX10_isBlock 26 = .ok (.iload 7, 2) := by decide +kernel
theorem dX10_isBlock_28 : decode cX10_isBlock 28 = .ok (.aload_n 0, 1) := by decide +kernel
theorem dX10_isBlock_29 : decode cX10_isBlock 29 = .ok (.getfield 13, 3) := by decide +kernel
theorem dX10_isBlock_32 : decode cX10_isBlock 32 = .ok (.if_icmp .ge 186, 3) := by decide +kernel
theorem dX10_isBlock_35 : decode cX10_isBlock 35 = .ok (.iload_n 1, 1) := by decide +kernel
theorem dX10_isBlock_36 : decode cX10_isBlock 36 = .ok (.iload 7, 2) := by decide +kernel
theorem dX10_isBlock_38 : decode cX10_isBlock 38 = .ok (.ishr, 1) := by decide +kernel
theorem dX10_isBlock_39 : decode cX10_isBlock 39 = .ok (.iconst 1, 1) := by decide +kernel
theorem dX10_isBlock_40 : decode cX10_isBlock 40 = .ok (.iand, 1) := by decide +kernel
theorem dX10_isBlock_41 : decode cX10_isBlock 41 = .ok (.ifCond .ne 6, 3) := by decide +kernel
theorem dX10_isBlock_44 : decode cX10_isBlock 44 = .ok (.goto 168, 3) := by decide +kernel
theorem dX10_isBlock_47 : decode cX10_isBlock 47 = .ok (.aload_n 0, 1) := by decide +kernel
theorem dX10_isBlock_48 : decode cX10_isBlock 48 = .ok (.getfield 20, 3) := by decide +kernel
theorem dX10_isBlock_51 : decode cX10_isBlock 51 = .ok (.iload 7, 2) := by decide +kernel
theorem dX10_isBlock_53 : decode cX10_isBlock 53 = .ok (.iaload, 1) := by decide +kernel
theorem dX10_isBlock_54 : decode cX10_isBlock 54 = .ok (.aload_n 0, 1) := by decide +kernel
theorem dX10_isBlock_55 : decode cX10_isBlock 55 = .ok (.getfield 20, 3) := by decide +kernel
theorem dX10_isBlock_58 : decode cX10_isBlock 58 = .ok (.iload_n 2, 1) := by decide +kernel
theorem dX10_isBlock_59 : decode cX10_isBlock 59 = .ok (.iaload, 1) := by decide +kernel
theorem dX10_isBlock_60 : decode cX10_isBlock 60 = .ok (.isub, 1) := by decide +kernel
theorem dX10_isBlock_61 : decode cX10_isBlock 61 = .ok (.i2l, 1) := by decide +kernel
theorem dX10_isBlock_62 : decode cX10_isBlock 62 = .ok (.lstore 8, 2) := by decide +kernel
theorem dX10_isBlock_64 : decode cX10_isBlock 64 = .ok (.aload_n 0, 1) := by decide +kernel
theorem dX10_isBlock_65 : decode cX10_isBlock 65 = .ok (.getfield 23, 3) := by decide +kernel
theorem dX10_isBlock_68 : decode cX10_isBlock 68 = .ok (.iload 7, 2) := by decide +kernel
theorem dX10_isBlock_70 : decode cX10_isBlock 70 = .ok (.iaload, 1) := by decide +kernel
theorem dX10_isBlock_71 : decode cX10_isBlock 71 = .ok (.aload_n 0, 1) := by decide +kernel
theorem dX10_isBlock_72 : decode cX10_isBlock 72 = .ok (.getfield 23, 3) := by decide +kernel
theorem dX10_isBlock_75 : decode cX10_isBlock 75 = .ok (.iload_n 2, 1) := by decide +kernel
theorem dX10_isBlock_76 : decode cX10_isBlock 76 = .ok (.iaload, 1) := by decide +kernel
theorem dX10_isBlock_77 : decode cX10_isBlock 77 = .ok (.isub, 1) := by decide +kernel
theorem dX10_isBlock_78 : decode cX10_isBlock 78 = .ok (.i2l, 1) := by decide +kernel
theorem dX10_isBlock_79 : decode cX10_isBlock 79 = .ok (.lstore 10, 2) := by decide +kernel
theorem dX10_isBlock_81 : decode cX10_isBlock 81 = .ok (.aload_n 0, 1) := by decide +kernel
theorem dX10_isBlock_82 : decode cX10_isBlock 82 = .ok (.getfield 48, 3) := by decide +kernel
theorem dX10_isBlock_85 : decode cX10_isBlock 85 = .ok (.iload 7, 2) := by decide +kernel
theorem dX10_isBlock_87 : decode cX10_isBlock 87 = .ok (.iaload, 1) := by decide +kernel
theorem dX10_isBlock_88 : decode cX10_isBlock 88 = .ok (.aload_n 0, 1) := by decide +kernel
theorem dX10_isBlock_89 : decode cX10_isBlock 89 = .ok (.getfield 48, 3) := by decide +kernel
theorem dX10_isBlock_92 : decode cX10_isBlock 92 = .ok (.iload_n 2, 1) := by decide +kernel
theorem dX10_isBlock_93 : decode cX10_isBlock 93 = .ok (.iaload, 1) := by decide +kernel
theorem dX10_isBlock_94 : decode cX10_isBlock 94 = .ok (.isub, 1) := by decide +kernel
theorem dX10_isBlock_95 : decode cX10_isBlock 95 = .ok (.i2l, 1) := by decide +kernel
theorem dX10_isBlock_96 : decode cX10_isBlock 96 = .ok (.lstore 12, 2) := by decide +kernel
theorem dX10_isBlock_98 : decode cX10_isBlock 98 = .ok (.aload_n 0, 1) := by decide +kernel
theorem dX10_isBlock_99 : decode cX10_isBlock 99 = .ok (.getfield 51, 3) := by decide +kernel
theorem dX10_isBlock_102 : decode cX10_isBlock 102 = .ok (.iload 7, 2) := by decide +kernel
theorem dX10_isBlock_104 : decode cX10_isBlock 104 = .ok (.iaload, 1) := by decide +kernel
theorem dX10_isBlock_105 : decode cX10_isBlock 105 = .ok (.aload_n 0, 1) := by decide +kernel
theorem dX10_isBlock_106 : decode cX10_isBlock 106 = .ok (.getfield 51, 3) := by decide +kernel
theorem dX10_isBlock_109 : decode cX10_isBlock 109 = .ok (.iload_n 2, 1) := by decide +kernel
theorem dX10_isBlock_110 : decode cX10_isBlock 110 = .ok (.iaload, 1) := by decide +kernel
theorem dX10_isBlock_111 : decode cX10_isBlock 111 = .ok (.isub, 1) := by decide +kernel
theorem dX10_isBlock_112 : decode cX10_isBlock 112 = .ok (.i2l, 1) := by decide +kernel
theorem dX10_isBlock_113 : decode cX10_isBlock 113 = .ok (.lstore 14, 2) := by decide +kernel
theorem dX10_isBlock_115 : decode cX10_isBlock 115 = .ok (.lload 5, 2) := by decide +kernel
theorem dX10_isBlock_117 : decode cX10_isBlock 117 = .ok (.lconst 0, 1) := by decide +kernel
theorem dX10_isBlock_118 : decode cX10_isBlock 118 = .ok (.lcmp, 1) := by decide +kernel
theorem dX10_isBlock_119 : decode cX10_isBlock 119 = .ok (.ifCond .ne 49, 3) := by decide +kernel
theorem dX10_isBlock_122 : decode cX10_isBlock 122 = .ok (.lload 8, 2) := by decide +kernel
theorem dX10_isBlock_124 : decode cX10_isBlock 124 = .ok (.lconst 0, 1) := by decide +kernel
theorem dX10_isBlock_125 : decode cX10_isBlock 125 = .ok (.lcmp, 1) := by decide +kernel
theorem dX10_isBlock_126 : decode cX10_isBlock 126 = .ok (.ifCond .ne 10, 3) := by decide +kernel
theorem dX10_isBlock_129 : decode cX10_isBlock 129 = .ok (.lload 10, 2) := by decide +kernel
theorem dX10_isBlock_131 : decode cX10_isBlock 131 = .ok (.lconst 0, 1) := by decide +kernel
theorem dX10_isBlock_132 : decode cX10_isBlock 132 = .ok (.lcmp, 1) := by decide +kernel
theorem dX10_isBlock_133 : decode cX10_isBlock 133 = .ok (.ifCond .eq 35, 3) := by decide +kernel
theorem dX10_isBlock_136 : decode cX10_isBlock 136 = .ok (.lload 8, 2) := by decide +kernel
theorem dX10_isBlock_138 : decode cX10_isBlock 138 = .ok (.lconst 0, 1) := by decide +kernel
theorem dX10_isBlock_139 : decode cX10_isBlock 139 = .ok (.lcmp, 1) := by decide +kernel
theorem dX10_isBlock_140 : decode cX10_isBlock 140 = .ok (.ifCond .eq 8, 3) := by decide +kernel
theorem dX10_isBlock_143 : decode cX10_isBlock 143 = .ok (.lload 14, 2) := by decide +kernel
theorem dX10_isBlock_145 : decode cX10_isBlock 145 = .ok (.goto 6, 3) := by decide +kernel
theorem dX10_isBlock_148 : decode cX10_isBlock 148 = .ok (.lload 12, 2) := by decide +kernel
theorem dX10_isBlock_150 : decode cX10_isBlock 150 = .ok (.lneg, 1) := by decide +kernel
theorem dX10_isBlock_151 : decode cX10_isBlock 151 = .ok (.lstore_n 3, 1) := by decide +kernel
theorem dX10_isBlock_152 : decode cX10_isBlock 152 = .ok (.lload 8, 2) := by decide +kernel
theorem dX10_isBlock_154 : decode cX10_isBlock 154 = .ok (.lconst 0, 1) := by decide +kernel
theorem dX10_isBlock_155 : decode cX10_isBlock 155 = .ok (.lcmp, 1) := by decide +kernel
theorem dX10_isBlock_156 : decode cX10_isBlock 156 = .ok (.ifCond .eq 8, 3) := by decide +kernel
theorem dX10_isBlock_159 : decode cX10_isBlock 159 = .ok (.lload 8, 2) := by decide +kernel
theorem dX10_isBlock_161 : decode cX10_isBlock 161 = .ok (.goto 5, 3) := by decide +kernel
theorem dX10_isBlock_164 : decode cX10_isBlock 164 = .ok (.lload 10, 2) := by decide +kernel
theorem dX10_isBlock_166 : decode cX10_isBlock 166 = .ok (.lstore 5, 2) := by decide +kernel
theorem dX10_isBlock_168 : decode cX10_isBlock 168 = .ok (.lload 5, 2) := by decide +kernel
theorem dX10_isBlock_170 : decode cX10_isBlock 170 = .ok (.lconst 0, 1) := by decide +kernel
theorem dX10_isBlock_171 : decode cX10_isBlock 171 = .ok (.lcmp, 1) := by decide +kernel
theorem dX10_isBlock_172 : decode cX10_isBlock 172 = .ok (.ifCond .ne 7, 3) := by decide +kernel
theorem dX10_isBlock_175 : decode cX10_isBlock 175 = .ok (.lconst 1, 1) := by decide +kernel
theorem dX10_isBlock_176 : decode cX10_isBlock 176 = .ok (.goto 5, 3) := by decide +kernel
theorem dX10_isBlock_179 : decode cX10_isBlock 179 = .ok (.lload 5, 2) := by decide +kernel
theorem dX10_isBlock_181 : decode cX10_isBlock 181 = .ok (.lstore 16, 2) := by decide +kernel
theorem dX10_isBlock_183 : decode cX10_isBlock 183 = .ok (.lload 12, 2) := by decide +kernel
theorem dX10_isBlock_185 : decode cX10_isBlock 185 = .ok (.lload 16, 2) := by decide +kernel
theorem dX10_isBlock_187 : decode cX10_isBlock 187 = .ok (.lmul, 1) := by decide +kernel
theorem dX10_isBlock_188 : decode cX10_isBlock 188 = .ok (.lload_n 3, 1) := by decide +kernel
theorem dX10_isBlock_189 : decode cX10_isBlock 189 = .ok (.lneg, 1) := by decide +kernel
theorem dX10_isBlock_190 : decode cX10_isBlock 190 = .ok (.lload 10, 2) := by decide +kernel
theorem dX10_isBlock_192 : decode cX10_isBlock 192 = .ok (.lmul, 1) := by decide +kernel
theorem dX10_isBlock_193 : decode cX10_isBlock 193 = .ok (.lcmp, 1) := by decide +kernel
theorem dX10_isBlock_194 : decode cX10_isBlock 194 = .ok (.ifCond .ne 16, 3) := by decide +kernel
theorem dX10_isBlock_197 : decode cX10_isBlock 197 = .ok (.lload 14, 2) := by decide +kernel
theorem dX10_isBlock_199 : decode cX10_isBlock 199 = .ok (.lload 16, 2) := by decide +kernel
theorem dX10_isBlock_201 : decode cX10_isBlock 201 = .ok (.lmul, 1) := by decide +kernel
theorem dX10_isBlock_202 : decode cX10_isBlock 202 = .ok (.lload_n 3, 1) := by decide +kernel
theorem dX10_isBlock_203 : decode cX10_isBlock 203 = .ok (.lload 8, 2) := by decide +kernel
theorem dX10_isBlock_205 : decode cX10_isBlock 205 = .ok (.lmul, 1) := by decide +kernel
theorem dX10_isBlock_206 : decode cX10_isBlock 206 = .ok (.lcmp, 1) := by decide +kernel
theorem dX10_isBlock_207 : decode cX10_isBlock 207 = .ok (.ifCond .eq 5, 3) := by decide +kernel
theorem dX10_isBlock_210 : decode cX10_isBlock 210 = .ok (.iconst 0, 1) := by decide +kernel
theorem dX10_isBlock_211 : decode cX10_isBlock 211 = .ok (.ireturn, 1) := by decide +kernel
theorem dX10_isBlock_212 : decode cX10_isBlock 212 = .ok (.iinc 7 1, 3) := by decide +kernel
theorem dX10_isBlock_215 : decode cX10_isBlock 215 = .ok (.goto (-189), 3) := by decide +kernel
theorem dX10_isBlock_218 : decode cX10_isBlock 218 = .ok (.iconst 1, 1) := by decide +kernel
theorem dX10_isBlock_219 : decode cX10_isBlock 219 = .ok (.ireturn, 1) := by decide +kernel
set_option maxRecDepth 20000 in
theorem ggX10_block_X10_in : GoodIn wsX10_block wsX10_in := goodIn_r _ [6] (by decide +kernel) (by decide +kernel)
set_option maxRecDepth 20000 in
theorem gX10_block_X10_in : GoodIn wsX10_block (wsV RX10 112 RX10 yX10_in wsX10_in) := goodIn_app (goodIn_of _ (by decide +kernel)) ggX10_block_X10_in
set_option maxRecDepth 20000 in
theorem ggX10_block_X10_isBlock : GoodIn wsX10_block wsX10_isBlock := goodIn_r _ [10, 1, 11, 12, 13, 14, 15, 16, 17, 18, 19, 20, 21, 22, 23, 24, 25, 26, 27, 28, 29, 30, 31, 32, 33, 34, 35, 36, 37, 38, 39, 40, 41, 42, 43, 44, 45, 46, 47] (by decide +kernel) (by decide +kernel)
set_option maxRecDepth 20000 in
theorem gX10_block_X10_isBlock : GoodIn wsX10_block (wsV RX10 168 RX10 yX10_isBlock wsX10_isBlock) := goodIn_app (goodIn_of _ (by decide +kernel)) ggX10_block_X10_isBlock
theorem dX10_block_0 : decode cX10_block 0 = .ok (.aload_n 0, 1) := by decide +kernel
theorem dX10_block_1 : decode cX10_block 1 = .ok (.iload_n 1, 1) := by decide +kernel
theorem dX10_block_2 : decode cX10_block 2 = .ok (.iconst 1, 1) := by decide +kernel
theorem dX10_block_3 : decode cX10_block 3 = .ok (.iconst 1, 1) := by decide +kernel
theorem dX10_block_4 : decode cX10_block 4 = .ok (.aload_n 0, 1) := by decide +kernel
theorem dX10_block_5 : decode cX10_block 5 = .ok (.getfield 13, 3) := by decide +kernel
theorem dX10_block_8 : decode cX10_block 8 = .ok (.ishl, 1) := by decide +kernel
theorem dX10_block_9 : decode cX10_block 9 = .ok (.iconst 1, 1) := by decide +kernel
theorem dX10_block_10 : decode cX10_block 10 = .ok (.isub, 1) := by decide +kernel
theorem dX10_block_11 : decode cX10_block 11 = .ok (.invokevirtual 112, 3) := by decide +kernel
theorem dX10_block_14 : decode cX10_block 14 = .ok (.ifCond .eq 19, 3) := by decide +kernel
theorem dX10_block_17 : decode cX10_block 17 = .ok (.aload_n 0, 1) := by decide +kernel
theorem dX10_block_18 : decode cX10_block 18 = .ok (.iload_n 1, 1) := by decide +kernel
theorem dX10_block_19 : decode cX10_block 19 = .ok (.invokevirtual 168, 3) := by decide +kernel
theorem dX10_block_22 : decode cX10_block 22 = .ok (.ifCond .eq 7, 3) := by decide +kernel
theorem dX10_block_25 : decode cX10_block 25 = .ok (.iconst 1, 1) := by decide +kernel
theorem dX10_block_26 : decode cX10_block 26 = .ok (.goto 8, 3) := by decide +kernel
theorem dX10_block_29 : decode cX10_block 29 = .ok (.iconst 0, 1) := by decide +kernel
theorem dX10_block_30 : decode cX10_block 30 = .ok (.goto 4, 3) := by decide +kernel
theorem dX10_block_33 : decode cX10_block 33 = .ok (.iconst (-1), 1) := by decide +kernel
theorem dX10_block_34 : decode cX10_block 34 = .ok (.ireturn, 1) := by decide +kernel
set_option maxRecDepth 20000 in
theorem ggX10_findBlocks_X10_isBlock : GoodIn wsX10_findBlocks wsX10_isBlock := goodIn_r _ [9, 1, 10, 11, 12, 13, 14, 15, 16, 17, 18, 19, 20, 21, 22, 23, 24, 25, 26, 27, 28, 29, 30, 31, 32, 33, 34, 35, 36, 37, 38, 39, 40, 41, 42, 43, 44, 45, 46] (by decide +kernel) (by decide +kernel)
set_option maxRecDepth 20000 in
theorem gX10_findBlocks_X10_isBlock : GoodIn wsX10_findBlocks (wsV RX10 168 RX10 yX10_isBlock wsX10_isBlock) := goodIn_app (goodIn_of _ (by decide +kernel)) ggX10_findBlocks_X10_isBlock
theorem dX10_findBlocks_0 : decode cX10_findBlocks 0 = .ok (.iconst 1, 1) := by decide +kernel
theorem dX10_findBlocks_1 : decode cX10_findBlocks 1 = .ok (.aload_n 0, 1) := by decide +kernel
theorem dX10_findBlocks_2 : decode cX10_findBlocks 2 = .ok (.getfield 13, 3) := by decide +kernel
theorem dX10_findBlocks_5 : decode cX10_findBlocks 5 = .ok (.ishl, 1) := by decide +kernel
theorem dX10_findBlocks_6 : decode cX10_findBlocks 6 = .ok (.iconst 1, 1) := by decide +kernel
theorem dX10_findBlocks_7 : decode cX10_findBlocks 7 = .ok (.isub, 1) := by decide +kernel
theorem dX10_findBlocks_8 : decode cX10_findBlocks 8 = .ok (.istore_n 1, 1) := by decide +kernel
theorem dX10_findBlocks_9 : decode cX10_findBlocks 9 = .ok (.aload_n 0, 1) := by decide +kernel
theorem dX10_findBlocks_10 : decode cX10_findBlocks 10 = .ok (.getfield 54, 3) := by decide +kernel
theorem dX10_findBlocks_13 : decode cX10_findBlocks 13 = .ok (.iconst 0, 1) := by decide +kernel
theorem dX10_findBlocks_14 : decode cX10_findBlocks 14 = .ok (.iconst 0, 1) := by decide +kernel
theorem dX10_findBlocks_15 : decode cX10_findBlocks 15 = .ok (.iastore, 1) := by decide +kernel
theorem dX10_findBlocks_16 : decode cX10_findBlocks 16 = .ok (.iconst 1, 1) := by decide +kernel
theorem dX10_findBlocks_17 : decode cX10_findBlocks 17 = .ok (.istore_n 2, 1) := by decide +kernel
theorem dX10_findBlocks_18 : decode cX10_findBlocks 18 = .ok (.iload_n 2, 1) := by decide +kernel
theorem dX10_findBlocks_19 : decode cX10_findBlocks 19 = .ok (.iload_n 1, 1) := by decide +kernel
theorem dX10_findBlocks_20 : decode cX10_findBlocks 20 = .ok (.if_icmp .gt 115, 3) := by decide +kernel
theorem dX10_findBlocks_23 : decode cX10_findBlocks 23 = .ok (.aload_n 0, 1) := by decide +kernel
theorem dX10_findBlocks_24 : decode cX10_findBlocks 24 = .ok (.getfield 60, 3) := by decide +kernel
theorem dX10_findBlocks_27 : decode cX10_findBlocks 27 = .ok (.iload_n 2, 1) := by decide +kernel
theorem dX10_findBlocks_28 : decode cX10_findBlocks 28 = .ok (.aload_n 0, 1) := by decide +kernel
theorem dX10_findBlocks_29 : decode cX10_findBlocks 29 = .ok (.iload_n 2, 1) := by decide +kernel
theorem dX10_findBlocks_30 : decode cX10_findBlocks 30 = .ok (.invokevirtual 168, 3) := by decide +kernel
theorem dX10_findBlocks_33 : decode cX10_findBlocks 33 = .ok (.bastore, 1) := by decide +kernel
theorem dX10_findBlocks_34 : decode cX10_findBlocks 34 = .ok (.aload_n 0, 1) := by decide +kernel
theorem dX10_findBlocks_35 : decode cX10_findBlocks 35 = .ok (.getfield 54, 3) := by decide +kernel
theorem dX10_findBlocks_38 : decode cX10_findBlocks 38 = .ok (.iload_n 2, 1) := by decide +kernel
theorem dX10_findBlocks_39 : decode cX10_findBlocks 39 = .ok (.bipush 99, 2) := by decide +kernel
theorem dX10_findBlocks_41 : decode cX10_findBlocks 41 = .ok (.iastore, 1) := by decide +kernel
theorem dX10_findBlocks_42 : decode cX10_findBlocks 42 = .ok (.iload_n 2, 1) := by decide +kernel
theorem dX10_findBlocks_43 : decode cX10_findBlocks 43 = .ok (.iload_n 2, 1) := by decide +kernel
theorem dX10_findBlocks_44 : decode cX10_findBlocks 44 = .ok (.ineg, 1) := by decide +kernel
theorem dX10_findBlocks_45 : decode cX10_findBlocks 45 = .ok (.iand, 1) := by decide +kernel
theorem dX10_findBlocks_46 : decode cX10_findBlocks 46 = .ok (.istore_n 3, 1) := by decide +kernel
theorem dX10_findBlocks_47 : decode cX10_findBlocks 47 = .ok (.iload_n 2, 1) := by decide +kernel
theorem dX10_findBlocks_48 : decode cX10_findBlocks 48 = .ok (.istore 4, 2) := by decide +kernel
theorem dX10_findBlocks_50 : decode cX10_findBlocks 50 = .ok (.iload 4, 2) := by decide +kernel
theorem dX10_findBlocks_52 : decode cX10_findBlocks 52 = .ok (.ifCond .le 77, 3) := by decide +kernel
theorem dX10_findBlocks_55 : decode cX10_findBlocks 55 = .ok (.iload 4, 2) := by decide +kernel
theorem dX10_findBlocks_57 : decode cX10_findBlocks 57 = .ok (.iload_n 3, 1) := by decide +kernel
theorem dX10_findBlocks_58 : decode cX10_findBlocks 58 = .ok (.iand, 1) := by decide +kernel
theorem dX10_findBlocks_59 : decode cX10_findBlocks 59 = .ok (.ifCond .eq 59, 3) := by decide +kernel
theorem dX10_findBlocks_62 : decode cX10_findBlocks 62 = .ok (.aload_n 0, 1) := by decide +kernel
theorem dX10_findBlocks_63 : decode cX10_findBlocks 63 = .ok (.getfield 60, 3) := by decide +kernel
theorem dX10_findBlocks_66 : decode cX10_findBlocks 66 = .ok (.iload 4, 2) := by decide +kernel
theorem dX10_findBlocks_68 : decode cX10_findBlocks 68 = .ok (.baload, 1) := by decide +kernel
theorem dX10_findBlocks_69 : decode cX10_findBlocks 69 = .ok (.ifCond .ne 6, 3) := by decide +kernel
theorem dX10_findBlocks_72 : decode cX10_findBlocks 72 = .ok (.goto 46, 3) := by decide +kernel
theorem dX10_findBlocks_75 : decode cX10_findBlocks 75 = .ok (.iconst 1, 1) := by decide +kernel
theorem dX10_findBlocks_76 : decode cX10_findBlocks 76 = .ok (.aload_n 0, 1) := by decide +kernel
theorem dX10_findBlocks_77 : decode cX10_findBlocks 77 = .ok (.getfield 54, 3) := by decide +kernel
theorem dX10_findBlocks_80 : decode cX10_findBlocks 80 = .ok (.iload_n 2, 1) := by decide +kernel
theorem dX10_findBlocks_81 : decode cX10_findBlocks 81 = .ok (.iload 4, 2) := by decide +kernel
theorem dX10_findBlocks_83 : decode cX10_findBlocks 83 = .ok (.iconst (-1), 1) := by decide +kernel
theorem dX10_findBlocks_84 : decode cX10_findBlocks 84 = .ok (.ixor, 1) := by decide +kernel
theorem dX10_findBlocks_85 : decode cX10_findBlocks 85 = .ok (.iand, 1) := by decide +kernel
theorem dX10_findBlocks_86 : decode cX10_findBlocks 86 = .ok (.iaload, 1) := by decide +kernel
theorem dX10_findBlocks_87 : decode cX10_findBlocks 87 = .ok (.iadd, 1) := by decide +kernel
theorem dX10_findBlocks_88 : decode cX10_findBlocks 88 = .ok (.istore 5, 2) := by decide +kernel
theorem dX10_findBlocks_90 : decode cX10_findBlocks 90 = .ok (.aload_n 0, 1) := by decide +kernel
theorem dX10_findBlocks_91 : decode cX10_findBlocks 91 = .ok (.getfield 54, 3) := by decide +kernel
theorem dX10_findBlocks_94 : decode cX10_findBlocks 94 = .ok (.iload_n 2, 1) := by decide +kernel
theorem dX10_findBlocks_95 : decode cX10_findBlocks 95 = .ok (.iload 5, 2) := by decide +kernel
theorem dX10_findBlocks_97 : decode cX10_findBlocks 97 = .ok (.aload_n 0, 1) := by decide +kernel
theorem dX10_findBlocks_98 : decode cX10_findBlocks 98 = .ok (.getfield 54, 3) := by decide +kernel
theorem dX10_findBlocks_101 : decode cX10_findBlocks 101 = .ok (.iload_n 2, 1) := by decide +kernel
theorem dX10_findBlocks_102 : decode cX10_findBlocks 102 = .ok (.iaload, 1) := by decide +kernel
theorem dX10_findBlocks_103 : decode cX10_findBlocks 103 = .ok (.if_icmp .ge 8, 3) := by decide +kernel
theorem dX10_findBlocks_106 : decode cX10_findBlocks 106 = .ok (.iload 5, 2) := by decide +kernel
theorem dX10_findBlocks_108 : decode cX10_findBlocks 108 = .ok (.goto 9, 3) := by decide +kernel
theorem dX10_findBlocks_111 : decode cX10_findBlocks 111 = .ok (.aload_n 0, 1) := by decide +kernel
theorem dX10_findBlocks_112 : decode cX10_findBlocks 112 = .ok (.getfield 54, 3) := by decide +kernel
theorem dX10_findBlocks_115 : decode cX10_findBlocks 115 = .ok (.iload_n 2, 1) := by decide +kernel
theorem dX10_findBlocks_116 : decode cX10_findBlocks 116 = .ok (.iaload, 1) := by decide +kernel
theorem dX10_findBlocks_117 : decode cX10_findBlocks 117 = .ok (.iastore, 1) := by decide +kernel
theorem dX10_findBlocks_118 : decode cX10_findBlocks 118 = .ok (.iload 4, 2) := by decide +kernel
theorem dX10_findBlocks_120 : decode cX10_findBlocks 120 = .ok (.iconst 1, 1) := by decide +kernel
theorem dX10_findBlocks_121 : decode cX10_findBlocks 121 = .ok (.isub, 1) := by decide +kernel
theorem dX10_findBlocks_122 : decode cX10_findBlocks 122 = .ok (.iload_n 2, 1) := by decide +kernel
theorem dX10_findBlocks_123 : decode cX10_findBlocks 123 = .ok (.iand, 1) := by decide +kernel
theorem dX10_findBlocks_124 : decode cX10_findBlocks 124 = .ok (.istore 4, 2) := by decide +kernel
theorem dX10_findBlocks_126 : decode cX10_findBlocks 126 = .ok (.goto (-76), 3) := by decide +kernel
theorem dX10_findBlocks_129 : decode cX10_findBlocks 129 = .ok (.iinc 2 1, 3) := by decide +kernel
theorem dX10_findBlocks_132 : decode cX10_findBlocks 132 = .ok (.goto (-114), 3) := by decide +kernel
theorem dX10_findBlocks_135 : decode cX10_findBlocks 135 = .ok (.iload_n 1, 1) := by decide +kernel
theorem dX10_findBlocks_136 : decode cX10_findBlocks 136 = .ok (.istore_n 2, 1) := by decide +kernel
theorem dX10_findBlocks_137 : decode cX10_findBlocks 137 = .ok (.iload_n 2, 1) := by decide +kernel
theorem dX10_findBlocks_138 : decode cX10_findBlocks 138 = .ok (.ifCond .le 131, 3) := by decide +kernel
theorem dX10_findBlocks_141 : decode cX10_findBlocks 141 = .ok (.iload_n 2, 1) := by decide +kernel
theorem dX10_findBlocks_142 : decode cX10_findBlocks 142 = .ok (.iload_n 2, 1) := by decide +kernel
theorem dX10_findBlocks_143 : decode cX10_findBlocks 143 = .ok (.ineg, 1) := by decide +kernel
theorem dX10_findBlocks_144 : decode cX10_findBlocks 144 = .ok (.iand, 1) := by decide +kernel
theorem dX10_findBlocks_145 : decode cX10_findBlocks 145 = .ok (.istore_n 3, 1) := by decide +kernel
theorem dX10_findBlocks_146 : decode cX10_findBlocks 146 = .ok (.iconst 0, 1) := by decide +kernel
theorem dX10_findBlocks_147 : decode cX10_findBlocks 147 = .ok (.istore 4, 2) := by decide +kernel
theorem dX10_findBlocks_149 : decode cX10_findBlocks 149 = .ok (.iconst 1, 1) := by decide +kernel
theorem dX10_findBlocks_150 : decode cX10_findBlocks 150 = .ok (.istore 5, 2) := by decide +kernel
theorem dX10_findBlocks_152 : decode cX10_findBlocks 152 = .ok (.iload 5, 2) := by decide +kernel
theorem dX10_findBlocks_154 : decode cX10_findBlocks 154 = .ok (.iload_n 2, 1) := by decide +kernel
theorem dX10_findBlocks_155 : decode cX10_findBlocks 155 = .ok (.if_icmp .gt 66, 3) := by decide +kernel
theorem dX10_findBlocks_158 : decode cX10_findBlocks 158 = .ok (.iload 4, 2) := by decide +kernel
theorem dX10_findBlocks_160 : decode cX10_findBlocks 160 = .ok (.ifCond .ne 61, 3) := by decide +kernel
theorem dX10_findBlocks_163 : decode cX10_findBlocks 163 = .ok (.iload 5, 2) := by decide +kernel
theorem dX10_findBlocks_165 : decode cX10_findBlocks 165 = .ok (.iload_n 2, 1) := by decide +kernel
theorem dX10_findBlocks_166 : decode cX10_findBlocks 166 = .ok (.iconst (-1), 1) := by decide +kernel
theorem dX10_findBlocks_167 : decode cX10_findBlocks 167 = .ok (.ixor, 1) := by decide +kernel
theorem dX10_findBlocks_168 : decode cX10_findBlocks 168 = .ok (.iand, 1) := by decide +kernel
theorem dX10_findBlocks_169 : decode cX10_findBlocks 169 = .ok (.ifCond .ne 46, 3) := by decide +kernel
theorem dX10_findBlocks_172 : decode cX10_findBlocks 172 = .ok (.iload 5, 2) := by decide +kernel
theorem dX10_findBlocks_174 : decode cX10_findBlocks 174 = .ok (.iload_n 3, 1) := by decide +kernel
theorem dX10_findBlocks_175 : decode cX10_findBlocks 175 = .ok (.iand, 1) := by decide +kernel
theorem dX10_findBlocks_176 : decode cX10_findBlocks 176 = .ok (.ifCond .eq 39, 3) := by decide +kernel
theorem dX10_findBlocks_179 : decode cX10_findBlocks 179 = .ok (.aload_n 0, 1) := by decide +kernel
theorem dX10_findBlocks_180 : decode cX10_findBlocks 180 = .ok (.getfield 60, 3) := by decide +kernel
theorem dX10_findBlocks_183 : decode cX10_findBlocks 183 = .ok (.iload 5, 2) := by decide +kernel
theorem dX10_findBlocks_185 : decode cX10_findBlocks 185 = .ok (.baload, 1) := by decide +kernel
theorem dX10_findBlocks_186 : decode cX10_findBlocks 186 = .ok (.ifCond .eq 29, 3) := by decide +kernel
theorem dX10_findBlocks_189 : decode cX10_findBlocks 189 = .ok (.iconst 1, 1) := by decide +kernel
theorem dX10_findBlocks_190 : decode cX10_findBlocks 190 = .ok (.aload_n 0, 1) := by decide +kernel
theorem dX10_findBlocks_191 : decode cX10_findBlocks 191 = .ok (.getfield 54, 3) := by decide +kernel
theorem dX10_findBlocks_194 : decode cX10_findBlocks 194 = .ok (.iload_n 2, 1) := by decide +kernel
theorem dX10_findBlocks_195 : decode cX10_findBlocks 195 = .ok (.iload 5, 2) := by decide +kernel
theorem dX10_findBlocks_197 : decode cX10_findBlocks 197 = .ok (.iconst (-1), 1) := by decide +kernel
theorem dX10_findBlocks_198 : decode cX10_findBlocks 198 = .ok (.ixor, 1) := by decide +kernel
theorem dX10_findBlocks_199 : decode cX10_findBlocks 199 = .ok (.iand, 1) := by decide +kernel
theorem dX10_findBlocks_200 : decode cX10_findBlocks 200 = .ok (.iaload, 1) := by decide +kernel
theorem dX10_findBlocks_201 : decode cX10_findBlocks 201 = .ok (.iadd, 1) := by decide +kernel
theorem dX10_findBlocks_202 : decode cX10_findBlocks 202 = .ok (.aload_n 0, 1) := by decide +kernel
theorem dX10_findBlocks_203 : decode cX10_findBlocks 203 = .ok (.getfield 54, 3) := by decide +kernel
theorem dX10_findBlocks_206 : decode cX10_findBlocks 206 = .ok (.iload_n 2, 1) := by decide +kernel
theorem dX10_findBlocks_207 : decode cX10_findBlocks 207 = .ok (.iaload, 1) := by decide +kernel
theorem dX10_findBlocks_208 : decode cX10_findBlocks 208 = .ok (.if_icmp .ne 7, 3) := by decide +kernel
theorem dX10_findBlocks_211 : decode cX10_findBlocks 211 = .ok (.iload 5, 2) := by decide +kernel
theorem dX10_findBlocks_213 : decode cX10_findBlocks 213 = .ok (.istore 4, 2) := by decide +kernel
theorem dX10_findBlocks_215 : decode cX10_findBlocks 215 = .ok (.iinc 5 1, 3) := by decide +kernel
theorem dX10_findBlocks_218 : decode cX10_findBlocks 218 = .ok (.goto (-66), 3) := by decide +kernel
theorem dX10_findBlocks_221 : decode cX10_findBlocks 221 = .ok (.iconst 0, 1) := by decide +kernel
theorem dX10_findBlocks_222 : decode cX10_findBlocks 222 = .ok (.istore 5, 2) := by decide +kernel
theorem dX10_findBlocks_224 : decode cX10_findBlocks 224 = .ok (.iload 5, 2) := by decide +kernel
theorem dX10_findBlocks_226 : decode cX10_findBlocks 226 = .ok (.aload_n 0, 1) := by decide +kernel
theorem dX10_findBlocks_227 : decode cX10_findBlocks 227 = .ok (.getfield 13, 3) := by decide +kernel
theorem dX10_findBlocks_230 : decode cX10_findBlocks 230 = .ok (.if_icmp .ge 29, 3) := by decide +kernel
theorem dX10_findBlocks_233 : decode cX10_findBlocks 233 = .ok (.iload 4, 2) := by decide +kernel
theorem dX10_findBlocks_235 : decode cX10_findBlocks 235 = .ok (.iload 5, 2) := by decide +kernel
theorem dX10_findBlocks_237 : decode cX10_findBlocks 237 = .ok (.ishr, 1) := by decide +kernel
theorem dX10_findBlocks_238 : decode cX10_findBlocks 238 = .ok (.iconst 1, 1) := by decide +kernel
theorem dX10_findBlocks_239 : decode cX10_findBlocks 239 = .ok (.iand, 1) := by decide +kernel
theorem dX10_findBlocks_240 : decode cX10_findBlocks 240 = .ok (.iconst 1, 1) := by decide +kernel
theorem dX10_findBlocks_241 : decode cX10_findBlocks 241 = .ok (.if_icmp .ne 12, 3) := by decide +kernel
theorem dX10_findBlocks_244 : decode cX10_findBlocks 244 = .ok (.aload_n 0, 1) := by decide +kernel
theorem dX10_findBlocks_245 : decode cX10_findBlocks 245 = .ok (.getfield 57, 3) := by decide +kernel
theorem dX10_findBlocks_248 : decode cX10_findBlocks 248 = .ok (.iload 5, 2) := by decide +kernel
theorem dX10_findBlocks_250 : decode cX10_findBlocks 250 = .ok (.iload 4, 2) := by decide +kernel
theorem dX10_findBlocks_252 : decode cX10_findBlocks 252 = .ok (.iastore, 1) := by decide +kernel
theorem dX10_findBlocks_253 : decode cX10_findBlocks 253 = .ok (.iinc 5 1, 3) := by decide +kernel
theorem dX10_findBlocks_256 : decode cX10_findBlocks 256 = .ok (.goto (-32), 3) := by decide +kernel
theorem dX10_findBlocks_259 : decode cX10_findBlocks 259 = .ok (.iload_n 2, 1) := by decide +kernel
theorem dX10_findBlocks_260 : decode cX10_findBlocks 260 = .ok (.iload 4, 2) := by decide +kernel
theorem dX10_findBlocks_262 : decode cX10_findBlocks 262 = .ok (.iconst (-1), 1) := by decide +kernel
theorem dX10_findBlocks_263 : decode cX10_findBlocks 263 = .ok (.ixor, 1) := by decide +kernel
theorem dX10_findBlocks_264 : decode cX10_findBlocks 264 = .ok (.iand, 1) := by decide +kernel
theorem dX10_findBlocks_265 : decode cX10_findBlocks 265 = .ok (.istore_n 2, 1) := by decide +kernel
theorem dX10_findBlocks_266 : decode cX10_findBlocks 266 = .ok (.goto (-129), 3) := by decide +kernel
theorem dX10_findBlocks_269 : decode cX10_findBlocks 269 = .ok (.return_, 1) := by decide +kernel
set_option maxRecDepth 20000 in
theorem ggX10_blocks_X10_findBlocks : GoodIn wsX10_blocks wsX10_findBlocks := goodIn_r _ [7, 1, 2, 8, 9, 10, 11, 12, 6, 13, 14, 15, 16, 17, 18, 19, 20, 21, 22, 23, 24, 25, 26, 27, 28, 29, 30, 31, 32, 33, 34, 35, 36, 37, 38, 39, 40, 41, 42, 43, 44, 45, 46, 47, 48, 49, 50] (by decide +kernel) (by decide +kernel)
set_option maxRecDepth 20000 in
theorem gX10_blocks_X10_findBlocks : GoodIn wsX10_blocks (wsV RX10 171 RX10 yX10_findBlocks wsX10_findBlocks) := goodIn_app (goodIn_of _ (by decide +kernel)) ggX10_blocks_X10_findBlocks
theorem dX10_blocks_0 : decode cX10_blocks 0 = .ok (.aload_n 0, 1) := by decide +kernel
theorem dX10_blocks_1 : decode cX10_blocks 1 = .ok (.getfield 13, 3) := by decide +kernel
theorem dX10_blocks_4 : decode cX10_blocks 4 = .ok (.ifCond .ne 6, 3) := by decide +kernel
theorem dX10_blocks_7 : decode cX10_blocks 7 = .ok (.bipush (-3), 2) := by decide +kernel
theorem dX10_blocks_9 : decode cX10_blocks 9 = .ok (.ireturn, 1) := by decide +kernel
theorem dX10_blocks_10 : decode cX10_blocks 10 = .ok (.aload_n 0, 1) := by decide +kernel
theorem dX10_blocks_11 : decode cX10_blocks 11 = .ok (.invokevirtual 171, 3) := by decide +kernel
theorem dX10_blocks_14 : decode cX10_blocks 14 = .ok (.aload_n 0, 1) := by decide +kernel
theorem dX10_blocks_15 : decode cX10_blocks 15 = .ok (.getfield 54, 3) := by decide +kernel
theorem dX10_blocks_18 : decode cX10_blocks 18 = .ok (.iconst 1, 1) := by decide +kernel
theorem dX10_blocks_19 : decode cX10_blocks 19 = .ok (.aload_n 0, 1) := by decide +kernel
theorem dX10_blocks_20 : decode cX10_blocks 20 = .ok (.getfield 13, 3) := by decide +kernel
theorem dX10_blocks_23 : decode cX10_blocks 23 = .ok (.ishl, 1) := by decide +kernel
theorem dX10_blocks_24 : decode cX10_blocks 24 = .ok (.iconst 1, 1) := by decide +kernel
theorem dX10_blocks_25 : decode cX10_blocks 25 = .ok (.isub, 1) := by decide +kernel
theorem dX10_blocks_26 : decode cX10_blocks 26 = .ok (.iaload, 1) := by decide +kernel
theorem dX10_blocks_27 : decode cX10_blocks 27 = .ok (.ireturn, 1) := by decide +kernel
set_option maxRecDepth 20000 in
theorem ggX10_of_X10_isMark : GoodIn wsX10_of wsX10_isMark := goodIn_r _ [6, 7, 8, 9, 10, 5, 11, 26, 27, 28, 29, 30, 31, 32, 33, 34, 35, 36, 37, 38, 39, 40, 41, 42, 43, 44, 45, 46, 47, 48, 49, 50, 51, 52, 53, 54, 55, 56, 57, 58] (by decide +kernel) (by decide +kernel)
set_option maxRecDepth 20000 in
theorem gX10_of_X10_isMark : GoodIn wsX10_of (wsV RX10 116 RX10 yX10_isMark wsX10_isMark) := goodIn_app (goodIn_of _ (by decide +kernel)) ggX10_of_X10_isMark
set_option maxRecDepth 20000 in
theorem ggX10_of_X10_findBlocks : GoodIn wsX10_of wsX10_findBlocks := goodIn_r _ [15, 7, 16, 17, 1, 18, 19, 20, 5, 21, 22, 23, 24, 25, 26, 27, 28, 29, 30, 31, 32, 33, 34, 35, 36, 37, 38, 39, 40, 41, 42, 43, 44, 45, 46, 47, 48, 49, 50, 51, 52, 53, 54, 55, 56, 57, 58] (by decide +kernel) (by decide +kernel)
set_option maxRecDepth 20000 in
theorem gX10_of_X10_findBlocks : GoodIn wsX10_of (wsV RX10 171 RX10 yX10_findBlocks wsX10_findBlocks) := goodIn_app (goodIn_of _ (by decide +kernel)) ggX10_of_X10_findBlocks
theorem dX10_of_0 : decode cX10_of 0 = .ok (.aload_n 0, 1) := by decide +kernel
theorem dX10_of_1 : decode cX10_of 1 = .ok (.iload_n 1, 1) := by decide +kernel
theorem dX10_of_2 : decode cX10_of 2 = .ok (.invokevirtual 116, 3) := by decide +kernel
theorem dX10_of_5 : decode cX10_of 5 = .ok (.ifCond .ne 5, 3) := by decide +kernel
theorem dX10_of_8 : decode cX10_of 8 = .ok (.iconst (-1), 1) := by decide +kernel
theorem dX10_of_9 : decode cX10_of 9 = .ok (.ireturn, 1) := by decide +kernel
theorem dX10_of_10 : decode cX10_of 10 = .ok (.aload_n 0, 1) := by decide +kernel
theorem dX10_of_11 : decode cX10_of 11 = .ok (.invokevirtual 171, 3) := by decide +kernel
theorem dX10_of_14 : decode cX10_of 14 = .ok (.aload_n 0, 1) := by decide +kernel
theorem dX10_of_15 : decode cX10_of 15 = .ok (.getfield 57, 3) := by decide +kernel
theorem dX10_of_18 : decode cX10_of 18 = .ok (.iload_n 1, 1) := by decide +kernel
theorem dX10_of_19 : decode cX10_of 19 = .ok (.iaload, 1) := by decide +kernel
theorem dX10_of_20 : decode cX10_of 20 = .ok (.ireturn, 1) := by decide +kernel
set_option maxRecDepth 20000 in
theorem ggX10_green_X10_isMark : GoodIn wsX10_green wsX10_isMark := goodIn_r _ [6, 7, 8, 9, 10, 5, 11, 12, 13, 14, 15, 16, 17, 18, 19, 20, 21, 22, 23, 24, 25, 26, 27, 28, 29, 30, 31, 32, 33, 34, 35, 36, 37, 38, 39, 40, 41, 42, 43, 44] (by decide +kernel) (by decide +kernel)
set_option maxRecDepth 20000 in
theorem gX10_green_X10_isMark : GoodIn wsX10_green (wsV RX10 116 RX10 yX10_isMark wsX10_isMark) := goodIn_app (goodIn_of _ (by decide +kernel)) ggX10_green_X10_isMark
set_option maxRecDepth 20000 in
theorem ggX10_green_X10_in : GoodIn wsX10_green wsX10_in := goodIn_r _ [11] (by decide +kernel) (by decide +kernel)
set_option maxRecDepth 20000 in
theorem gX10_green_X10_in : GoodIn wsX10_green (wsV RX10 112 RX10 yX10_in wsX10_in) := goodIn_app (goodIn_of _ (by decide +kernel)) ggX10_green_X10_in
theorem dX10_green_0 : decode cX10_green 0 = .ok (.aload_n 0, 1) := by decide +kernel
theorem dX10_green_1 : decode cX10_green 1 = .ok (.iload_n 1, 1) := by decide +kernel
theorem dX10_green_2 : decode cX10_green 2 = .ok (.invokevirtual 116, 3) := by decide +kernel
theorem dX10_green_5 : decode cX10_green 5 = .ok (.ifCond .eq 25, 3) := by decide +kernel
theorem dX10_green_8 : decode cX10_green 8 = .ok (.aload_n 0, 1) := by decide +kernel
theorem dX10_green_9 : decode cX10_green 9 = .ok (.iload_n 2, 1) := by decide +kernel
theorem dX10_green_10 : decode cX10_green 10 = .ok (.iconst 0, 1) := by decide +kernel
theorem dX10_green_11 : decode cX10_green 11 = .ok (.iconst 2, 1) := by decide +kernel
theorem dX10_green_12 : decode cX10_green 12 = .ok (.invokevirtual 112, 3) := by decide +kernel
theorem dX10_green_15 : decode cX10_green 15 = .ok (.ifCond .eq 15, 3) := by decide +kernel
theorem dX10_green_18 : decode cX10_green 18 = .ok (.aload_n 0, 1) := by decide +kernel
theorem dX10_green_19 : decode cX10_green 19 = .ok (.iload_n 3, 1) := by decide +kernel
theorem dX10_green_20 : decode cX10_green 20 = .ok (.bipush (-20), 2) := by decide +kernel
theorem dX10_green_22 : decode cX10_green 22 = .ok (.bipush 20, 2) := by decide +kernel
theorem dX10_green_24 : decode cX10_green 24 = .ok (.invokevirtual 112, 3) := by decide +kernel
theorem dX10_green_27 : decode cX10_green 27 = .ok (.ifCond .ne 7, 3) := by decide +kernel
theorem dX10_green_30 : decode cX10_green 30 = .ok (.sipush (-1001), 3) := by decide +kernel
theorem dX10_green_33 : decode cX10_green 33 = .ok (.ireturn, 1) := by decide +kernel
theorem dX10_green_34 : decode cX10_green 34 = .ok (.aload_n 0, 1) := by decide +kernel
theorem dX10_green_35 : decode cX10_green 35 = .ok (.getfield 66, 3) := by decide +kernel
theorem dX10_green_38 : decode cX10_green 38 = .ok (.iconst 3, 1) := by decide +kernel
theorem dX10_green_39 : decode cX10_green 39 = .ok (.iload_n 1, 1) := by decide +kernel
theorem dX10_green_40 : decode cX10_green 40 = .ok (.imul, 1) := by decide +kernel
theorem dX10_green_41 : decode cX10_green 41 = .ok (.iload_n 2, 1) := by decide +kernel
theorem dX10_green_42 : decode cX10_green 42 = .ok (.iadd, 1) := by decide +kernel
theorem dX10_green_43 : decode cX10_green 43 = .ok (.iaload, 1) := by decide +kernel
theorem dX10_green_44 : decode cX10_green 44 = .ok (.istore 4, 2) := by decide +kernel
theorem dX10_green_46 : decode cX10_green 46 = .ok (.aload_n 0, 1) := by decide +kernel
theorem dX10_green_47 : decode cX10_green 47 = .ok (.getfield 66, 3) := by decide +kernel
theorem dX10_green_50 : decode cX10_green 50 = .ok (.iconst 3, 1) := by decide +kernel
theorem dX10_green_51 : decode cX10_green 51 = .ok (.iload_n 1, 1) := by decide +kernel
theorem dX10_green_52 : decode cX10_green 52 = .ok (.imul, 1) := by decide +kernel
theorem dX10_green_53 : decode cX10_green 53 = .ok (.iload_n 2, 1) := by decide +kernel
theorem dX10_green_54 : decode cX10_green 54 = .ok (.iadd, 1) := by decide +kernel
theorem dX10_green_55 : decode cX10_green 55 = .ok (.iload_n 3, 1) := by decide +kernel
theorem dX10_green_56 : decode cX10_green 56 = .ok (.iastore, 1) := by decide +kernel
theorem dX10_green_57 : decode cX10_green 57 = .ok (.iload 4, 2) := by decide +kernel
theorem dX10_green_59 : decode cX10_green 59 = .ok (.ireturn, 1) := by decide +kernel
set_option maxRecDepth 20000 in
theorem ggX10_tolerance_X10_in : GoodIn wsX10_tolerance wsX10_in := goodIn_r _ [6] (by decide +kernel) (by decide +kernel)
set_option maxRecDepth 20000 in
theorem gX10_tolerance_X10_in : GoodIn wsX10_tolerance (wsV RX10 112 RX10 yX10_in wsX10_in) := goodIn_app (goodIn_of _ (by decide +kernel)) ggX10_tolerance_X10_in
theorem dX10_tolerance_0 : decode cX10_tolerance 0 = .ok (.aload_n 0, 1) := by decide +kernel
theorem dX10_tolerance_1 : decode cX10_tolerance 1 = .ok (.iload_n 1, 1) := by decide +kernel
theorem dX10_tolerance_2 : decode cX10_tolerance 2 = .ok (.iconst 0, 1) := by decide +kernel
theorem dX10_tolerance_3 : decode cX10_tolerance 3 = .ok (.bipush 100, 2) := by decide +kernel
theorem dX10_tolerance_5 : decode cX10_tolerance 5 = .ok (.invokevirtual 112, 3) := by decide +kernel
theorem dX10_tolerance_8 : decode cX10_tolerance 8 = .ok (.ifCond .ne 5, 3) := by decide +kernel
theorem dX10_tolerance_11 : decode cX10_tolerance 11 = .ok (.iconst (-1), 1) := by decide +kernel
theorem dX10_tolerance_12 : decode cX10_tolerance 12 = .ok (.ireturn, 1) := by decide +kernel
theorem dX10_tolerance_13 : decode cX10_tolerance 13 = .ok (.aload_n 0, 1) := by decide +kernel
theorem dX10_tolerance_14 : decode cX10_tolerance 14 = .ok (.getfield 63, 3) := by decide +kernel
theorem dX10_tolerance_17 : decode cX10_tolerance 17 = .ok (.istore_n 2, 1) := by decide +kernel
theorem dX10_tolerance_18 : decode cX10_tolerance 18 = .ok (.aload_n 0, 1) := by decide +kernel
theorem dX10_tolerance_19 : decode cX10_tolerance 19 = .ok (.iload_n 1, 1) := by decide +kernel
theorem dX10_tolerance_20 : decode cX10_tolerance 20 = .ok (.putfield 63, 3) := by decide +kernel
theorem dX10_tolerance_23 : decode cX10_tolerance 23 = .ok (.iload_n 2, 1) := by decide +kernel
theorem dX10_tolerance_24 : decode cX10_tolerance 24 = .ok (.ireturn, 1) := by decide +kernel
set_option maxRecDepth 20000 in
theorem ggX10_doFit_X10_in : GoodIn wsX10_doFit wsX10_in := goodIn_r _ [9] (by decide +kernel) (by decide +kernel)
set_option maxRecDepth 20000 in
theorem gX10_doFit_X10_in : GoodIn wsX10_doFit (wsV RX10 112 RX10 yX10_in wsX10_in) := goodIn_app (goodIn_of _ (by decide +kernel)) ggX10_doFit_X10_in
theorem dX10_doFit_0 : decode cX10_doFit 0 = .ok (.iconst 1, 1) := by decide +kernel
theorem dX10_doFit_1 : decode cX10_doFit 1 = .ok (.istore 4, 2) := by decide +kernel
theorem dX10_doFit_3 : decode cX10_doFit 3 = .ok (.iconst 0, 1) := by decide +kernel
theorem dX10_doFit_4 : decode cX10_doFit 4 = .ok (.istore 5, 2) := by decide +kernel
theorem dX10_doFit_6 : decode cX10_doFit 6 = .ok (.iload 5, 2) := by decide +kernel
theorem dX10_doFit_8 : decode cX10_doFit 8 = .ok (.aload_n 0, 1) := by decide +kernel
theorem dX10_doFit_9 : decode cX10_doFit 9 = .ok (.getfield 13, 3) := by decide +kernel
theorem dX10_doFit_12 : decode cX10_doFit 12 = .ok (.if_icmp .ge 84, 3) := by decide +kernel
theorem dX10_doFit_15 : decode cX10_doFit 15 = .ok (.iload 4, 2) := by decide +kernel
theorem dX10_doFit_17 : decode cX10_doFit 17 = .ok (.ifCond .eq 70, 3) := by decide +kernel
theorem dX10_doFit_20 : decode cX10_doFit 20 = .ok (.aload_n 0, 1) := by decide +kernel
theorem dX10_doFit_21 : decode cX10_doFit 21 = .ok (.aload_n 0, 1) := by decide +kernel
theorem dX10_doFit_22 : decode cX10_doFit 22 = .ok (.getfield 66, 3) := by decide +kernel
theorem dX10_doFit_25 : decode cX10_doFit 25 = .ok (.iconst 3, 1) := by decide +kernel
theorem dX10_doFit_26 : decode cX10_doFit 26 = .ok (.iload 5, 2) := by decide +kernel
theorem dX10_doFit_28 : decode cX10_doFit 28 = .ok (.imul, 1) := by decide +kernel
theorem dX10_doFit_29 : decode cX10_doFit 29 = .ok (.iaload, 1) := by decide +kernel
theorem dX10_doFit_30 : decode cX10_doFit 30 = .ok (.iload_n 1, 1) := by decide +kernel
theorem dX10_doFit_31 : decode cX10_doFit 31 = .ok (.imul, 1) := by decide +kernel
theorem dX10_doFit_32 : decode cX10_doFit 32 = .ok (.aload_n 0, 1) := by decide +kernel
theorem dX10_doFit_33 : decode cX10_doFit 33 = .ok (.getfield 66, 3) := by decide +kernel
theorem dX10_doFit_36 : decode cX10_doFit 36 = .ok (.iconst 3, 1) := by decide +kernel
theorem dX10_doFit_37 : decode cX10_doFit 37 = .ok (.iload 5, 2) := by decide +kernel
theorem dX10_doFit_39 : decode cX10_doFit 39 = .ok (.imul, 1) := by decide +kernel
theorem dX10_doFit_40 : decode cX10_doFit 40 = .ok (.iconst 1, 1) := by decide +kernel
theorem dX10_doFit_41 : decode cX10_doFit 41 = .ok (.iadd, 1) := by decide +kernel
theorem dX10_doFit_42 : decode cX10_doFit 42 = .ok (.iaload, 1) := by decide +kernel
theorem dX10_doFit_43 : decode cX10_doFit 43 = .ok (.iload_n 2, 1) := by decide +kernel
theorem dX10_doFit_44 : decode cX10_doFit 44 = .ok (.imul, 1) := by decide +kernel
theorem dX10_doFit_45 : decode cX10_doFit 45 = .ok (.iadd, 1) := by decide +kernel
theorem dX10_doFit_46 : decode cX10_doFit 46 = .ok (.aload_n 0, 1) := by decide +kernel
theorem dX10_doFit_47 : decode cX10_doFit 47 = .ok (.getfield 66, 3) := by decide +kernel
theorem dX10_doFit_50 : decode cX10_doFit 50 = .ok (.iconst 3, 1) := by decide +kernel
theorem dX10_doFit_51 : decode cX10_doFit 51 = .ok (.iload 5, 2) := by decide +kernel
theorem dX10_doFit_53 : decode cX10_doFit 53 = .ok (.imul, 1) := by decide +kernel
theorem dX10_doFit_54 : decode cX10_doFit 54 = .ok (.iconst 2, 1) := by decide +kernel
theorem dX10_doFit_55 : decode cX10_doFit 55 = .ok (.iadd, 1) := by decide +kernel
theorem dX10_doFit_56 : decode cX10_doFit 56 = .ok (.iaload, 1) := by decide +kernel
theorem dX10_doFit_57 : decode cX10_doFit 57 = .ok (.iload_n 3, 1) := by decide +kernel
theorem dX10_doFit_58 : decode cX10_doFit 58 = .ok (.imul, 1) := by decide +kernel
theorem dX10_doFit_59 : decode cX10_doFit 59 = .ok (.iadd, 1) := by decide +kernel
theorem dX10_doFit_60 : decode cX10_doFit 60 = .ok (.aload_n 0, 1) := by decide +kernel
theorem dX10_doFit_61 : decode cX10_doFit 61 = .ok (.getfield 48, 3) := by decide +kernel
theorem dX10_doFit_64 : decode cX10_doFit 64 = .ok (.iload 5, 2) := by decide +kernel
theorem dX10_doFit_66 : decode cX10_doFit 66 = .ok (.iaload, 1) := by decide +kernel
theorem dX10_doFit_67 : decode cX10_doFit 67 = .ok (.isub, 1) := by decide +kernel
theorem dX10_doFit_68 : decode cX10_doFit 68 = .ok (.aload_n 0, 1) := by decide +kernel
theorem dX10_doFit_69 : decode cX10_doFit 69 = .ok (.getfield 63, 3) := by decide +kernel
theorem dX10_doFit_72 : decode cX10_doFit 72 = .ok (.ineg, 1) := by decide +kernel
theorem dX10_doFit_73 : decode cX10_doFit 73 = .ok (.aload_n 0, 1) := by decide +kernel
theorem dX10_doFit_74 : decode cX10_doFit 74 = .ok (.getfield 63, 3) := by decide +kernel
theorem dX10_doFit_77 : decode cX10_doFit 77 = .ok (.invokevirtual 112, 3) := by decide +kernel
theorem dX10_doFit_80 : decode cX10_doFit 80 = .ok (.ifCond .eq 7, 3) := by decide +kernel
theorem dX10_doFit_83 : decode cX10_doFit 83 = .ok (.iconst 1, 1) := by decide +kernel
theorem dX10_doFit_84 : decode cX10_doFit 84 = .ok (.goto 4, 3) := by decide +kernel
theorem dX10_doFit_87 : decode cX10_doFit 87 = .ok (.iconst 0, 1) := by decide +kernel
theorem dX10_doFit_88 : decode cX10_doFit 88 = .ok (.istore 4, 2) := by decide +kernel
theorem dX10_doFit_90 : decode cX10_doFit 90 = .ok (.iinc 5 1, 3) := by decide +kernel
theorem dX10_doFit_93 : decode cX10_doFit 93 = .ok (.goto (-87), 3) := by decide +kernel
theorem dX10_doFit_96 : decode cX10_doFit 96 = .ok (.iload 4, 2) := by decide +kernel
theorem dX10_doFit_98 : decode cX10_doFit 98 = .ok (.ireturn, 1) := by decide +kernel
set_option maxRecDepth 20000 in
theorem ggX10_findSlips_X10_doFit : GoodIn wsX10_findSlips wsX10_doFit := goodIn_r _ [8, 9, 10, 11, 12, 13, 14, 15, 7, 16, 17, 18, 19, 20, 21, 22, 23, 24, 25, 26, 27, 28, 29, 30, 31, 32, 33, 34, 35, 36, 37, 38, 39, 40, 41, 42, 43, 44, 45, 46, 47, 48, 49] (by decide +kernel) (by decide +kernel)
set_option maxRecDepth 20000 in
theorem gX10_findSlips_X10_doFit : GoodIn wsX10_findSlips (wsV RX10 174 RX10 yX10_doFit wsX10_doFit) := goodIn_app (goodIn_of _ (by decide +kernel)) ggX10_findSlips_X10_doFit
theorem dX10_findSlips_0 : decode cX10_findSlips 0 = .ok (.aload_n 0, 1) := by decide +kernel
theorem dX10_findSlips_1 : decode cX10_findSlips 1 = .ok (.iconst 0, 1) := by decide +kernel
theorem dX10_findSlips_2 : decode cX10_findSlips 2 = .ok (.putfield 69, 3) := by decide +kernel
theorem dX10_findSlips_5 : decode cX10_findSlips 5 = .ok (.iconst 0, 1) := by decide +kernel
theorem dX10_findSlips_6 : decode cX10_findSlips 6 = .ok (.istore_n 1, 1) := by decide +kernel
theorem dX10_findSlips_7 : decode cX10_findSlips 7 = .ok (.iload_n 1, 1) := by decide +kernel
theorem dX10_findSlips_8 : decode cX10_findSlips 8 = .ok (.iconst 3, 1) := by decide +kernel
theorem dX10_findSlips_9 : decode cX10_findSlips 9 = .ok (.if_icmp .ge 24, 3) := by decide +kernel
theorem dX10_findSlips_12 : decode cX10_findSlips 12 = .ok (.aload_n 0, 1) := by decide +kernel
theorem dX10_findSlips_13 : decode cX10_findSlips 13 = .ok (.getfield 72, 3) := by decide +kernel
theorem dX10_findSlips_16 : decode cX10_findSlips 16 = .ok (.iload_n 1, 1) := by decide +kernel
theorem dX10_findSlips_17 : decode cX10_findSlips 17 = .ok (.bipush 16, 2) := by decide +kernel
theorem dX10_findSlips_19 : decode cX10_findSlips 19 = .ok (.iastore, 1) := by decide +kernel
theorem dX10_findSlips_20 : decode cX10_findSlips 20 = .ok (.aload_n 0, 1) := by decide +kernel
theorem dX10_findSlips_21 : decode cX10_findSlips 21 = .ok (.getfield 75, 3) := by decide +kernel
theorem dX10_findSlips_24 : decode cX10_findSlips 24 = .ok (.iload_n 1, 1) := by decide +kernel
theorem dX10_findSlips_25 : decode cX10_findSlips 25 = .ok (.iconst (-1), 1) := by decide +kernel
theorem dX10_findSlips_26 : decode cX10_findSlips 26 = .ok (.iastore, 1) := by decide +kernel
theorem dX10_findSlips_27 : decode cX10_findSlips 27 = .ok (.iinc 1 1, 3) := by decide +kernel
theorem dX10_findSlips_30 : decode cX10_findSlips 30 = .ok (.goto (-23), 3) := by decide +kernel
theorem dX10_findSlips_33 : decode cX10_findSlips 33 = .ok (.iconst 0, 1) := by decide +kernel
theorem dX10_findSlips_34 : decode cX10_findSlips 34 = .ok (.istore_n 1, 1) := by decide +kernel
theorem dX10_findSlips_35 : decode cX10_findSlips 35 = .ok (.iload_n 1, 1) := by decide +kernel
theorem dX10_findSlips_36 : decode cX10_findSlips 36 = .ok (.sipush 4096, 3) := by decide +kernel
theorem dX10_findSlips_39 : decode cX10_findSlips 39 = .ok (.if_icmp .ge 120, 3) := by decide +kernel
theorem dX10_findSlips_42 : decode cX10_findSlips 42 = .ok (.aload_n 0, 1) := by decide +kernel
theorem dX10_findSlips_43 : decode cX10_findSlips 43 = .ok (.iload_n 1, 1) := by decide +kernel
theorem dX10_findSlips_44 : decode cX10_findSlips 44 = .ok (.bipush 8, 2) := by decide +kernel
theorem dX10_findSlips_46 : decode cX10_findSlips 46 = .ok (.ishr, 1) := by decide +kernel
theorem dX10_findSlips_47 : decode cX10_findSlips 47 = .ok (.iload_n 1, 1) := by decide +kernel
theorem dX10_findSlips_48 : decode cX10_findSlips 48 = .ok (.iconst 4, 1) := by decide +kernel
theorem dX10_findSlips_49 : decode cX10_findSlips 49 = .ok (.ishr, 1) := by decide +kernel
theorem dX10_findSlips_50 : decode cX10_findSlips 50 = .ok (.bipush 15, 2) := by decide +kernel
theorem dX10_findSlips_52 : decode cX10_findSlips 52 = .ok (.iand, 1) := by decide +kernel
theorem dX10_findSlips_53 : decode cX10_findSlips 53 = .ok (.iload_n 1, 1) := by decide +kernel
theorem dX10_findSlips_54 : decode cX10_findSlips 54 = .ok (.bipush 15, 2) := by decide +kernel
theorem dX10_findSlips_56 : decode cX10_findSlips 56 = .ok (.iand, 1) := by decide +kernel
theorem dX10_findSlips_57 : decode cX10_findSlips 57 = .ok (.invokevirtual 174, 3) := by decide +kernel
theorem dX10_findSlips_60 : decode cX10_findSlips 60 = .ok (.ifCond .ne 6, 3) := by decide +kernel
theorem dX10_findSlips_63 : decode cX10_findSlips 63 = .ok (.goto 90, 3) := by decide +kernel
theorem dX10_findSlips_66 : decode cX10_findSlips 66 = .ok (.aload_n 0, 1) := by decide +kernel
theorem dX10_findSlips_67 : decode cX10_findSlips 67 = .ok (.dup, 1) := by decide +kernel
theorem dX10_findSlips_68 : decode cX10_findSlips 68 = .ok (.getfield 69, 3) := by decide +kernel
theorem dX10_findSlips_71 : decode cX10_findSlips 71 = .ok (.iconst 1, 1) := by decide +kernel
theorem dX10_findSlips_72 : decode cX10_findSlips 72 = .ok (.iadd, 1) := by decide +kernel
theorem dX10_findSlips_73 : decode cX10_findSlips 73 = .ok (.putfield 69, 3) := by decide +kernel
theorem dX10_findSlips_76 : decode cX10_findSlips 76 = .ok (.iconst 0, 1) := by decide +kernel
theorem dX10_findSlips_77 : decode cX10_findSlips 77 = .ok (.istore_n 2, 1) := by decide +kernel
theorem dX10_findSlips_78 : decode cX10_findSlips 78 = .ok (.iload_n 2, 1) := by decide +kernel
theorem dX10_findSlips_79 : decode cX10_findSlips 79 = .ok (.iconst 3, 1) := by decide +kernel
theorem dX10_findSlips_80 : decode cX10_findSlips 80 = .ok (.if_icmp .ge 73, 3) := by decide +kernel
theorem dX10_findSlips_83 : decode cX10_findSlips 83 = .ok (.iload_n 1, 1) := by decide +kernel
theorem dX10_findSlips_84 : decode cX10_findSlips 84 = .ok (.bipush 8, 2) := by decide +kernel
theorem dX10_findSlips_86 : decode cX10_findSlips 86 = .ok (.iconst 4, 1) := by decide +kernel
theorem dX10_findSlips_87 : decode cX10_findSlips 87 = .ok (.iload_n 2, 1) := by decide +kernel
theorem dX10_findSlips_88 : decode cX10_findSlips 88 = .ok (.imul, 1) := by decide +kernel
theorem dX10_findSlips_89 : decode cX10_findSlips 89 = .ok (.isub, 1) := by decide +kernel
theorem dX10_findSlips_90 : decode cX10_findSlips 90 = .ok (.ishr, 1) := by decide +kernel
theorem dX10_findSlips_91 : decode cX10_findSlips 91 = .ok (.bipush 15, 2) := by decide +kernel
theorem dX10_findSlips_93 : decode cX10_findSlips 93 = .ok (.iand, 1) := by decide +kernel
theorem dX10_findSlips_94 : decode cX10_findSlips 94 = .ok (.istore_n 3, 1) := by decide +kernel
theorem dX10_findSlips_95 : decode cX10_findSlips 95 = .ok (.aload_n 0, 1) := by decide +kernel
theorem dX10_findSlips_96 : decode cX10_findSlips 96 = .ok (.getfield 72, 3) := by decide +kernel
theorem dX10_findSlips_99 : decode cX10_findSlips 99 = .ok (.iload_n 2, 1) := by decide +kernel
theorem dX10_findSlips_100 : decode cX10_findSlips 100 = .ok (.iload_n 3, 1) := by decide +kernel
theorem dX10_findSlips_101 : decode cX10_findSlips 101 = .ok (.aload_n 0, 1) := by decide +kernel
theorem dX10_findSlips_102 : decode cX10_findSlips 102 = .ok (.getfield 72, 3) := by decide +kernel
theorem dX10_findSlips_105 : decode cX10_findSlips 105 = .ok (.iload_n 2, 1) := by decide +kernel
theorem dX10_findSlips_106 : decode cX10_findSlips 106 = .ok (.iaload, 1) := by decide +kernel
theorem dX10_findSlips_107 : decode cX10_findSlips 107 = .ok (.if_icmp .ge 7, 3) := by decide +kernel
theorem dX10_findSlips_110 : decode cX10_findSlips 110 = .ok (.iload_n 3, 1) := by decide +kernel
theorem dX10_findSlips_111 : decode cX10_findSlips 111 = .ok (.goto 9, 3) := by decide +kernel
theorem dX10_findSlips_114 : decode cX10_findSlips 114 = .ok (.aload_n 0, 1) := by decide +kernel
theorem dX10_findSlips_115 : decode cX10_findSlips 115 = .ok (.getfield 72, 3) := by decide +kernel
theorem dX10_findSlips_118 : decode cX10_findSlips 118 = .ok (.iload_n 2, 1) := by decide +kernel
theorem dX10_findSlips_119 : decode cX10_findSlips 119 = .ok (.iaload, 1) := by decide +kernel
theorem dX10_findSlips_120 : decode cX10_findSlips 120 = .ok (.iastore, 1) := by decide +kernel
theorem dX10_findSlips_121 : decode cX10_findSlips 121 = .ok (.aload_n 0, 1) := by decide +kernel
theorem dX10_findSlips_122 : decode cX10_findSlips 122 = .ok (.getfield 75, 3) := by decide +kernel
theorem dX10_findSlips_125 : decode cX10_findSlips 125 = .ok (.iload_n 2, 1) := by decide +kernel
theorem dX10_findSlips_126 : decode cX10_findSlips 126 = .ok (.iload_n 3, 1) := by decide +kernel
theorem dX10_findSlips_127 : decode cX10_findSlips 127 = .ok (.aload_n 0, 1) := by decide +kernel
theorem dX10_findSlips_128 : decode cX10_findSlips 128 = .ok (.getfield 75, 3) := by decide +kernel
theorem dX10_findSlips_131 : decode cX10_findSlips 131 = .ok (.iload_n 2, 1) := by decide +kernel
theorem dX10_findSlips_132 : decode cX10_findSlips 132 = .ok (.iaload, 1) := by decide +kernel
theorem dX10_findSlips_133 : decode cX10_findSlips 133 = .ok (.if_icmp .le 7, 3) := by decide +kernel
theorem dX10_findSlips_136 : decode cX10_findSlips 136 = .ok (.iload_n 3, 1) := by decide +kernel
theorem dX10_findSlips_137 : decode cX10_findSlips 137 = .ok (.goto 9, 3) := by decide +kernel
theorem dX10_findSlips_140 : decode cX10_findSlips 140 = .ok (.aload_n 0, 1) := by decide +kernel
theorem dX10_findSlips_141 : decode cX10_findSlips 141 = .ok (.getfield 75, 3) := by decide +kernel
theorem dX10_findSlips_144 : decode cX10_findSlips 144 = .ok (.iload_n 2, 1) := by decide +kernel
theorem dX10_findSlips_145 : decode cX10_findSlips 145 = .ok (.iaload, 1) := by decide +kernel
theorem dX10_findSlips_146 : decode cX10_findSlips 146 = .ok (.iastore, 1) := by decide +kernel
theorem dX10_findSlips_147 : decode cX10_findSlips 147 = .ok (.iinc 2 1, 3) := by decide +kernel
theorem dX10_findSlips_150 : decode cX10_findSlips 150 = .ok (.goto (-72), 3) := by decide +kernel
theorem dX10_findSlips_153 : decode cX10_findSlips 153 = .ok (.iinc 1 1, 3) := by decide +kernel
theorem dX10_findSlips_156 : decode cX10_findSlips 156 = .ok (.goto (-121), 3) := by decide +kernel
theorem dX10_findSlips_159 : decode cX10_findSlips 159 = .ok (.return_, 1) := by decide +kernel
set_option maxRecDepth 20000 in
theorem ggX10_fits_X10_findSlips : GoodIn wsX10_fits wsX10_findSlips := goodIn_r _ [6, 1, 7, 8, 9, 10, 11, 5, 12, 13, 14, 15, 16, 17, 18, 19, 20, 21, 22, 23, 24, 25, 26, 27, 28, 29, 30, 31, 32, 33, 34, 35, 36, 37, 38, 39, 40, 41, 42, 43, 44, 45, 46, 47, 48, 49, 50, 51, 52, 53] (by decide +kernel) (by decide +kernel)
set_option maxRecDepth 20000 in
theorem gX10_fits_X10_findSlips : GoodIn wsX10_fits (wsV RX10 177 RX10 yX10_findSlips wsX10_findSlips) := goodIn_app (goodIn_of _ (by decide +kernel)) ggX10_fits_X10_findSlips
theorem dX10_fits_0 : decode cX10_fits 0 = .ok (.aload_n 0, 1) := by decide +kernel
theorem dX10_fits_1 : decode cX10_fits 1 = .ok (.invokevirtual 177, 3) := by decide +kernel
theorem dX10_fits_4 : decode cX10_fits 4 = .ok (.aload_n 0, 1) := by decide +kernel
theorem dX10_fits_5 : decode cX10_fits 5 = .ok (.getfield 69, 3) := by decide +kernel
theorem dX10_fits_8 : decode cX10_fits 8 = .ok (.ireturn, 1) := by decide +kernel
set_option maxRecDepth 20000 in
theorem ggX10_slip_X10_in : GoodIn wsX10_slip wsX10_in := goodIn_r _ [8] (by decide +kernel) (by decide +kernel)
set_option maxRecDepth 20000 in
theorem gX10_slip_X10_in : GoodIn wsX10_slip (wsV RX10 112 RX10 yX10_in wsX10_in) := goodIn_app (goodIn_of _ (by decide +kernel)) ggX10_slip_X10_in
set_option maxRecDepth 20000 in
theorem ggX10_slip_X10_findSlips : GoodIn wsX10_slip wsX10_findSlips := goodIn_r _ [12, 1, 3, 2, 13, 14, 15, 7, 16, 17, 18, 19, 20, 4, 5, 6, 8, 21, 22, 23, 24, 25, 26, 27, 28, 29, 30, 31, 32, 33, 34, 35, 36, 37, 38, 39, 40, 41, 42, 43, 44, 45, 46, 47, 48, 49, 50, 51, 52, 53] (by decide +kernel) (by decide +kernel)
set_option maxRecDepth 20000 in
theorem gX10_slip_X10_findSlips : GoodIn wsX10_slip (wsV RX10 177 RX10 yX10_findSlips wsX10_findSlips) := goodIn_app (goodIn_of _ (by decide +kernel)) ggX10_slip_X10_findSlips
theorem dX10_slip_0 : decode cX10_slip 0 = .ok (.aload_n 0, 1) := by decide +kernel
theorem dX10_slip_1 : decode cX10_slip 1 = .ok (.iload_n 1, 1) := by decide +kernel
theorem dX10_slip_2 : decode cX10_slip 2 = .ok (.iconst 0, 1) := by decide +kernel
theorem dX10_slip_3 : decode cX10_slip 3 = .ok (.iconst 2, 1) := by decide +kernel
theorem dX10_slip_4 : decode cX10_slip 4 = .ok (.invokevirtual 112, 3) := by decide +kernel
theorem dX10_slip_7 : decode cX10_slip 7 = .ok (.ifCond .ne 5, 3) := by decide +kernel
theorem dX10_slip_10 : decode cX10_slip 10 = .ok (.iconst (-1), 1) := by decide +kernel
theorem dX10_slip_11 : decode cX10_slip 11 = .ok (.ireturn, 1) := by decide +kernel
theorem dX10_slip_12 : decode cX10_slip 12 = .ok (.aload_n 0, 1) := by decide +kernel
theorem dX10_slip_13 : decode cX10_slip 13 = .ok (.invokevirtual 177, 3) := by decide +kernel
theorem dX10_slip_16 : decode cX10_slip 16 = .ok (.aload_n 0, 1) := by decide +kernel
theorem dX10_slip_17 : decode cX10_slip 17 = .ok (.getfield 69, 3) := by decide +kernel
theorem dX10_slip_20 : decode cX10_slip 20 = .ok (.ifCond .ne 8, 3) := by decide +kernel
theorem dX10_slip_23 : decode cX10_slip 23 = .ok (.bipush (-4), 2) := by decide +kernel
theorem dX10_slip_25 : decode cX10_slip 25 = .ok (.goto 22, 3) := by decide +kernel
theorem dX10_slip_28 : decode cX10_slip 28 = .ok (.iload_n 2, 1) := by decide +kernel
theorem dX10_slip_29 : decode cX10_slip 29 = .ok (.ifCond .eq 12, 3) := by decide +kernel
theorem dX10_slip_32 : decode cX10_slip 32 = .ok (.aload_n 0, 1) := by decide +kernel
theorem dX10_slip_33 : decode cX10_slip 33 = .ok (.getfield 75, 3) := by decide +kernel
theorem dX10_slip_36 : decode cX10_slip 36 = .ok (.iload_n 1, 1) := by decide +kernel
theorem dX10_slip_37 : decode cX10_slip 37 = .ok (.iaload, 1) := by decide +kernel
theorem dX10_slip_38 : decode cX10_slip 38 = .ok (.goto 9, 3) := by decide +kernel
theorem dX10_slip_41 : decode cX10_slip 41 = .ok (.aload_n 0, 1) := by decide +kernel
theorem dX10_slip_42 : decode cX10_slip 42 = .ok (.getfield 72, 3) := by decide +kernel
theorem dX10_slip_45 : decode cX10_slip 45 = .ok (.iload_n 1, 1) := by decide +kernel
theorem dX10_slip_46 : decode cX10_slip 46 = .ok (.iaload, 1) := by decide +kernel
theorem dX10_slip_47 : decode cX10_slip 47 = .ok (.ireturn, 1) := by decide +kernel
set_option maxRecDepth 20000 in
theorem ggX10_locked_X10_findSlips : GoodIn wsX10_locked wsX10_findSlips := goodIn_r _ [7, 1, 8, 2, 9, 10, 11, 6, 12, 13, 14, 15, 16, 17, 18, 19, 20, 21, 22, 23, 24, 25, 26, 27, 28, 29, 30, 31, 32, 33, 34, 35, 36, 37, 38, 39, 40, 41, 42, 43, 44, 45, 46, 47, 48, 49, 50, 51, 52, 53] (by decide +kernel) (by decide +kernel)
set_option maxRecDepth 20000 in
theorem gX10_locked_X10_findSlips : GoodIn wsX10_locked (wsV RX10 177 RX10 yX10_findSlips wsX10_findSlips) := goodIn_app (goodIn_of _ (by decide +kernel)) ggX10_locked_X10_findSlips
theorem dX10_locked_0 : decode cX10_locked 0 = .ok (.aload_n 0, 1) := by decide +kernel
theorem dX10_locked_1 : decode cX10_locked 1 = .ok (.invokevirtual 177, 3) := by decide +kernel
theorem dX10_locked_4 : decode cX10_locked 4 = .ok (.aload_n 0, 1) := by decide +kernel
theorem dX10_locked_5 : decode cX10_locked 5 = .ok (.getfield 69, 3) := by decide +kernel
theorem dX10_locked_8 : decode cX10_locked 8 = .ok (.ifCond .ne 6, 3) := by decide +kernel
theorem dX10_locked_11 : decode cX10_locked 11 = .ok (.bipush (-4), 2) := by decide +kernel
theorem dX10_locked_13 : decode cX10_locked 13 = .ok (.ireturn, 1) := by decide +kernel
theorem dX10_locked_14 : decode cX10_locked 14 = .ok (.iconst 0, 1) := by decide +kernel
theorem dX10_locked_15 : decode cX10_locked 15 = .ok (.istore_n 1, 1) := by decide +kernel
theorem dX10_locked_16 : decode cX10_locked 16 = .ok (.iconst 0, 1) := by decide +kernel
theorem dX10_locked_17 : decode cX10_locked 17 = .ok (.istore_n 2, 1) := by decide +kernel
theorem dX10_locked_18 : decode cX10_locked 18 = .ok (.iload_n 2, 1) := by decide +kernel
theorem dX10_locked_19 : decode cX10_locked 19 = .ok (.iconst 3, 1) := by decide +kernel
theorem dX10_locked_20 : decode cX10_locked 20 = .ok (.if_icmp .ge 28, 3) := by decide +kernel
theorem dX10_locked_23 : decode cX10_locked 23 = .ok (.iload_n 1, 1) := by decide +kernel
theorem dX10_locked_24 : decode cX10_locked 24 = .ok (.aload_n 0, 1) := by decide +kernel
theorem dX10_locked_25 : decode cX10_locked 25 = .ok (.getfield 75, 3) := by decide +kernel
theorem dX10_locked_28 : decode cX10_locked 28 = .ok (.iload_n 2, 1) := by decide +kernel
theorem dX10_locked_29 : decode cX10_locked 29 = .ok (.iaload, 1) := by decide +kernel
theorem dX10_locked_30 : decode cX10_locked 30 = .ok (.ifCond .ne 9, 3) := by decide +kernel
theorem dX10_locked_33 : decode cX10_locked 33 = .ok (.iconst 1, 1) := by decide +kernel
theorem dX10_locked_34 : decode cX10_locked 34 = .ok (.iload_n 2, 1) := by decide +kernel
theorem dX10_locked_35 : decode cX10_locked 35 = .ok (.ishl, 1) := by decide +kernel
theorem dX10_locked_36 : decode cX10_locked 36 = .ok (.goto 4, 3) := by decide +kernel
theorem dX10_locked_39 : decode cX10_locked 39 = .ok (.iconst 0, 1) := by decide +kernel
theorem dX10_locked_40 : decode cX10_locked 40 = .ok (.ior, 1) := by decide +kernel
theorem dX10_locked_41 : decode cX10_locked 41 = .ok (.istore_n 1, 1) := by decide +kernel
theorem dX10_locked_42 : decode cX10_locked 42 = .ok (.iinc 2 1, 3) := by decide +kernel
theorem dX10_locked_45 : decode cX10_locked 45 = .ok (.goto (-27), 3) := by decide +kernel
theorem dX10_locked_48 : decode cX10_locked 48 = .ok (.iload_n 1, 1) := by decide +kernel
theorem dX10_locked_49 : decode cX10_locked 49 = .ok (.ireturn, 1) := by decide +kernel
set_option maxRecDepth 20000 in
theorem ggX10_line_X10_isMark : GoodIn wsX10_line wsX10_isMark := goodIn_r _ [9, 10, 11, 12, 13, 8, 14, 15, 16, 17, 18, 19, 20, 21, 22, 23, 24, 25, 26, 27, 28, 29, 30, 31, 32, 33, 34, 35, 36, 37, 38, 39, 40, 41, 42, 43, 44, 45, 46, 47] (by decide +kernel) (by decide +kernel)
set_option maxRecDepth 20000 in
theorem gX10_line_X10_isMark : GoodIn wsX10_line (wsV RX10 116 RX10 yX10_isMark wsX10_isMark) := goodIn_app (goodIn_of _ (by decide +kernel)) ggX10_line_X10_isMark
set_option maxRecDepth 20000 in
theorem ggX10_line_X10_in : GoodIn wsX10_line wsX10_in := goodIn_r _ [14] (by decide +kernel) (by decide +kernel)
set_option maxRecDepth 20000 in
theorem gX10_line_X10_in : GoodIn wsX10_line (wsV RX10 112 RX10 yX10_in wsX10_in) := goodIn_app (goodIn_of _ (by decide +kernel)) ggX10_line_X10_in
theorem dX10_line_0 : decode cX10_line 0 = .ok (.aload_n 0, 1) := by decide +kernel
theorem dX10_line_1 : decode cX10_line 1 = .ok (.iload_n 1, 1) := by decide +kernel
theorem dX10_line_2 : decode cX10_line 2 = .ok (.invokevirtual 116, 3) := by decide +kernel
theorem dX10_line_5 : decode cX10_line 5 = .ok (.ifCond .eq 30, 3) := by decide +kernel
theorem dX10_line_8 : decode cX10_line 8 = .ok (.aload_n 0, 1) := by decide +kernel
theorem dX10_line_9 : decode cX10_line 9 = .ok (.iload_n 2, 1) := by decide +kernel
theorem dX10_line_10 : decode cX10_line 10 = .ok (.invokevirtual 116, 3) := by decide +kernel
theorem dX10_line_13 : decode cX10_line 13 = .ok (.ifCond .eq 22, 3) := by decide +kernel
theorem dX10_line_16 : decode cX10_line 16 = .ok (.iload_n 1, 1) := by decide +kernel
theorem dX10_line_17 : decode cX10_line 17 = .ok (.iload_n 2, 1) := by decide +kernel
theorem dX10_line_18 : decode cX10_line 18 = .ok (.if_icmp .eq 17, 3) := by decide +kernel
theorem dX10_line_21 : decode cX10_line 21 = .ok (.aload_n 0, 1) := by decide +kernel
theorem dX10_line_22 : decode cX10_line 22 = .ok (.iload_n 3, 1) := by decide +kernel
theorem dX10_line_23 : decode cX10_line 23 = .ok (.sipush (-10000), 3) := by decide +kernel
theorem dX10_line_26 : decode cX10_line 26 = .ok (.sipush 10000, 3) := by decide +kernel
theorem dX10_line_29 : decode cX10_line 29 = .ok (.invokevirtual 112, 3) := by decide +kernel
theorem dX10_line_32 : decode cX10_line 32 = .ok (.ifCond .ne 5, 3) := by decide +kernel
theorem dX10_line_35 : decode cX10_line 35 = .ok (.iconst (-1), 1) := by decide +kernel
theorem dX10_line_36 : decode cX10_line 36 = .ok (.ireturn, 1) := by decide +kernel
theorem dX10_line_37 : decode cX10_line 37 = .ok (.aload_n 0, 1) := by decide +kernel
theorem dX10_line_38 : decode cX10_line 38 = .ok (.getfield 78, 3) := by decide +kernel
theorem dX10_line_41 : decode cX10_line 41 = .ok (.bipush 14, 2) := by decide +kernel
theorem dX10_line_43 : decode cX10_line 43 = .ok (.if_icmp .ne 6, 3) := by decide +kernel
theorem dX10_line_46 : decode cX10_line 46 = .ok (.bipush (-2), 2) := by decide +kernel
theorem dX10_line_48 : decode cX10_line 48 = .ok (.ireturn, 1) := by decide +kernel
theorem dX10_line_49 : decode cX10_line 49 = .ok (.aload_n 0, 1) := by decide +kernel
theorem dX10_line_50 : decode cX10_line 50 = .ok (.getfield 81, 3) := by decide +kernel
theorem dX10_line_53 : decode cX10_line 53 = .ok (.aload_n 0, 1) := by decide +kernel
theorem dX10_line_54 : decode cX10_line 54 = .ok (.getfield 78, 3) := by decide +kernel
theorem dX10_line_57 : decode cX10_line 57 = .ok (.iload_n 1, 1) := by decide +kernel
theorem dX10_line_58 : decode cX10_line 58 = .ok (.iastore, 1) := by decide +kernel
theorem dX10_line_59 : decode cX10_line 59 = .ok (.aload_n 0, 1) := by decide +kernel
theorem dX10_line_60 : decode cX10_line 60 = .ok (.getfield 84, 3) := by decide +kernel
theorem dX10_line_63 : decode cX10_line 63 = .ok (.aload_n 0, 1) := by decide +kernel
theorem dX10_line_64 : decode cX10_line 64 = .ok (.getfield 78, 3) := by decide +kernel
theorem dX10_line_67 : decode cX10_line 67 = .ok (.iload_n 2, 1) := by decide +kernel
theorem dX10_line_68 : decode cX10_line 68 = .ok (.iastore, 1) := by decide +kernel
theorem dX10_line_69 : decode cX10_line 69 = .ok (.aload_n 0, 1) := by decide +kernel
theorem dX10_line_70 : decode cX10_line 70 = .ok (.getfield 87, 3) := by decide +kernel
theorem dX10_line_73 : decode cX10_line 73 = .ok (.aload_n 0, 1) := by decide +kernel
theorem dX10_line_74 : decode cX10_line 74 = .ok (.getfield 78, 3) := by decide +kernel
theorem dX10_line_77 : decode cX10_line 77 = .ok (.iload_n 3, 1) := by decide +kernel
theorem dX10_line_78 : decode cX10_line 78 = .ok (.iastore, 1) := by decide +kernel
theorem dX10_line_79 : decode cX10_line 79 = .ok (.aload_n 0, 1) := by decide +kernel
theorem dX10_line_80 : decode cX10_line 80 = .ok (.dup, 1) := by decide +kernel
theorem dX10_line_81 : decode cX10_line 81 = .ok (.getfield 78, 3) := by decide +kernel
theorem dX10_line_84 : decode cX10_line 84 = .ok (.iconst 1, 1) := by decide +kernel
theorem dX10_line_85 : decode cX10_line 85 = .ok (.iadd, 1) := by decide +kernel
theorem dX10_line_86 : decode cX10_line 86 = .ok (.putfield 78, 3) := by decide +kernel
theorem dX10_line_89 : decode cX10_line 89 = .ok (.aload_n 0, 1) := by decide +kernel
theorem dX10_line_90 : decode cX10_line 90 = .ok (.getfield 78, 3) := by decide +kernel
theorem dX10_line_93 : decode cX10_line 93 = .ok (.iconst 1, 1) := by decide +kernel
theorem dX10_line_94 : decode cX10_line 94 = .ok (.isub, 1) := by decide +kernel
theorem dX10_line_95 : decode cX10_line 95 = .ok (.ireturn, 1) := by decide +kernel
theorem dX10_unline_0 : decode cX10_unline 0 = .ok (.aload_n 0, 1) := by decide +kernel
theorem dX10_unline_1 : decode cX10_unline 1 = .ok (.getfield 78, 3) := by decide +kernel
theorem dX10_unline_4 : decode cX10_unline 4 = .ok (.ifCond .ne 6, 3) := by decide +kernel
theorem dX10_unline_7 : decode cX10_unline 7 = .ok (.bipush (-3), 2) := by decide +kernel
theorem dX10_unline_9 : decode cX10_unline 9 = .ok (.ireturn, 1) := by decide +kernel
theorem dX10_unline_10 : decode cX10_unline 10 = .ok (.aload_n 0, 1) := by decide +kernel
theorem dX10_unline_11 : decode cX10_unline 11 = .ok (.dup, 1) := by decide +kernel
theorem dX10_unline_12 : decode cX10_unline 12 = .ok (.getfield 78, 3) := by decide +kernel
theorem dX10_unline_15 : decode cX10_unline 15 = .ok (.iconst 1, 1) := by decide +kernel
theorem dX10_unline_16 : decode cX10_unline 16 = .ok (.isub, 1) := by decide +kernel
theorem dX10_unline_17 : decode cX10_unline 17 = .ok (.putfield 78, 3) := by decide +kernel
theorem dX10_unline_20 : decode cX10_unline 20 = .ok (.aload_n 0, 1) := by decide +kernel
theorem dX10_unline_21 : decode cX10_unline 21 = .ok (.getfield 78, 3) := by decide +kernel
theorem dX10_unline_24 : decode cX10_unline 24 = .ok (.ireturn, 1) := by decide +kernel
theorem dX10_agree_0 : decode cX10_agree 0 = .ok (.iconst 0, 1) := by decide +kernel
theorem dX10_agree_1 : decode cX10_agree 1 = .ok (.istore_n 2, 1) := by decide +kernel
theorem dX10_agree_2 : decode cX10_agree 2 = .ok (.iload_n 2, 1) := by decide +kernel
theorem dX10_agree_3 : decode cX10_agree 3 = .ok (.aload_n 0, 1) := by decide +kernel
theorem dX10_agree_4 : decode cX10_agree 4 = .ok (.getfield 13, 3) := by decide +kernel
theorem dX10_agree_7 : decode cX10_agree 7 = .ok (.if_icmp .ge 23, 3) := by decide +kernel
theorem dX10_agree_10 : decode cX10_agree 10 = .ok (.aload_n 0, 1) := by decide +kernel
theorem dX10_agree_11 : decode cX10_agree 11 = .ok (.getfield 90, 3) := by decide +kernel
theorem dX10_agree_14 : decode cX10_agree 14 = .ok (.iload_n 2, 1) := by decide +kernel
theorem dX10_agree_15 : decode cX10_agree 15 = .ok (.iload_n 2, 1) := by decide +kernel
theorem dX10_agree_16 : decode cX10_agree 16 = .ok (.iastore, 1) := by decide +kernel
theorem dX10_agree_17 : decode cX10_agree 17 = .ok (.aload_n 0, 1) := by decide +kernel
theorem dX10_agree_18 : decode cX10_agree 18 = .ok (.getfield 93, 3) := by decide +kernel
theorem dX10_agree_21 : decode cX10_agree 21 = .ok (.iload_n 2, 1) := by decide +kernel
theorem dX10_agree_22 : decode cX10_agree 22 = .ok (.lconst 0, 1) := by decide +kernel
theorem dX10_agree_23 : decode cX10_agree 23 = .ok (.lastore, 1) := by decide +kernel
theorem dX10_agree_24 : decode cX10_agree 24 = .ok (.iinc 2 1, 3) := by decide +kernel

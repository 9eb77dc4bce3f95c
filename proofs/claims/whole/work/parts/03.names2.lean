theorem dX7_init_0 : decode cX7_init 0 = .ok (.aload_n 0, 1) := by decide +kernel
theorem dX7_init_1 : decode cX7_init 1 = .ok (.invokespecial 1, 3) := by decide +kernel
theorem dX7_init_4 : decode cX7_init 4 = .ok (.aload_n 0, 1) := by decide +kernel
theorem dX7_init_5 : decode cX7_init 5 = .ok (.sipush 192, 3) := by decide +kernel
theorem dX7_init_8 : decode cX7_init 8 = .ok (.newarray .int, 2) := by decide +kernel
theorem dX7_init_10 : decode cX7_init 10 = .ok (.putfield 7, 3) := by decide +kernel
theorem dX7_init_13 : decode cX7_init 13 = .ok (.aload_n 0, 1) := by decide +kernel
theorem dX7_init_14 : decode cX7_init 14 = .ok (.bipush 6, 2) := by decide +kernel
theorem dX7_init_16 : decode cX7_init 16 = .ok (.newarray .int, 2) := by decide +kernel
theorem dX7_init_18 : decode cX7_init 18 = .ok (.putfield 13, 3) := by decide +kernel
theorem dX7_init_21 : decode cX7_init 21 = .ok (.aload_n 0, 1) := by decide +kernel
theorem dX7_init_22 : decode cX7_init 22 = .ok (.bipush 6, 2) := by decide +kernel
theorem dX7_init_24 : decode cX7_init 24 = .ok (.newarray .int, 2) := by decide +kernel
theorem dX7_init_26 : decode cX7_init 26 = .ok (.putfield 16, 3) := by decide +kernel
theorem dX7_init_29 : decode cX7_init 29 = .ok (.aload_n 0, 1) := by decide +kernel
theorem dX7_init_30 : decode cX7_init 30 = .ok (.bipush 42, 2) := by decide +kernel
theorem dX7_init_32 : decode cX7_init 32 = .ok (.newarray .int, 2) := by decide +kernel
theorem dX7_init_34 : decode cX7_init 34 = .ok (.putfield 19, 3) := by decide +kernel
theorem dX7_init_37 : decode cX7_init 37 = .ok (.aload_n 0, 1) := by decide +kernel
theorem dX7_init_38 : decode cX7_init 38 = .ok (.bipush 6, 2) := by decide +kernel
theorem dX7_init_40 : decode cX7_init 40 = .ok (.newarray .int, 2) := by decide +kernel
theorem dX7_init_42 : decode cX7_init 42 = .ok (.putfield 22, 3) := by decide +kernel
theorem dX7_init_45 : decode cX7_init 45 = .ok (.aload_n 0, 1) := by decide +kernel
theorem dX7_init_46 : decode cX7_init 46 = .ok (.bipush 10, 2) := by decide +kernel
theorem dX7_init_48 : decode cX7_init 48 = .ok (.newarray .int, 2) := by decide +kernel
theorem dX7_init_50 : decode cX7_init 50 = .ok (.putfield 25, 3) := by decide +kernel
theorem dX7_init_53 : decode cX7_init 53 = .ok (.aload_n 0, 1) := by decide +kernel
theorem dX7_init_54 : decode cX7_init 54 = .ok (.iconst 2, 1) := by decide +kernel
theorem dX7_init_55 : decode cX7_init 55 = .ok (.newarray .boolean, 2) := by decide +kernel
theorem dX7_init_57 : decode cX7_init 57 = .ok (.putfield 28, 3) := by decide +kernel
theorem dX7_init_60 : decode cX7_init 60 = .ok (.aload_n 0, 1) := by decide +kernel
theorem dX7_init_61 : decode cX7_init 61 = .ok (.sipush 200, 3) := by decide +kernel
theorem dX7_init_64 : decode cX7_init 64 = .ok (.newarray .int, 2) := by decide +kernel
theorem dX7_init_66 : decode cX7_init 66 = .ok (.putfield 32, 3) := by decide +kernel
theorem dX7_init_69 : decode cX7_init 69 = .ok (.aload_n 0, 1) := by decide +kernel
theorem dX7_init_70 : decode cX7_init 70 = .ok (.iconst 3, 1) := by decide +kernel
theorem dX7_init_71 : decode cX7_init 71 = .ok (.newarray .int, 2) := by decide +kernel
theorem dX7_init_73 : decode cX7_init 73 = .ok (.dup, 1) := by decide +kernel
theorem dX7_init_74 : decode cX7_init 74 = .ok (.iconst 0, 1) := by decide +kernel
theorem dX7_init_75 : decode cX7_init 75 = .ok (.iconst (-1), 1) := by decide +kernel
theorem dX7_init_76 : decode cX7_init 76 = .ok (.iastore, 1) := by decide +kernel
theorem dX7_init_77 : decode cX7_init 77 = .ok (.dup, 1) := by decide +kernel
theorem dX7_init_78 : decode cX7_init 78 = .ok (.iconst 1, 1) := by decide +kernel
theorem dX7_init_79 : decode cX7_init 79 = .ok (.iconst (-1), 1) := by decide +kernel
theorem dX7_init_80 : decode cX7_init 80 = .ok (.iastore, 1) := by decide +kernel
theorem dX7_init_81 : decode cX7_init 81 = .ok (.dup, 1) := by decide +kernel
theorem dX7_init_82 : decode cX7_init 82 = .ok (.iconst 2, 1) := by decide +kernel
theorem dX7_init_83 : decode cX7_init 83 = .ok (.iconst (-1), 1) := by decide +kernel
theorem dX7_init_84 : decode cX7_init 84 = .ok (.iastore, 1) := by decide +kernel
theorem dX7_init_85 : decode cX7_init 85 = .ok (.putfield 35, 3) := by decide +kernel
theorem dX7_init_88 : decode cX7_init 88 = .ok (.aload_n 0, 1) := by decide +kernel
theorem dX7_init_89 : decode cX7_init 89 = .ok (.bipush 24, 2) := by decide +kernel
theorem dX7_init_91 : decode cX7_init 91 = .ok (.newarray .int, 2) := by decide +kernel
theorem dX7_init_93 : decode cX7_init 93 = .ok (.putfield 38, 3) := by decide +kernel
theorem dX7_init_96 : decode cX7_init 96 = .ok (.aload_n 0, 1) := by decide +kernel
theorem dX7_init_97 : decode cX7_init 97 = .ok (.bipush 24, 2) := by decide +kernel
theorem dX7_init_99 : decode cX7_init 99 = .ok (.newarray .int, 2) := by decide +kernel
theorem dX7_init_101 : decode cX7_init 101 = .ok (.putfield 41, 3) := by decide +kernel
theorem dX7_init_104 : decode cX7_init 104 = .ok (.aload_n 0, 1) := by decide +kernel
theorem dX7_init_105 : decode cX7_init 105 = .ok (.bipush 24, 2) := by decide +kernel
theorem dX7_init_107 : decode cX7_init 107 = .ok (.newarray .int, 2) := by decide +kernel
theorem dX7_init_109 : decode cX7_init 109 = .ok (.putfield 44, 3) := by decide +kernel
theorem dX7_init_112 : decode cX7_init 112 = .ok (.aload_n 0, 1) := by decide +kernel
theorem dX7_init_113 : decode cX7_init 113 = .ok (.bipush 42, 2) := by decide +kernel
theorem dX7_init_115 : decode cX7_init 115 = .ok (.newarray .int, 2) := by decide +kernel
theorem dX7_init_117 : decode cX7_init 117 = .ok (.putfield 47, 3) := by decide +kernel
theorem dX7_init_120 : decode cX7_init 120 = .ok (.aload_n 0, 1) := by decide +kernel
theorem dX7_init_121 : decode cX7_init 121 = .ok (.bipush 6, 2) := by decide +kernel
theorem dX7_init_123 : decode cX7_init 123 = .ok (.newarray .int, 2) := by decide +kernel
theorem dX7_init_125 : decode cX7_init 125 = .ok (.putfield 50, 3) := by decide +kernel
theorem dX7_init_128 : decode cX7_init 128 = .ok (.aload_n 0, 1) := by decide +kernel
theorem dX7_init_129 : decode cX7_init 129 = .ok (.iconst 3, 1) := by decide +kernel
theorem dX7_init_130 : decode cX7_init 130 = .ok (.newarray .int, 2) := by decide +kernel
theorem dX7_init_132 : decode cX7_init 132 = .ok (.putfield 53, 3) := by decide +kernel
theorem dX7_init_135 : decode cX7_init 135 = .ok (.aload_n 0, 1) := by decide +kernel
theorem dX7_init_136 : decode cX7_init 136 = .ok (.bipush 25, 2) := by decide +kernel
theorem dX7_init_138 : decode cX7_init 138 = .ok (.newarray .int, 2) := by decide +kernel
theorem dX7_init_140 : decode cX7_init 140 = .ok (.dup, 1) := by decide +kernel
theorem dX7_init_141 : decode cX7_init 141 = .ok (.iconst 0, 1) := by decide +kernel
theorem dX7_init_142 : decode cX7_init 142 = .ok (.bipush 119, 2) := by decide +kernel
theorem dX7_init_144 : decode cX7_init 144 = .ok (.iastore, 1) := by decide +kernel
theorem dX7_init_145 : decode cX7_init 145 = .ok (.dup, 1) := by decide +kernel
theorem dX7_init_146 : decode cX7_init 146 = .ok (.iconst 1, 1) := by decide +kernel
theorem dX7_init_147 : decode cX7_init 147 = .ok (.bipush 97, 2) := by decide +kernel
theorem dX7_init_149 : decode cX7_init 149 = .ok (.iastore, 1) := by decide +kernel
theorem dX7_init_150 : decode cX7_init 150 = .ok (.dup, 1) := by decide +kernel
theorem dX7_init_151 : decode cX7_init 151 = .ok (.iconst 2, 1) := by decide +kernel
theorem dX7_init_152 : decode cX7_init 152 = .ok (.bipush 108, 2) := by decide +kernel
theorem dX7_init_154 : decode cX7_init 154 = .ok (.iastore, 1) := by decide +kernel
theorem dX7_init_155 : decode cX7_init 155 = .ok (.dup, 1) := by decide +kernel
theorem dX7_init_156 : decode cX7_init 156 = .ok (.iconst 3, 1) := by decide +kernel
theorem dX7_init_157 : decode cX7_init 157 = .ok (.bipush 108, 2) := by decide +kernel
theorem dX7_init_159 : decode cX7_init 159 = .ok (.iastore, 1) := by decide +kernel
theorem dX7_init_160 : decode cX7_init 160 = .ok (.dup, 1) := by decide +kernel
theorem dX7_init_161 : decode cX7_init 161 = .ok (.iconst 4, 1) := by decide +kernel
theorem dX7_init_162 : decode cX7_init 162 = .ok (.iconst 0, 1) := by decide +kernel
theorem dX7_init_163 : decode cX7_init 163 = .ok (.iastore, 1) := by decide +kernel
theorem dX7_init_164 : decode cX7_init 164 = .ok (.dup, 1) := by decide +kernel
theorem dX7_init_165 : decode cX7_init 165 = .ok (.iconst 5, 1) := by decide +kernel
theorem dX7_init_166 : decode cX7_init 166 = .ok (.bipush 115, 2) := by decide +kernel
theorem dX7_init_168 : decode cX7_init 168 = .ok (.iastore, 1) := by decide +kernel
theorem dX7_init_169 : decode cX7_init 169 = .ok (.dup, 1) := by decide +kernel
theorem dX7_init_170 : decode cX7_init 170 = .ok (.bipush 6, 2) := by decide +kernel
theorem dX7_init_172 : decode cX7_init 172 = .ok (.bipush 116, 2) := by decide +kernel
theorem dX7_init_174 : decode cX7_init 174 = .ok (.iastore, 1) := by decide +kernel
theorem dX7_init_175 : decode cX7_init 175 = .ok (.dup, 1) := by decide +kernel
theorem dX7_init_176 : decode cX7_init 176 = .ok (.bipush 7, 2) := by decide +kernel
theorem dX7_init_178 : decode cX7_init 178 = .ok (.bipush 117, 2) := by decide +kernel
theorem dX7_init_180 : decode cX7_init 180 = .ok (.iastore, 1) := by decide +kernel
theorem dX7_init_181 : decode cX7_init 181 = .ok (.dup, 1) := by decide +kernel
theorem dX7_init_182 : decode cX7_init 182 = .ok (.bipush 8, 2) := by decide +kernel
theorem dX7_init_184 : decode cX7_init 184 = .ok (.bipush 102, 2) := by decide +kernel
theorem dX7_init_186 : decode cX7_init 186 = .ok (.iastore, 1) := by decide +kernel
theorem dX7_init_187 : decode cX7_init 187 = .ok (.dup, 1) := by decide +kernel
theorem dX7_init_188 : decode cX7_init 188 = .ok (.bipush 9, 2) := by decide +kernel
theorem dX7_init_190 : decode cX7_init 190 = .ok (.bipush 102, 2) := by decide +kernel
theorem dX7_init_192 : decode cX7_init 192 = .ok (.iastore, 1) := by decide +kernel
theorem dX7_init_193 : decode cX7_init 193 = .ok (.dup, 1) := by decide +kernel
theorem dX7_init_194 : decode cX7_init 194 = .ok (.bipush 10, 2) := by decide +kernel
theorem dX7_init_196 : decode cX7_init 196 = .ok (.bipush 108, 2) := by decide +kernel
theorem dX7_init_198 : decode cX7_init 198 = .ok (.iastore, 1) := by decide +kernel
theorem dX7_init_199 : decode cX7_init 199 = .ok (.dup, 1) := by decide +kernel
theorem dX7_init_200 : decode cX7_init 200 = .ok (.bipush 11, 2) := by decide +kernel
theorem dX7_init_202 : decode cX7_init 202 = .ok (.bipush 97, 2) := by decide +kernel
theorem dX7_init_204 : decode cX7_init 204 = .ok (.iastore, 1) := by decide +kernel
theorem dX7_init_205 : decode cX7_init 205 = .ok (.dup, 1) := by decide +kernel
theorem dX7_init_206 : decode cX7_init 206 = .ok (.bipush 12, 2) := by decide +kernel
theorem dX7_init_208 : decode cX7_init 208 = .ok (.bipush 121, 2) := by decide +kernel
theorem dX7_init_210 : decode cX7_init 210 = .ok (.iastore, 1) := by decide +kernel
theorem dX7_init_211 : decode cX7_init 211 = .ok (.dup, 1) := by decide +kernel
theorem dX7_init_212 : decode cX7_init 212 = .ok (.bipush 13, 2) := by decide +kernel
theorem dX7_init_214 : decode cX7_init 214 = .ok (.bipush 101, 2) := by decide +kernel
theorem dX7_init_216 : decode cX7_init 216 = .ok (.iastore, 1) := by decide +kernel
theorem dX7_init_217 : decode cX7_init 217 = .ok (.dup, 1) := by decide +kernel
theorem dX7_init_218 : decode cX7_init 218 = .ok (.bipush 14, 2) := by decide +kernel
theorem dX7_init_220 : decode cX7_init 220 = .ok (.bipush 114, 2) := by decide +kernel
theorem dX7_init_222 : decode cX7_init 222 = .ok (.iastore, 1) := by decide +kernel
theorem dX7_init_223 : decode cX7_init 223 = .ok (.dup, 1) := by decide +kernel
theorem dX7_init_224 : decode cX7_init 224 = .ok (.bipush 15, 2) := by decide +kernel
theorem dX7_init_226 : decode cX7_init 226 = .ok (.bipush 97, 2) := by decide +kernel
theorem dX7_init_228 : decode cX7_init 228 = .ok (.iastore, 1) := by decide +kernel
theorem dX7_init_229 : decode cX7_init 229 = .ok (.dup, 1) := by decide +kernel
theorem dX7_init_230 : decode cX7_init 230 = .ok (.bipush 16, 2) := by decide +kernel
theorem dX7_init_232 : decode cX7_init 232 = .ok (.bipush 105, 2) := by decide +kernel
theorem dX7_init_234 : decode cX7_init 234 = .ok (.iastore, 1) := by decide +kernel
theorem dX7_init_235 : decode cX7_init 235 = .ok (.dup, 1) := by decide +kernel
theorem dX7_init_236 : decode cX7_init 236 = .ok (.bipush 17, 2) := by decide +kernel
theorem dX7_init_238 : decode cX7_init 238 = .ok (.bipush 114, 2) := by decide +kernel
theorem dX7_init_240 : decode cX7_init 240 = .ok (.iastore, 1) := by decide +kernel
theorem dX7_init_241 : decode cX7_init 241 = .ok (.dup, 1) := by decide +kernel
theorem dX7_init_242 : decode cX7_init 242 = .ok (.bipush 18, 2) := by decide +kernel
theorem dX7_init_244 : decode cX7_init 244 = .ok (.iconst 0, 1) := by decide +kernel
theorem dX7_init_245 : decode cX7_init 245 = .ok (.iastore, 1) := by decide +kernel
theorem dX7_init_246 : decode cX7_init 246 = .ok (.dup, 1) := by decide +kernel
theorem dX7_init_247 : decode cX7_init 247 = .ok (.bipush 19, 2) := by decide +kernel
theorem dX7_init_249 : decode cX7_init 249 = .ok (.iconst 0, 1) := by decide +kernel
theorem dX7_init_250 : decode cX7_init 250 = .ok (.iastore, 1) := by decide +kernel
theorem dX7_init_251 : decode cX7_init 251 = .ok (.dup, 1) := by decide +kernel
theorem dX7_init_252 : decode cX7_init 252 = .ok (.bipush 20, 2) := by decide +kernel
theorem dX7_init_254 : decode cX7_init 254 = .ok (.bipush 104, 2) := by decide +kernel
theorem dX7_init_256 : decode cX7_init 256 = .ok (.iastore, 1) := by decide +kernel
theorem dX7_init_257 : decode cX7_init 257 = .ok (.dup, 1) := by decide +kernel
theorem dX7_init_258 : decode cX7_init 258 = .ok (.bipush 21, 2) := by decide +kernel
theorem dX7_init_260 : decode cX7_init 260 = .ok (.bipush 101, 2) := by decide +kernel
theorem dX7_init_262 : decode cX7_init 262 = .ok (.iastore, 1) := by decide +kernel
theorem dX7_init_263 : decode cX7_init 263 = .ok (.dup, 1) := by decide +kernel
theorem dX7_init_264 : decode cX7_init 264 = .ok (.bipush 22, 2) := by decide +kernel
theorem dX7_init_266 : decode cX7_init 266 = .ok (.bipush 97, 2) := by decide +kernel
theorem dX7_init_268 : decode cX7_init 268 = .ok (.iastore, 1) := by decide +kernel
theorem dX7_init_269 : decode cX7_init 269 = .ok (.dup, 1) := by decide +kernel
theorem dX7_init_270 : decode cX7_init 270 = .ok (.bipush 23, 2) := by decide +kernel
theorem dX7_init_272 : decode cX7_init 272 = .ok (.bipush 116, 2) := by decide +kernel
theorem dX7_init_274 : decode cX7_init 274 = .ok (.iastore, 1) := by decide +kernel
theorem dX7_init_275 : decode cX7_init 275 = .ok (.dup, 1) := by decide +kernel
theorem dX7_init_276 : decode cX7_init 276 = .ok (.bipush 24, 2) := by decide +kernel
theorem dX7_init_278 : decode cX7_init 278 = .ok (.iconst 0, 1) := by decide +kernel
theorem dX7_init_279 : decode cX7_init 279 = .ok (.iastore, 1) := by decide +kernel
theorem dX7_init_280 : decode cX7_init 280 = .ok (.putfield 56, 3) := by decide +kernel
theorem dX7_init_283 : decode cX7_init 283 = .ok (.aload_n 0, 1) := by decide +kernel
theorem dX7_init_284 : decode cX7_init 284 = .ok (.bipush 11, 2) := by decide +kernel
theorem dX7_init_286 : decode cX7_init 286 = .ok (.newarray .int, 2) := by decide +kernel
theorem dX7_init_288 : decode cX7_init 288 = .ok (.putfield 59, 3) := by decide +kernel
theorem dX7_init_291 : decode cX7_init 291 = .ok (.aload_n 0, 1) := by decide +kernel
theorem dX7_init_292 : decode cX7_init 292 = .ok (.getfield 7, 3) := by decide +kernel
theorem dX7_init_295 : decode cX7_init 295 = .ok (.bipush 12, 2) := by decide +kernel
theorem dX7_init_297 : decode cX7_init 297 = .ok (.bipush 40, 2) := by decide +kernel
theorem dX7_init_299 : decode cX7_init 299 = .ok (.iastore, 1) := by decide +kernel
theorem dX7_init_300 : decode cX7_init 300 = .ok (.return_, 1) := by decide +kernel
theorem dX7_in_0 : decode cX7_in 0 = .ok (.lload_n 0, 1) := by decide +kernel
theorem dX7_in_1 : decode cX7_in 1 = .ok (.lload_n 2, 1) := by decide +kernel
theorem dX7_in_2 : decode cX7_in 2 = .ok (.lcmp, 1) := by decide +kernel
theorem dX7_in_3 : decode cX7_in 3 = .ok (.ifCond .lt 14, 3) := by decide +kernel
theorem dX7_in_6 : decode cX7_in 6 = .ok (.lload_n 0, 1) := by decide +kernel
theorem dX7_in_7 : decode cX7_in 7 = .ok (.lload 4, 2) := by decide +kernel
theorem dX7_in_9 : decode cX7_in 9 = .ok (.lcmp, 1) := by decide +kernel
theorem dX7_in_10 : decode cX7_in 10 = .ok (.ifCond .gt 7, 3) := by decide +kernel
theorem dX7_in_13 : decode cX7_in 13 = .ok (.iconst 1, 1) := by decide +kernel
theorem dX7_in_14 : decode cX7_in 14 = .ok (.goto 4, 3) := by decide +kernel
theorem dX7_in_17 : decode cX7_in 17 = .ok (.iconst 0, 1) := by decide +kernel
theorem dX7_in_18 : decode cX7_in 18 = .ok (.ireturn, 1) := by decide +kernel
theorem dX7_copyRow_0 : decode cX7_copyRow 0 = .ok (.iconst 0, 1) := by decide +kernel
theorem dX7_copyRow_1 : decode cX7_copyRow 1 = .ok (.istore_n 3, 1) := by decide +kernel
theorem dX7_copyRow_2 : decode cX7_copyRow 2 = .ok (.iload_n 3, 1) := by decide +kernel
theorem dX7_copyRow_3 : decode cX7_copyRow 3 = .ok (.bipush 16, 2) := by decide +kernel
theorem dX7_copyRow_5 : decode cX7_copyRow 5 = .ok (.if_icmp .ge 25, 3) := by decide +kernel
theorem dX7_copyRow_8 : decode cX7_copyRow 8 = .ok (.aload_n 0, 1) := by decide +kernel
theorem dX7_copyRow_9 : decode cX7_copyRow 9 = .ok (.getfield 7, 3) := by decide +kernel
theorem dX7_copyRow_12 : decode cX7_copyRow 12 = .ok (.iload_n 2, 1) := by decide +kernel
theorem dX7_copyRow_13 : decode cX7_copyRow 13 = .ok (.iload_n 3, 1) := by decide +kernel
theorem dX7_copyRow_14 : decode cX7_copyRow 14 = .ok (.iadd, 1) := by decide +kernel
theorem dX7_copyRow_15 : decode cX7_copyRow 15 = .ok (.aload_n 0, 1) := by decide +kernel
theorem dX7_copyRow_16 : decode cX7_copyRow 16 = .ok (.getfield 7, 3) := by decide +kernel
theorem dX7_copyRow_19 : decode cX7_copyRow 19 = .ok (.iload_n 1, 1) := by decide +kernel
theorem dX7_copyRow_20 : decode cX7_copyRow 20 = .ok (.iload_n 3, 1) := by decide +kernel
theorem dX7_copyRow_21 : decode cX7_copyRow 21 = .ok (.iadd, 1) := by decide +kernel
theorem dX7_copyRow_22 : decode cX7_copyRow 22 = .ok (.iaload, 1) := by decide +kernel
theorem dX7_copyRow_23 : decode cX7_copyRow 23 = .ok (.iastore, 1) := by decide +kernel
theorem dX7_copyRow_24 : decode cX7_copyRow 24 = .ok (.iinc 3 1, 3) := by decide +kernel
theorem dX7_copyRow_27 : decode cX7_copyRow 27 = .ok (.goto (-25), 3) := by decide +kernel
theorem dX7_copyRow_30 : decode cX7_copyRow 30 = .ok (.return_, 1) := by decide +kernel
theorem dX7_write_0 : decode cX7_write 0 = .ok (.iload_n 1, 1) := by decide +kernel
theorem dX7_write_1 : decode cX7_write 1 = .ok (.i2l, 1) := by decide +kernel
theorem dX7_write_2 : decode cX7_write 2 = .ok (.lconst 0, 1) := by decide +kernel
theorem dX7_write_3 : decode cX7_write 3 = .ok (.ldc2_w 62, 3) := by decide +kernel
theorem dX7_write_6 : decode cX7_write 6 = .ok (.invokestatic 64, 3) := by decide +kernel
theorem dX7_write_9 : decode cX7_write 9 = .ok (.ifCond .ne 6, 3) := by decide +kernel
theorem dX7_write_12 : decode cX7_write 12 = .ok (.ldc 68, 2) := by decide +kernel
theorem dX7_write_14 : decode cX7_write 14 = .ok (.ireturn, 1) := by decide +kernel
theorem dX7_write_15 : decode cX7_write 15 = .ok (.aload_n 0, 1) := by decide +kernel
theorem dX7_write_16 : decode cX7_write 16 = .ok (.getfield 69, 3) := by decide +kernel
theorem dX7_write_19 : decode cX7_write 19 = .ok (.sipush 200, 3) := by decide +kernel
theorem dX7_write_22 : decode cX7_write 22 = .ok (.if_icmp .ne 6, 3) := by decide +kernel
theorem dX7_write_25 : decode cX7_write 25 = .ok (.ldc 73, 2) := by decide +kernel
theorem dX7_write_27 : decode cX7_write 27 = .ok (.ireturn, 1) := by decide +kernel
theorem dX7_write_28 : decode cX7_write 28 = .ok (.aload_n 0, 1) := by decide +kernel
theorem dX7_write_29 : decode cX7_write 29 = .ok (.getfield 32, 3) := by decide +kernel
theorem dX7_write_32 : decode cX7_write 32 = .ok (.aload_n 0, 1) := by decide +kernel
theorem dX7_write_33 : decode cX7_write 33 = .ok (.getfield 69, 3) := by decide +kernel
theorem dX7_write_36 : decode cX7_write 36 = .ok (.iload_n 1, 1) := by decide +kernel
theorem dX7_write_37 : decode cX7_write 37 = .ok (.iastore, 1) := by decide +kernel
theorem dX7_write_38 : decode cX7_write 38 = .ok (.aload_n 0, 1) := by decide +kernel
theorem dX7_write_39 : decode cX7_write 39 = .ok (.dup, 1) := by decide +kernel
theorem dX7_write_40 : decode cX7_write 40 = .ok (.getfield 69, 3) := by decide +kernel
theorem dX7_write_43 : decode cX7_write 43 = .ok (.iconst 1, 1) := by decide +kernel
theorem dX7_write_44 : decode cX7_write 44 = .ok (.iadd, 1) := by decide +kernel
theorem dX7_write_45 : decode cX7_write 45 = .ok (.putfield 69, 3) := by decide +kernel
theorem dX7_write_48 : decode cX7_write 48 = .ok (.aload_n 0, 1) := by decide +kernel
theorem dX7_write_49 : decode cX7_write 49 = .ok (.getfield 69, 3) := by decide +kernel
theorem dX7_write_52 : decode cX7_write 52 = .ok (.ireturn, 1) := by decide +kernel
theorem dX7_erase_0 : decode cX7_erase 0 = .ok (.aload_n 0, 1) := by decide +kernel
theorem dX7_erase_1 : decode cX7_erase 1 = .ok (.getfield 69, 3) := by decide +kernel
theorem dX7_erase_4 : decode cX7_erase 4 = .ok (.istore_n 1, 1) := by decide +kernel
theorem dX7_erase_5 : decode cX7_erase 5 = .ok (.aload_n 0, 1) := by decide +kernel
theorem dX7_erase_6 : decode cX7_erase 6 = .ok (.iconst 0, 1) := by decide +kernel
theorem dX7_erase_7 : decode cX7_erase 7 = .ok (.putfield 69, 3) := by decide +kernel
theorem dX7_erase_10 : decode cX7_erase 10 = .ok (.iload_n 1, 1) := by decide +kernel
theorem dX7_erase_11 : decode cX7_erase 11 = .ok (.ireturn, 1) := by decide +kernel
theorem dX7_isSmall_0 : decode cX7_isSmall 0 = .ok (.iload_n 0, 1) := by decide +kernel
theorem dX7_isSmall_1 : decode cX7_isSmall 1 = .ok (.i2l, 1) := by decide +kernel
theorem dX7_isSmall_2 : decode cX7_isSmall 2 = .ok (.ldc2_w 74, 3) := by decide +kernel
theorem dX7_isSmall_5 : decode cX7_isSmall 5 = .ok (.ldc2_w 76, 3) := by decide +kernel
theorem dX7_isSmall_8 : decode cX7_isSmall 8 = .ok (.invokestatic 64, 3) := by decide +kernel
theorem dX7_isSmall_11 : decode cX7_isSmall 11 = .ok (.ireturn, 1) := by decide +kernel
theorem dX7_isDigit_0 : decode cX7_isDigit 0 = .ok (.iload_n 0, 1) := by decide +kernel
theorem dX7_isDigit_1 : decode cX7_isDigit 1 = .ok (.i2l, 1) := by decide +kernel
theorem dX7_isDigit_2 : decode cX7_isDigit 2 = .ok (.ldc2_w 78, 3) := by decide +kernel
theorem dX7_isDigit_5 : decode cX7_isDigit 5 = .ok (.ldc2_w 80, 3) := by decide +kernel
theorem dX7_isDigit_8 : decode cX7_isDigit 8 = .ok (.invokestatic 64, 3) := by decide +kernel
theorem dX7_isDigit_11 : decode cX7_isDigit 11 = .ok (.ireturn, 1) := by decide +kernel
theorem dX7_nextToken_0 : decode cX7_nextToken 0 = .ok (.aload_n 0, 1) := by decide +kernel
theorem dX7_nextToken_1 : decode cX7_nextToken 1 = .ok (.aload_n 0, 1) := by decide +kernel
theorem dX7_nextToken_2 : decode cX7_nextToken 2 = .ok (.getfield 82, 3) := by decide +kernel
theorem dX7_nextToken_5 : decode cX7_nextToken 5 = .ok (.putfield 85, 3) := by decide +kernel
theorem dX7_nextToken_8 : decode cX7_nextToken 8 = .ok (.aload_n 0, 1) := by decide +kernel
theorem dX7_nextToken_9 : decode cX7_nextToken 9 = .ok (.getfield 85, 3) := by decide +kernel
theorem dX7_nextToken_12 : decode cX7_nextToken 12 = .ok (.aload_n 0, 1) := by decide +kernel
theorem dX7_nextToken_13 : decode cX7_nextToken 13 = .ok (.getfield 69, 3) := by decide +kernel
theorem dX7_nextToken_16 : decode cX7_nextToken 16 = .ok (.if_icmp .ge 30, 3) := by decide +kernel
theorem dX7_nextToken_19 : decode cX7_nextToken 19 = .ok (.aload_n 0, 1) := by decide +kernel
theorem dX7_nextToken_20 : decode cX7_nextToken 20 = .ok (.getfield 32, 3) := by decide +kernel
theorem dX7_nextToken_23 : decode cX7_nextToken 23 = .ok (.aload_n 0, 1) := by decide +kernel
theorem dX7_nextToken_24 : decode cX7_nextToken 24 = .ok (.getfield 85, 3) := by decide +kernel
theorem dX7_nextToken_27 : decode cX7_nextToken 27 = .ok (.iaload, 1) := by decide +kernel
theorem dX7_nextToken_28 : decode cX7_nextToken 28 = .ok (.bipush 32, 2) := by decide +kernel
theorem dX7_nextToken_30 : decode cX7_nextToken 30 = .ok (.if_icmp .ne 16, 3) := by decide +kernel
theorem dX7_nextToken_33 : decode cX7_nextToken 33 = .ok (.aload_n 0, 1) := by decide +kernel
theorem dX7_nextToken_34 : decode cX7_nextToken 34 = .ok (.dup, 1) := by decide +kernel
theorem dX7_nextToken_35 : decode cX7_nextToken 35 = .ok (.getfield 85, 3) := by decide +kernel
theorem dX7_nextToken_38 : decode cX7_nextToken 38 = .ok (.iconst 1, 1) := by decide +kernel
theorem dX7_nextToken_39 : decode cX7_nextToken 39 = .ok (.iadd, 1) := by decide +kernel
theorem dX7_nextToken_40 : decode cX7_nextToken 40 = .ok (.putfield 85, 3) := by decide +kernel
theorem dX7_nextToken_43 : decode cX7_nextToken 43 = .ok (.goto (-35), 3) := by decide +kernel
theorem dX7_nextToken_46 : decode cX7_nextToken 46 = .ok (.aload_n 0, 1) := by decide +kernel
theorem dX7_nextToken_47 : decode cX7_nextToken 47 = .ok (.aload_n 0, 1) := by decide +kernel
theorem dX7_nextToken_48 : decode cX7_nextToken 48 = .ok (.getfield 85, 3) := by decide +kernel
theorem dX7_nextToken_51 : decode cX7_nextToken 51 = .ok (.aload_n 0, 1) := by decide +kernel
theorem dX7_nextToken_52 : decode cX7_nextToken 52 = .ok (.getfield 69, 3) := by decide +kernel
theorem dX7_nextToken_55 : decode cX7_nextToken 55 = .ok (.if_icmp .ge 12, 3) := by decide +kernel
theorem dX7_nextToken_58 : decode cX7_nextToken 58 = .ok (.aload_n 0, 1) := by decide +kernel
theorem dX7_nextToken_59 : decode cX7_nextToken 59 = .ok (.getfield 85, 3) := by decide +kernel
theorem dX7_nextToken_62 : decode cX7_nextToken 62 = .ok (.iconst 1, 1) := by decide +kernel
theorem dX7_nextToken_63 : decode cX7_nextToken 63 = .ok (.iadd, 1) := by decide +kernel
theorem dX7_nextToken_64 : decode cX7_nextToken 64 = .ok (.goto 7, 3) := by decide +kernel
theorem dX7_nextToken_67 : decode cX7_nextToken 67 = .ok (.aload_n 0, 1) := by decide +kernel
theorem dX7_nextToken_68 : decode cX7_nextToken 68 = .ok (.getfield 85, 3) := by decide +kernel
theorem dX7_nextToken_71 : decode cX7_nextToken 71 = .ok (.putfield 82, 3) := by decide +kernel
theorem dX7_nextToken_74 : decode cX7_nextToken 74 = .ok (.aload_n 0, 1) := by decide +kernel
theorem dX7_nextToken_75 : decode cX7_nextToken 75 = .ok (.getfield 85, 3) := by decide +kernel
theorem dX7_nextToken_78 : decode cX7_nextToken 78 = .ok (.aload_n 0, 1) := by decide +kernel
theorem dX7_nextToken_79 : decode cX7_nextToken 79 = .ok (.getfield 69, 3) := by decide +kernel
theorem dX7_nextToken_82 : decode cX7_nextToken 82 = .ok (.if_icmp .ge 57, 3) := by decide +kernel
theorem dX7_nextToken_85 : decode cX7_nextToken 85 = .ok (.aload_n 0, 1) := by decide +kernel
theorem dX7_nextToken_86 : decode cX7_nextToken 86 = .ok (.getfield 32, 3) := by decide +kernel
theorem dX7_nextToken_89 : decode cX7_nextToken 89 = .ok (.aload_n 0, 1) := by decide +kernel
theorem dX7_nextToken_90 : decode cX7_nextToken 90 = .ok (.getfield 85, 3) := by decide +kernel
theorem dX7_nextToken_93 : decode cX7_nextToken 93 = .ok (.iaload, 1) := by decide +kernel
theorem dX7_nextToken_94 : decode cX7_nextToken 94 = .ok (.invokestatic 88, 3) := by decide +kernel
theorem dX7_nextToken_97 : decode cX7_nextToken 97 = .ok (.ifCond .eq 42, 3) := by decide +kernel
theorem dX7_nextToken_100 : decode cX7_nextToken 100 = .ok (.aload_n 0, 1) := by decide +kernel
theorem dX7_nextToken_101 : decode cX7_nextToken 101 = .ok (.getfield 82, 3) := by decide +kernel
theorem dX7_nextToken_104 : decode cX7_nextToken 104 = .ok (.aload_n 0, 1) := by decide +kernel
theorem dX7_nextToken_105 : decode cX7_nextToken 105 = .ok (.getfield 69, 3) := by decide +kernel
theorem dX7_nextToken_108 : decode cX7_nextToken 108 = .ok (.if_icmp .ge 96, 3) := by decide +kernel
theorem dX7_nextToken_111 : decode cX7_nextToken 111 = .ok (.aload_n 0, 1) := by decide +kernel
theorem dX7_nextToken_112 : decode cX7_nextToken 112 = .ok (.getfield 32, 3) := by decide +kernel
theorem dX7_nextToken_115 : decode cX7_nextToken 115 = .ok (.aload_n 0, 1) := by decide +kernel
theorem dX7_nextToken_116 : decode cX7_nextToken 116 = .ok (.getfield 82, 3) := by decide +kernel
theorem dX7_nextToken_119 : decode cX7_nextToken 119 = .ok (.iaload, 1) := by decide +kernel
theorem dX7_nextToken_120 : decode cX7_nextToken 120 = .ok (.invokestatic 88, 3) := by decide +kernel
theorem dX7_nextToken_123 : decode cX7_nextToken 123 = .ok (.ifCond .eq 81, 3) := by decide +kernel
theorem dX7_nextToken_126 : decode cX7_nextToken 126 = .ok (.aload_n 0, 1) := by decide +kernel
theorem dX7_nextToken_127 : decode cX7_nextToken 127 = .ok (.dup, 1) := by decide +kernel
theorem dX7_nextToken_128 : decode cX7_nextToken 128 = .ok (.getfield 82, 3) := by decide +kernel
theorem dX7_nextToken_131 : decode cX7_nextToken 131 = .ok (.iconst 1, 1) := by decide +kernel
theorem dX7_nextToken_132 : decode cX7_nextToken 132 = .ok (.iadd, 1) := by decide +kernel
theorem dX7_nextToken_133 : decode cX7_nextToken 133 = .ok (.putfield 82, 3) := by decide +kernel
theorem dX7_nextToken_136 : decode cX7_nextToken 136 = .ok (.goto (-36), 3) := by decide +kernel
theorem dX7_nextToken_139 : decode cX7_nextToken 139 = .ok (.aload_n 0, 1) := by decide +kernel
theorem dX7_nextToken_140 : decode cX7_nextToken 140 = .ok (.getfield 85, 3) := by decide +kernel
theorem dX7_nextToken_143 : decode cX7_nextToken 143 = .ok (.aload_n 0, 1) := by decide +kernel
theorem dX7_nextToken_144 : decode cX7_nextToken 144 = .ok (.getfield 69, 3) := by decide +kernel
theorem dX7_nextToken_147 : decode cX7_nextToken 147 = .ok (.if_icmp .ge 57, 3) := by decide +kernel
theorem dX7_nextToken_150 : decode cX7_nextToken 150 = .ok (.aload_n 0, 1) := by decide +kernel
theorem dX7_nextToken_151 : decode cX7_nextToken 151 = .ok (.getfield 32, 3) := by decide +kernel
theorem dX7_nextToken_154 : decode cX7_nextToken 154 = .ok (.aload_n 0, 1) := by decide +kernel
theorem dX7_nextToken_155 : decode cX7_nextToken 155 = .ok (.getfield 85, 3) := by decide +kernel
theorem dX7_nextToken_158 : decode cX7_nextToken 158 = .ok (.iaload, 1) := by decide +kernel
theorem dX7_nextToken_159 : decode cX7_nextToken 159 = .ok (.invokestatic 92, 3) := by decide +kernel
theorem dX7_nextToken_162 : decode cX7_nextToken 162 = .ok (.ifCond .eq 42, 3) := by decide +kernel
theorem dX7_nextToken_165 : decode cX7_nextToken 165 = .ok (.aload_n 0, 1) := by decide +kernel
theorem dX7_nextToken_166 : decode cX7_nextToken 166 = .ok (.getfield 82, 3) := by decide +kernel
theorem dX7_nextToken_169 : decode cX7_nextToken 169 = .ok (.aload_n 0, 1) := by decide +kernel
theorem dX7_nextToken_170 : decode cX7_nextToken 170 = .ok (.getfield 69, 3) := by decide +kernel
theorem dX7_nextToken_173 : decode cX7_nextToken 173 = .ok (.if_icmp .ge 31, 3) := by decide +kernel
theorem dX7_nextToken_176 : decode cX7_nextToken 176 = .ok (.aload_n 0, 1) := by decide +kernel
theorem dX7_nextToken_177 : decode cX7_nextToken 177 = .ok (.getfield 32, 3) := by decide +kernel
theorem dX7_nextToken_180 : decode cX7_nextToken 180 = .ok (.aload_n 0, 1) := by decide +kernel
theorem dX7_nextToken_181 : decode cX7_nextToken 181 = .ok (.getfield 82, 3) := by decide +kernel
theorem dX7_nextToken_184 : decode cX7_nextToken 184 = .ok (.iaload, 1) := by decide +kernel
theorem dX7_nextToken_185 : decode cX7_nextToken 185 = .ok (.invokestatic 92, 3) := by decide +kernel
theorem dX7_nextToken_188 : decode cX7_nextToken 188 = .ok (.ifCond .eq 16, 3) := by decide +kernel
theorem dX7_nextToken_191 : decode cX7_nextToken 191 = .ok (.aload_n 0, 1) := by decide +kernel
theorem dX7_nextToken_192 : decode cX7_nextToken 192 = .ok (.dup, 1) := by decide +kernel
theorem dX7_nextToken_193 : decode cX7_nextToken 193 = .ok (.getfield 82, 3) := by decide +kernel
theorem dX7_nextToken_196 : decode cX7_nextToken 196 = .ok (.iconst 1, 1) := by decide +kernel
theorem dX7_nextToken_197 : decode cX7_nextToken 197 = .ok (.iadd, 1) := by decide +kernel
theorem dX7_nextToken_198 : decode cX7_nextToken 198 = .ok (.putfield 82, 3) := by decide +kernel
theorem dX7_nextToken_201 : decode cX7_nextToken 201 = .ok (.goto (-36), 3) := by decide +kernel
theorem dX7_nextToken_204 : decode cX7_nextToken 204 = .ok (.return_, 1) := by decide +kernel
theorem dX7_wordHere_0 : decode cX7_wordHere 0 = .ok (.iconst 0, 1) := by decide +kernel
theorem dX7_wordHere_1 : decode cX7_wordHere 1 = .ok (.istore_n 1, 1) := by decide +kernel
theorem dX7_wordHere_2 : decode cX7_wordHere 2 = .ok (.iload_n 1, 1) := by decide +kernel
theorem dX7_wordHere_3 : decode cX7_wordHere 3 = .ok (.iconst 4, 1) := by decide +kernel
theorem dX7_wordHere_4 : decode cX7_wordHere 4 = .ok (.if_icmp .gt 110, 3) := by decide +kernel
theorem dX7_wordHere_7 : decode cX7_wordHere 7 = .ok (.aload_n 0, 1) := by decide +kernel
theorem dX7_wordHere_8 : decode cX7_wordHere 8 = .ok (.getfield 82, 3) := by decide +kernel
theorem dX7_wordHere_11 : decode cX7_wordHere 11 = .ok (.aload_n 0, 1) := by decide +kernel
theorem dX7_wordHere_12 : decode cX7_wordHere 12 = .ok (.getfield 85, 3) := by decide +kernel
theorem dX7_wordHere_15 : decode cX7_wordHere 15 = .ok (.if_icmp .le 21, 3) := by decide +kernel
theorem dX7_wordHere_18 : decode cX7_wordHere 18 = .ok (.aload_n 0, 1) := by decide +kernel
theorem dX7_wordHere_19 : decode cX7_wordHere 19 = .ok (.getfield 82, 3) := by decide +kernel
theorem dX7_wordHere_22 : decode cX7_wordHere 22 = .ok (.aload_n 0, 1) := by decide +kernel
theorem dX7_wordHere_23 : decode cX7_wordHere 23 = .ok (.getfield 85, 3) := by decide +kernel
theorem dX7_wordHere_26 : decode cX7_wordHere 26 = .ok (.isub, 1) := by decide +kernel
theorem dX7_wordHere_27 : decode cX7_wordHere 27 = .ok (.bipush 6, 2) := by decide +kernel
theorem dX7_wordHere_29 : decode cX7_wordHere 29 = .ok (.if_icmp .ge 7, 3) := by decide +kernel
theorem dX7_wordHere_32 : decode cX7_wordHere 32 = .ok (.iconst 1, 1) := by decide +kernel
theorem dX7_wordHere_33 : decode cX7_wordHere 33 = .ok (.goto 4, 3) := by decide +kernel
theorem dX7_wordHere_36 : decode cX7_wordHere 36 = .ok (.iconst 0, 1) := by decide +kernel
theorem dX7_wordHere_37 : decode cX7_wordHere 37 = .ok (.istore_n 2, 1) := by decide +kernel
theorem dX7_wordHere_38 : decode cX7_wordHere 38 = .ok (.iconst 0, 1) := by decide +kernel
theorem dX7_wordHere_39 : decode cX7_wordHere 39 = .ok (.istore_n 3, 1) := by decide +kernel
theorem dX7_wordHere_40 : decode cX7_wordHere 40 = .ok (.iload_n 3, 1) := by decide +kernel
theorem dX7_wordHere_41 : decode cX7_wordHere 41 = .ok (.iconst 5, 1) := by decide +kernel
theorem dX7_wordHere_42 : decode cX7_wordHere 42 = .ok (.if_icmp .ge 60, 3) := by decide +kernel
theorem dX7_wordHere_45 : decode cX7_wordHere 45 = .ok (.iload_n 2, 1) := by decide +kernel
theorem dX7_wordHere_46 : decode cX7_wordHere 46 = .ok (.ifCond .eq 56, 3) := by decide +kernel
theorem dX7_wordHere_49 : decode cX7_wordHere 49 = .ok (.aload_n 0, 1) := by decide +kernel
theorem dX7_wordHere_50 : decode cX7_wordHere 50 = .ok (.getfield 56, 3) := by decide +kernel
theorem dX7_wordHere_53 : decode cX7_wordHere 53 = .ok (.iconst 5, 1) := by decide +kernel
theorem dX7_wordHere_54 : decode cX7_wordHere 54 = .ok (.iload_n 1, 1) := by decide +kernel
theorem dX7_wordHere_55 : decode cX7_wordHere 55 = .ok (.imul, 1) := by decide +kernel
theorem dX7_wordHere_56 : decode cX7_wordHere 56 = .ok (.iload_n 3, 1) := by decide +kernel
theorem dX7_wordHere_57 : decode cX7_wordHere 57 = .ok (.iadd, 1) := by decide +kernel
theorem dX7_wordHere_58 : decode cX7_wordHere 58 = .ok (.iaload, 1) := by decide +kernel
theorem dX7_wordHere_59 : decode cX7_wordHere 59 = .ok (.aload_n 0, 1) := by decide +kernel
theorem dX7_wordHere_60 : decode cX7_wordHere 60 = .ok (.getfield 85, 3) := by decide +kernel
theorem dX7_wordHere_63 : decode cX7_wordHere 63 = .ok (.iload_n 3, 1) := by decide +kernel
theorem dX7_wordHere_64 : decode cX7_wordHere 64 = .ok (.iadd, 1) := by decide +kernel
theorem dX7_wordHere_65 : decode cX7_wordHere 65 = .ok (.aload_n 0, 1) := by decide +kernel
theorem dX7_wordHere_66 : decode cX7_wordHere 66 = .ok (.getfield 82, 3) := by decide +kernel
theorem dX7_wordHere_69 : decode cX7_wordHere 69 = .ok (.if_icmp .ge 17, 3) := by decide +kernel
theorem dX7_wordHere_72 : decode cX7_wordHere 72 = .ok (.aload_n 0, 1) := by decide +kernel
theorem dX7_wordHere_73 : decode cX7_wordHere 73 = .ok (.getfield 32, 3) := by decide +kernel
theorem dX7_wordHere_76 : decode cX7_wordHere 76 = .ok (.aload_n 0, 1) := by decide +kernel
theorem dX7_wordHere_77 : decode cX7_wordHere 77 = .ok (.getfield 85, 3) := by decide +kernel
theorem dX7_wordHere_80 : decode cX7_wordHere 80 = .ok (.iload_n 3, 1) := by decide +kernel
theorem dX7_wordHere_81 : decode cX7_wordHere 81 = .ok (.iadd, 1) := by decide +kernel
theorem dX7_wordHere_82 : decode cX7_wordHere 82 = .ok (.iaload, 1) := by decide +kernel
theorem dX7_wordHere_83 : decode cX7_wordHere 83 = .ok (.goto 4, 3) := by decide +kernel
theorem dX7_wordHere_86 : decode cX7_wordHere 86 = .ok (.iconst 0, 1) := by decide +kernel
theorem dX7_wordHere_87 : decode cX7_wordHere 87 = .ok (.if_icmp .ne 7, 3) := by decide +kernel
theorem dX7_wordHere_90 : decode cX7_wordHere 90 = .ok (.iconst 1, 1) := by decide +kernel
theorem dX7_wordHere_91 : decode cX7_wordHere 91 = .ok (.goto 4, 3) := by decide +kernel
theorem dX7_wordHere_94 : decode cX7_wordHere 94 = .ok (.iconst 0, 1) := by decide +kernel
theorem dX7_wordHere_95 : decode cX7_wordHere 95 = .ok (.istore_n 2, 1) := by decide +kernel
theorem dX7_wordHere_96 : decode cX7_wordHere 96 = .ok (.iinc 3 1, 3) := by decide +kernel
theorem dX7_wordHere_99 : decode cX7_wordHere 99 = .ok (.goto (-59), 3) := by decide +kernel
theorem dX7_wordHere_102 : decode cX7_wordHere 102 = .ok (.iload_n 2, 1) := by decide +kernel
theorem dX7_wordHere_103 : decode cX7_wordHere 103 = .ok (.ifCond .eq 5, 3) := by decide +kernel
theorem dX7_wordHere_106 : decode cX7_wordHere 106 = .ok (.iload_n 1, 1) := by decide +kernel
theorem dX7_wordHere_107 : decode cX7_wordHere 107 = .ok (.ireturn, 1) := by decide +kernel
theorem dX7_wordHere_108 : decode cX7_wordHere 108 = .ok (.iinc 1 1, 3) := by decide +kernel
theorem dX7_wordHere_111 : decode cX7_wordHere 111 = .ok (.goto (-109), 3) := by decide +kernel
theorem dX7_wordHere_114 : decode cX7_wordHere 114 = .ok (.iconst (-1), 1) := by decide +kernel
theorem dX7_wordHere_115 : decode cX7_wordHere 115 = .ok (.ireturn, 1) := by decide +kernel
theorem dX7_number_0 : decode cX7_number 0 = .ok (.aload_n 0, 1) := by decide +kernel
theorem dX7_number_1 : decode cX7_number 1 = .ok (.getfield 85, 3) := by decide +kernel
theorem dX7_number_4 : decode cX7_number 4 = .ok (.aload_n 0, 1) := by decide +kernel
theorem dX7_number_5 : decode cX7_number 5 = .ok (.getfield 69, 3) := by decide +kernel
theorem dX7_number_8 : decode cX7_number 8 = .ok (.if_icmp .eq 31, 3) := by decide +kernel
theorem dX7_number_11 : decode cX7_number 11 = .ok (.aload_n 0, 1) := by decide +kernel
theorem dX7_number_12 : decode cX7_number 12 = .ok (.getfield 32, 3) := by decide +kernel
theorem dX7_number_15 : decode cX7_number 15 = .ok (.aload_n 0, 1) := by decide +kernel
theorem dX7_number_16 : decode cX7_number 16 = .ok (.getfield 85, 3) := by decide +kernel
theorem dX7_number_19 : decode cX7_number 19 = .ok (.iaload, 1) := by decide +kernel
theorem dX7_number_20 : decode cX7_number 20 = .ok (.invokestatic 92, 3) := by decide +kernel
theorem dX7_number_23 : decode cX7_number 23 = .ok (.ifCond .eq 16, 3) := by decide +kernel
theorem dX7_number_26 : decode cX7_number 26 = .ok (.aload_n 0, 1) := by decide +kernel
theorem dX7_number_27 : decode cX7_number 27 = .ok (.getfield 82, 3) := by decide +kernel
theorem dX7_number_30 : decode cX7_number 30 = .ok (.aload_n 0, 1) := by decide +kernel
theorem dX7_number_31 : decode cX7_number 31 = .ok (.getfield 85, 3) := by decide +kernel
theorem dX7_number_34 : decode cX7_number 34 = .ok (.isub, 1) := by decide +kernel
theorem dX7_number_35 : decode cX7_number 35 = .ok (.iconst 4, 1) := by decide +kernel
theorem dX7_number_36 : decode cX7_number 36 = .ok (.if_icmp .le 5, 3) := by decide +kernel
theorem dX7_number_39 : decode cX7_number 39 = .ok (.iconst 0, 1) := by decide +kernel
theorem dX7_number_40 : decode cX7_number 40 = .ok (.ireturn, 1) := by decide +kernel
theorem dX7_number_41 : decode cX7_number 41 = .ok (.iconst 0, 1) := by decide +kernel
theorem dX7_number_42 : decode cX7_number 42 = .ok (.istore 4, 2) := by decide +kernel
theorem dX7_number_44 : decode cX7_number 44 = .ok (.aload_n 0, 1) := by decide +kernel
theorem dX7_number_45 : decode cX7_number 45 = .ok (.getfield 85, 3) := by decide +kernel
theorem dX7_number_48 : decode cX7_number 48 = .ok (.istore 5, 2) := by decide +kernel
theorem dX7_number_50 : decode cX7_number 50 = .ok (.iload 5, 2) := by decide +kernel
theorem dX7_number_52 : decode cX7_number 52 = .ok (.aload_n 0, 1) := by decide +kernel
theorem dX7_number_53 : decode cX7_number 53 = .ok (.getfield 82, 3) := by decide +kernel
theorem dX7_number_56 : decode cX7_number 56 = .ok (.if_icmp .ge 27, 3) := by decide +kernel
theorem dX7_number_59 : decode cX7_number 59 = .ok (.bipush 10, 2) := by decide +kernel
theorem dX7_number_61 : decode cX7_number 61 = .ok (.iload 4, 2) := by decide +kernel
theorem dX7_number_63 : decode cX7_number 63 = .ok (.imul, 1) := by decide +kernel
theorem dX7_number_64 : decode cX7_number 64 = .ok (.aload_n 0, 1) := by decide +kernel
theorem dX7_number_65 : decode cX7_number 65 = .ok (.getfield 32, 3) := by decide +kernel
theorem dX7_number_68 : decode cX7_number 68 = .ok (.iload 5, 2) := by decide +kernel
theorem dX7_number_70 : decode cX7_number 70 = .ok (.iaload, 1) := by decide +kernel
theorem dX7_number_71 : decode cX7_number 71 = .ok (.iadd, 1) := by decide +kernel
theorem dX7_number_72 : decode cX7_number 72 = .ok (.bipush 48, 2) := by decide +kernel
theorem dX7_number_74 : decode cX7_number 74 = .ok (.isub, 1) := by decide +kernel
theorem dX7_number_75 : decode cX7_number 75 = .ok (.istore 4, 2) := by decide +kernel
theorem dX7_number_77 : decode cX7_number 77 = .ok (.iinc 5 1, 3) := by decide +kernel
theorem dX7_number_80 : decode cX7_number 80 = .ok (.goto (-30), 3) := by decide +kernel
theorem dX7_number_83 : decode cX7_number 83 = .ok (.iload 4, 2) := by decide +kernel
theorem dX7_number_85 : decode cX7_number 85 = .ok (.i2l, 1) := by decide +kernel
theorem dX7_number_86 : decode cX7_number 86 = .ok (.iload_n 2, 1) := by decide +kernel
theorem dX7_number_87 : decode cX7_number 87 = .ok (.i2l, 1) := by decide +kernel
theorem dX7_number_88 : decode cX7_number 88 = .ok (.iload_n 3, 1) := by decide +kernel
theorem dX7_number_89 : decode cX7_number 89 = .ok (.i2l, 1) := by decide +kernel
theorem dX7_number_90 : decode cX7_number 90 = .ok (.invokestatic 64, 3) := by decide +kernel
theorem dX7_number_93 : decode cX7_number 93 = .ok (.istore 5, 2) := by decide +kernel
theorem dX7_number_95 : decode cX7_number 95 = .ok (.iload 5, 2) := by decide +kernel
theorem dX7_number_97 : decode cX7_number 97 = .ok (.ifCond .eq 15, 3) := by decide +kernel
theorem dX7_number_100 : decode cX7_number 100 = .ok (.aload_n 0, 1) := by decide +kernel
theorem dX7_number_101 : decode cX7_number 101 = .ok (.getfield 53, 3) := by decide +kernel
theorem dX7_number_104 : decode cX7_number 104 = .ok (.iload_n 1, 1) := by decide +kernel
theorem dX7_number_105 : decode cX7_number 105 = .ok (.iload 4, 2) := by decide +kernel
theorem dX7_number_107 : decode cX7_number 107 = .ok (.iastore, 1) := by decide +kernel
theorem dX7_number_108 : decode cX7_number 108 = .ok (.aload_n 0, 1) := by decide +kernel
theorem dX7_number_109 : decode cX7_number 109 = .ok (.invokevirtual 95, 3) := by decide +kernel
theorem dX7_number_112 : decode cX7_number 112 = .ok (.iload 5, 2) := by decide +kernel
theorem dX7_number_114 : decode cX7_number 114 = .ok (.ireturn, 1) := by decide +kernel
theorem dX7_stuffHere_0 : decode cX7_stuffHere 0 = .ok (.iconst 0, 1) := by decide +kernel
theorem dX7_stuffHere_1 : decode cX7_stuffHere 1 = .ok (.istore_n 1, 1) := by decide +kernel
theorem dX7_stuffHere_2 : decode cX7_stuffHere 2 = .ok (.iload_n 1, 1) := by decide +kernel
theorem dX7_stuffHere_3 : decode cX7_stuffHere 3 = .ok (.aload_n 0, 1) := by decide +kernel
theorem dX7_stuffHere_4 : decode cX7_stuffHere 4 = .ok (.getfield 98, 3) := by decide +kernel
theorem dX7_stuffHere_7 : decode cX7_stuffHere 7 = .ok (.if_icmp .ge 92, 3) := by decide +kernel
theorem dX7_stuffHere_10 : decode cX7_stuffHere 10 = .ok (.aload_n 0, 1) := by decide +kernel
theorem dX7_stuffHere_11 : decode cX7_stuffHere 11 = .ok (.getfield 50, 3) := by decide +kernel
theorem dX7_stuffHere_14 : decode cX7_stuffHere 14 = .ok (.iload_n 1, 1) := by decide +kernel
theorem dX7_stuffHere_15 : decode cX7_stuffHere 15 = .ok (.iaload, 1) := by decide +kernel
theorem dX7_stuffHere_16 : decode cX7_stuffHere 16 = .ok (.aload_n 0, 1) := by decide +kernel
theorem dX7_stuffHere_17 : decode cX7_stuffHere 17 = .ok (.getfield 82, 3) := by decide +kernel
theorem dX7_stuffHere_20 : decode cX7_stuffHere 20 = .ok (.aload_n 0, 1) := by decide +kernel
theorem dX7_stuffHere_21 : decode cX7_stuffHere 21 = .ok (.getfield 85, 3) := by decide +kernel
theorem dX7_stuffHere_24 : decode cX7_stuffHere 24 = .ok (.isub, 1) := by decide +kernel
theorem dX7_stuffHere_25 : decode cX7_stuffHere 25 = .ok (.if_icmp .ne 7, 3) := by decide +kernel
theorem dX7_stuffHere_28 : decode cX7_stuffHere 28 = .ok (.iconst 1, 1) := by decide +kernel
theorem dX7_stuffHere_29 : decode cX7_stuffHere 29 = .ok (.goto 4, 3) := by decide +kernel
theorem dX7_stuffHere_32 : decode cX7_stuffHere 32 = .ok (.iconst 0, 1) := by decide +kernel
theorem dX7_stuffHere_33 : decode cX7_stuffHere 33 = .ok (.istore_n 2, 1) := by decide +kernel
theorem dX7_stuffHere_34 : decode cX7_stuffHere 34 = .ok (.iconst 0, 1) := by decide +kernel
theorem dX7_stuffHere_35 : decode cX7_stuffHere 35 = .ok (.istore_n 3, 1) := by decide +kernel
theorem dX7_stuffHere_36 : decode cX7_stuffHere 36 = .ok (.iload_n 3, 1) := by decide +kernel
theorem dX7_stuffHere_37 : decode cX7_stuffHere 37 = .ok (.aload_n 0, 1) := by decide +kernel
theorem dX7_stuffHere_38 : decode cX7_stuffHere 38 = .ok (.getfield 50, 3) := by decide +kernel
theorem dX7_stuffHere_41 : decode cX7_stuffHere 41 = .ok (.iload_n 1, 1) := by decide +kernel
theorem dX7_stuffHere_42 : decode cX7_stuffHere 42 = .ok (.iaload, 1) := by decide +kernel
theorem dX7_stuffHere_43 : decode cX7_stuffHere 43 = .ok (.if_icmp .ge 44, 3) := by decide +kernel
theorem dX7_stuffHere_46 : decode cX7_stuffHere 46 = .ok (.iload_n 2, 1) := by decide +kernel
theorem dX7_stuffHere_47 : decode cX7_stuffHere 47 = .ok (.ifCond .eq 40, 3) := by decide +kernel
theorem dX7_stuffHere_50 : decode cX7_stuffHere 50 = .ok (.aload_n 0, 1) := by decide +kernel
theorem dX7_stuffHere_51 : decode cX7_stuffHere 51 = .ok (.getfield 47, 3) := by decide +kernel
theorem dX7_stuffHere_54 : decode cX7_stuffHere 54 = .ok (.bipush 7, 2) := by decide +kernel
theorem dX7_stuffHere_56 : decode cX7_stuffHere 56 = .ok (.iload_n 1, 1) := by decide +kernel
theorem dX7_stuffHere_57 : decode cX7_stuffHere 57 = .ok (.imul, 1) := by decide +kernel
theorem dX7_stuffHere_58 : decode cX7_stuffHere 58 = .ok (.iload_n 3, 1) := by decide +kernel
theorem dX7_stuffHere_59 : decode cX7_stuffHere 59 = .ok (.iadd, 1) := by decide +kernel
theorem dX7_stuffHere_60 : decode cX7_stuffHere 60 = .ok (.iaload, 1) := by decide +kernel
theorem dX7_stuffHere_61 : decode cX7_stuffHere 61 = .ok (.aload_n 0, 1) := by decide +kernel
theorem dX7_stuffHere_62 : decode cX7_stuffHere 62 = .ok (.getfield 32, 3) := by decide +kernel
theorem dX7_stuffHere_65 : decode cX7_stuffHere 65 = .ok (.aload_n 0, 1) := by decide +kernel
theorem dX7_stuffHere_66 : decode cX7_stuffHere 66 = .ok (.getfield 85, 3) := by decide +kernel
theorem dX7_stuffHere_69 : decode cX7_stuffHere 69 = .ok (.iload_n 3, 1) := by decide +kernel
theorem dX7_stuffHere_70 : decode cX7_stuffHere 70 = .ok (.iadd, 1) := by decide +kernel
theorem dX7_stuffHere_71 : decode cX7_stuffHere 71 = .ok (.iaload, 1) := by decide +kernel
theorem dX7_stuffHere_72 : decode cX7_stuffHere 72 = .ok (.if_icmp .ne 7, 3) := by decide +kernel
theorem dX7_stuffHere_75 : decode cX7_stuffHere 75 = .ok (.iconst 1, 1) := by decide +kernel
theorem dX7_stuffHere_76 : decode cX7_stuffHere 76 = .ok (.goto 4, 3) := by decide +kernel
theorem dX7_stuffHere_79 : decode cX7_stuffHere 79 = .ok (.iconst 0, 1) := by decide +kernel
theorem dX7_stuffHere_80 : decode cX7_stuffHere 80 = .ok (.istore_n 2, 1) := by decide +kernel
theorem dX7_stuffHere_81 : decode cX7_stuffHere 81 = .ok (.iinc 3 1, 3) := by decide +kernel
theorem dX7_stuffHere_84 : decode cX7_stuffHere 84 = .ok (.goto (-48), 3) := by decide +kernel
theorem dX7_stuffHere_87 : decode cX7_stuffHere 87 = .ok (.iload_n 2, 1) := by decide +kernel
theorem dX7_stuffHere_88 : decode cX7_stuffHere 88 = .ok (.ifCond .eq 5, 3) := by decide +kernel
theorem dX7_stuffHere_91 : decode cX7_stuffHere 91 = .ok (.iload_n 1, 1) := by decide +kernel
theorem dX7_stuffHere_92 : decode cX7_stuffHere 92 = .ok (.ireturn, 1) := by decide +kernel
theorem dX7_stuffHere_93 : decode cX7_stuffHere 93 = .ok (.iinc 1 1, 3) := by decide +kernel
theorem dX7_stuffHere_96 : decode cX7_stuffHere 96 = .ok (.goto (-94), 3) := by decide +kernel
theorem dX7_stuffHere_99 : decode cX7_stuffHere 99 = .ok (.iconst (-1), 1) := by decide +kernel
theorem dX7_stuffHere_100 : decode cX7_stuffHere 100 = .ok (.ireturn, 1) := by decide +kernel
theorem dX7_readsNewWord_0 : decode cX7_readsNewWord 0 = .ok (.aload_n 0, 1) := by decide +kernel
theorem dX7_readsNewWord_1 : decode cX7_readsNewWord 1 = .ok (.getfield 85, 3) := by decide +kernel
theorem dX7_readsNewWord_4 : decode cX7_readsNewWord 4 = .ok (.aload_n 0, 1) := by decide +kernel
theorem dX7_readsNewWord_5 : decode cX7_readsNewWord 5 = .ok (.getfield 69, 3) := by decide +kernel
theorem dX7_readsNewWord_8 : decode cX7_readsNewWord 8 = .ok (.if_icmp .eq 40, 3) := by decide +kernel
theorem dX7_readsNewWord_11 : decode cX7_readsNewWord 11 = .ok (.aload_n 0, 1) := by decide +kernel
theorem dX7_readsNewWord_12 : decode cX7_readsNewWord 12 = .ok (.getfield 32, 3) := by decide +kernel
theorem dX7_readsNewWord_15 : decode cX7_readsNewWord 15 = .ok (.aload_n 0, 1) := by decide +kernel
theorem dX7_readsNewWord_16 : decode cX7_readsNewWord 16 = .ok (.getfield 85, 3) := by decide +kernel
theorem dX7_readsNewWord_19 : decode cX7_readsNewWord 19 = .ok (.iaload, 1) := by decide +kernel
theorem dX7_readsNewWord_20 : decode cX7_readsNewWord 20 = .ok (.invokestatic 88, 3) := by decide +kernel
theorem dX7_readsNewWord_23 : decode cX7_readsNewWord 23 = .ok (.ifCond .eq 25, 3) := by decide +kernel
theorem dX7_readsNewWord_26 : decode cX7_readsNewWord 26 = .ok (.aload_n 0, 1) := by decide +kernel
theorem dX7_readsNewWord_27 : decode cX7_readsNewWord 27 = .ok (.getfield 82, 3) := by decide +kernel
theorem dX7_readsNewWord_30 : decode cX7_readsNewWord 30 = .ok (.aload_n 0, 1) := by decide +kernel
theorem dX7_readsNewWord_31 : decode cX7_readsNewWord 31 = .ok (.getfield 85, 3) := by decide +kernel
theorem dX7_readsNewWord_34 : decode cX7_readsNewWord 34 = .ok (.isub, 1) := by decide +kernel
theorem dX7_readsNewWord_35 : decode cX7_readsNewWord 35 = .ok (.bipush 7, 2) := by decide +kernel
theorem dX7_readsNewWord_37 : decode cX7_readsNewWord 37 = .ok (.if_icmp .gt 11, 3) := by decide +kernel
theorem dX7_readsNewWord_40 : decode cX7_readsNewWord 40 = .ok (.aload_n 0, 1) := by decide +kernel
theorem dX7_readsNewWord_41 : decode cX7_readsNewWord 41 = .ok (.invokevirtual 101, 3) := by decide +kernel
theorem dX7_readsNewWord_44 : decode cX7_readsNewWord 44 = .ok (.iconst (-1), 1) := by decide +kernel
theorem dX7_readsNewWord_45 : decode cX7_readsNewWord 45 = .ok (.if_icmp .eq 5, 3) := by decide +kernel
theorem dX7_readsNewWord_48 : decode cX7_readsNewWord 48 = .ok (.iconst 0, 1) := by decide +kernel
theorem dX7_readsNewWord_49 : decode cX7_readsNewWord 49 = .ok (.ireturn, 1) := by decide +kernel
theorem dX7_readsNewWord_50 : decode cX7_readsNewWord 50 = .ok (.aload_n 0, 1) := by decide +kernel
theorem dX7_readsNewWord_51 : decode cX7_readsNewWord 51 = .ok (.getfield 50, 3) := by decide +kernel
theorem dX7_readsNewWord_54 : decode cX7_readsNewWord 54 = .ok (.aload_n 0, 1) := by decide +kernel
theorem dX7_readsNewWord_55 : decode cX7_readsNewWord 55 = .ok (.getfield 98, 3) := by decide +kernel
theorem dX7_readsNewWord_58 : decode cX7_readsNewWord 58 = .ok (.aload_n 0, 1) := by decide +kernel
theorem dX7_readsNewWord_59 : decode cX7_readsNewWord 59 = .ok (.getfield 82, 3) := by decide +kernel
theorem dX7_readsNewWord_62 : decode cX7_readsNewWord 62 = .ok (.aload_n 0, 1) := by decide +kernel
theorem dX7_readsNewWord_63 : decode cX7_readsNewWord 63 = .ok (.getfield 85, 3) := by decide +kernel
theorem dX7_readsNewWord_66 : decode cX7_readsNewWord 66 = .ok (.isub, 1) := by decide +kernel
theorem dX7_readsNewWord_67 : decode cX7_readsNewWord 67 = .ok (.iastore, 1) := by decide +kernel
theorem dX7_readsNewWord_68 : decode cX7_readsNewWord 68 = .ok (.aload_n 0, 1) := by decide +kernel
theorem dX7_readsNewWord_69 : decode cX7_readsNewWord 69 = .ok (.getfield 85, 3) := by decide +kernel
theorem dX7_readsNewWord_72 : decode cX7_readsNewWord 72 = .ok (.istore_n 1, 1) := by decide +kernel
theorem dX7_readsNewWord_73 : decode cX7_readsNewWord 73 = .ok (.iload_n 1, 1) := by decide +kernel
theorem dX7_readsNewWord_74 : decode cX7_readsNewWord 74 = .ok (.aload_n 0, 1) := by decide +kernel
theorem dX7_readsNewWord_75 : decode cX7_readsNewWord 75 = .ok (.getfield 82, 3) := by decide +kernel
theorem dX7_readsNewWord_78 : decode cX7_readsNewWord 78 = .ok (.if_icmp .ge 34, 3) := by decide +kernel
theorem dX7_readsNewWord_81 : decode cX7_readsNewWord 81 = .ok (.aload_n 0, 1) := by decide +kernel
theorem dX7_readsNewWord_82 : decode cX7_readsNewWord 82 = .ok (.getfield 47, 3) := by decide +kernel
theorem dX7_readsNewWord_85 : decode cX7_readsNewWord 85 = .ok (.bipush 7, 2) := by decide +kernel
theorem dX7_readsNewWord_87 : decode cX7_readsNewWord 87 = .ok (.aload_n 0, 1) := by decide +kernel
theorem dX7_readsNewWord_88 : decode cX7_readsNewWord 88 = .ok (.getfield 98, 3) := by decide +kernel
theorem dX7_readsNewWord_91 : decode cX7_readsNewWord 91 = .ok (.imul, 1) := by decide +kernel
theorem dX7_readsNewWord_92 : decode cX7_readsNewWord 92 = .ok (.iload_n 1, 1) := by decide +kernel
theorem dX7_readsNewWord_93 : decode cX7_readsNewWord 93 = .ok (.iadd, 1) := by decide +kernel
theorem dX7_readsNewWord_94 : decode cX7_readsNewWord 94 = .ok (.aload_n 0, 1) := by decide +kernel
theorem dX7_readsNewWord_95 : decode cX7_readsNewWord 95 = .ok (.getfield 85, 3) := by decide +kernel
theorem dX7_readsNewWord_98 : decode cX7_readsNewWord 98 = .ok (.isub, 1) := by decide +kernel
theorem dX7_readsNewWord_99 : decode cX7_readsNewWord 99 = .ok (.aload_n 0, 1) := by decide +kernel
theorem dX7_readsNewWord_100 : decode cX7_readsNewWord 100 = .ok (.getfield 32, 3) := by decide +kernel
theorem dX7_readsNewWord_103 : decode cX7_readsNewWord 103 = .ok (.iload_n 1, 1) := by decide +kernel
theorem dX7_readsNewWord_104 : decode cX7_readsNewWord 104 = .ok (.iaload, 1) := by decide +kernel
theorem dX7_readsNewWord_105 : decode cX7_readsNewWord 105 = .ok (.iastore, 1) := by decide +kernel
theorem dX7_readsNewWord_106 : decode cX7_readsNewWord 106 = .ok (.iinc 1 1, 3) := by decide +kernel
theorem dX7_readsNewWord_109 : decode cX7_readsNewWord 109 = .ok (.goto (-36), 3) := by decide +kernel
theorem dX7_readsNewWord_112 : decode cX7_readsNewWord 112 = .ok (.aload_n 0, 1) := by decide +kernel
theorem dX7_readsNewWord_113 : decode cX7_readsNewWord 113 = .ok (.invokevirtual 95, 3) := by decide +kernel
theorem dX7_readsNewWord_116 : decode cX7_readsNewWord 116 = .ok (.iconst 1, 1) := by decide +kernel
theorem dX7_readsNewWord_117 : decode cX7_readsNewWord 117 = .ok (.ireturn, 1) := by decide +kernel
theorem dX7_readsTold_0 : decode cX7_readsTold 0 = .ok (.aload_n 0, 1) := by decide +kernel
theorem dX7_readsTold_1 : decode cX7_readsTold 1 = .ok (.getfield 85, 3) := by decide +kernel
theorem dX7_readsTold_4 : decode cX7_readsTold 4 = .ok (.aload_n 0, 1) := by decide +kernel
theorem dX7_readsTold_5 : decode cX7_readsTold 5 = .ok (.getfield 69, 3) := by decide +kernel
theorem dX7_readsTold_8 : decode cX7_readsTold 8 = .ok (.if_icmp .ne 7, 3) := by decide +kernel
theorem dX7_readsTold_11 : decode cX7_readsTold 11 = .ok (.iconst (-1), 1) := by decide +kernel
theorem dX7_readsTold_12 : decode cX7_readsTold 12 = .ok (.goto 7, 3) := by decide +kernel
theorem dX7_readsTold_15 : decode cX7_readsTold 15 = .ok (.aload_n 0, 1) := by decide +kernel
theorem dX7_readsTold_16 : decode cX7_readsTold 16 = .ok (.invokevirtual 101, 3) := by decide +kernel
theorem dX7_readsTold_19 : decode cX7_readsTold 19 = .ok (.istore_n 1, 1) := by decide +kernel
theorem dX7_readsTold_20 : decode cX7_readsTold 20 = .ok (.iload_n 1, 1) := by decide +kernel
theorem dX7_readsTold_21 : decode cX7_readsTold 21 = .ok (.iconst (-1), 1) := by decide +kernel
theorem dX7_readsTold_22 : decode cX7_readsTold 22 = .ok (.if_icmp .eq 14, 3) := by decide +kernel
theorem dX7_readsTold_25 : decode cX7_readsTold 25 = .ok (.aload_n 0, 1) := by decide +kernel
theorem dX7_readsTold_26 : decode cX7_readsTold 26 = .ok (.getfield 53, 3) := by decide +kernel
theorem dX7_readsTold_29 : decode cX7_readsTold 29 = .ok (.iconst 0, 1) := by decide +kernel
theorem dX7_readsTold_30 : decode cX7_readsTold 30 = .ok (.iload_n 1, 1) := by decide +kernel
theorem dX7_readsTold_31 : decode cX7_readsTold 31 = .ok (.iastore, 1) := by decide +kernel
theorem dX7_readsTold_32 : decode cX7_readsTold 32 = .ok (.aload_n 0, 1) := by decide +kernel
theorem dX7_readsTold_33 : decode cX7_readsTold 33 = .ok (.invokevirtual 95, 3) := by decide +kernel
theorem dX7_readsTold_36 : decode cX7_readsTold 36 = .ok (.iload_n 1, 1) := by decide +kernel
theorem dX7_readsTold_37 : decode cX7_readsTold 37 = .ok (.iconst (-1), 1) := by decide +kernel
theorem dX7_readsTold_38 : decode cX7_readsTold 38 = .ok (.if_icmp .eq 7, 3) := by decide +kernel
theorem dX7_readsTold_41 : decode cX7_readsTold 41 = .ok (.iconst 1, 1) := by decide +kernel
theorem dX7_readsTold_42 : decode cX7_readsTold 42 = .ok (.goto 4, 3) := by decide +kernel
theorem dX7_readsTold_45 : decode cX7_readsTold 45 = .ok (.iconst 0, 1) := by decide +kernel
theorem dX7_readsTold_46 : decode cX7_readsTold 46 = .ok (.ireturn, 1) := by decide +kernel
theorem dX7_lesser_0 : decode cX7_lesser 0 = .ok (.iload_n 0, 1) := by decide +kernel
theorem dX7_lesser_1 : decode cX7_lesser 1 = .ok (.iload_n 1, 1) := by decide +kernel
theorem dX7_lesser_2 : decode cX7_lesser 2 = .ok (.if_icmp .ge 7, 3) := by decide +kernel
theorem dX7_lesser_5 : decode cX7_lesser 5 = .ok (.iload_n 0, 1) := by decide +kernel
theorem dX7_lesser_6 : decode cX7_lesser 6 = .ok (.goto 4, 3) := by decide +kernel
theorem dX7_lesser_9 : decode cX7_lesser 9 = .ok (.iload_n 1, 1) := by decide +kernel
theorem dX7_lesser_10 : decode cX7_lesser 10 = .ok (.ireturn, 1) := by decide +kernel
theorem dX7_readsRest_0 : decode cX7_readsRest 0 = .ok (.iload_n 1, 1) := by decide +kernel
theorem dX7_readsRest_1 : decode cX7_readsRest 1 = .ok (.tableswitch 140 0 3 #[31, 41, 76, 110], 31) := by decide +kernel
theorem dX7_readsRest_32 : decode cX7_readsRest 32 = .ok (.aload_n 0, 1) := by decide +kernel
theorem dX7_readsRest_33 : decode cX7_readsRest 33 = .ok (.iconst 0, 1) := by decide +kernel
theorem dX7_readsRest_34 : decode cX7_readsRest 34 = .ok (.iconst 1, 1) := by decide +kernel
theorem dX7_readsRest_35 : decode cX7_readsRest 35 = .ok (.sipush 999, 3) := by decide +kernel
theorem dX7_readsRest_38 : decode cX7_readsRest 38 = .ok (.invokevirtual 105, 3) := by decide +kernel
theorem dX7_readsRest_41 : decode cX7_readsRest 41 = .ok (.ireturn, 1) := by decide +kernel
theorem dX7_readsRest_42 : decode cX7_readsRest 42 = .ok (.aload_n 0, 1) := by decide +kernel
theorem dX7_readsRest_43 : decode cX7_readsRest 43 = .ok (.invokevirtual 109, 3) := by decide +kernel
theorem dX7_readsRest_46 : decode cX7_readsRest 46 = .ok (.ifCond .eq 29, 3) := by decide +kernel
theorem dX7_readsRest_49 : decode cX7_readsRest 49 = .ok (.aload_n 0, 1) := by decide +kernel
theorem dX7_readsRest_50 : decode cX7_readsRest 50 = .ok (.iconst 0, 1) := by decide +kernel
theorem dX7_readsRest_51 : decode cX7_readsRest 51 = .ok (.iconst 1, 1) := by decide +kernel
theorem dX7_readsRest_52 : decode cX7_readsRest 52 = .ok (.bipush 20, 2) := by decide +kernel
theorem dX7_readsRest_54 : decode cX7_readsRest 54 = .ok (.invokevirtual 105, 3) := by decide +kernel
theorem dX7_readsRest_57 : decode cX7_readsRest 57 = .ok (.ifCond .eq 18, 3) := by decide +kernel
theorem dX7_readsRest_60 : decode cX7_readsRest 60 = .ok (.aload_n 0, 1) := by decide +kernel
theorem dX7_readsRest_61 : decode cX7_readsRest 61 = .ok (.iconst 1, 1) := by decide +kernel
theorem dX7_readsRest_62 : decode cX7_readsRest 62 = .ok (.iconst 1, 1) := by decide +kernel
theorem dX7_readsRest_63 : decode cX7_readsRest 63 = .ok (.bipush 20, 2) := by decide +kernel
theorem dX7_readsRest_65 : decode cX7_readsRest 65 = .ok (.invokevirtual 105, 3) := by decide +kernel
theorem dX7_readsRest_68 : decode cX7_readsRest 68 = .ok (.ifCond .eq 7, 3) := by decide +kernel
theorem dX7_readsRest_71 : decode cX7_readsRest 71 = .ok (.iconst 1, 1) := by decide +kernel
theorem dX7_readsRest_72 : decode cX7_readsRest 72 = .ok (.goto 4, 3) := by decide +kernel
theorem dX7_readsRest_75 : decode cX7_readsRest 75 = .ok (.iconst 0, 1) := by decide +kernel
theorem dX7_readsRest_76 : decode cX7_readsRest 76 = .ok (.ireturn, 1) := by decide +kernel
theorem dX7_readsRest_77 : decode cX7_readsRest 77 = .ok (.aload_n 0, 1) := by decide +kernel
theorem dX7_readsRest_78 : decode cX7_readsRest 78 = .ok (.invokevirtual 113, 3) := by decide +kernel
theorem dX7_readsRest_81 : decode cX7_readsRest 81 = .ok (.ifCond .eq 28, 3) := by decide +kernel
theorem dX7_readsRest_84 : decode cX7_readsRest 84 = .ok (.aload_n 0, 1) := by decide +kernel
theorem dX7_readsRest_85 : decode cX7_readsRest 85 = .ok (.iconst 1, 1) := by decide +kernel
theorem dX7_readsRest_86 : decode cX7_readsRest 86 = .ok (.iconst 1, 1) := by decide +kernel
theorem dX7_readsRest_87 : decode cX7_readsRest 87 = .ok (.bipush 9, 2) := by decide +kernel
theorem dX7_readsRest_89 : decode cX7_readsRest 89 = .ok (.bipush 10, 2) := by decide +kernel
theorem dX7_readsRest_91 : decode cX7_readsRest 91 = .ok (.aload_n 0, 1) := by decide +kernel
theorem dX7_readsRest_92 : decode cX7_readsRest 92 = .ok (.getfield 116, 3) := by decide +kernel
theorem dX7_readsRest_95 : decode cX7_readsRest 95 = .ok (.isub, 1) := by decide +kernel
theorem dX7_readsRest_96 : decode cX7_readsRest 96 = .ok (.invokestatic 119, 3) := by decide +kernel
theorem dX7_readsRest_99 : decode cX7_readsRest 99 = .ok (.invokevirtual 105, 3) := by decide +kernel
theorem dX7_readsRest_102 : decode cX7_readsRest 102 = .ok (.ifCond .eq 7, 3) := by decide +kernel
theorem dX7_readsRest_105 : decode cX7_readsRest 105 = .ok (.iconst 1, 1) := by decide +kernel
theorem dX7_readsRest_106 : decode cX7_readsRest 106 = .ok (.goto 4, 3) := by decide +kernel
theorem dX7_readsRest_109 : decode cX7_readsRest 109 = .ok (.iconst 0, 1) := by decide +kernel
theorem dX7_readsRest_110 : decode cX7_readsRest 110 = .ok (.ireturn, 1) := by decide +kernel
theorem dX7_readsRest_111 : decode cX7_readsRest 111 = .ok (.aload_n 0, 1) := by decide +kernel
theorem dX7_readsRest_112 : decode cX7_readsRest 112 = .ok (.iconst 0, 1) := by decide +kernel
theorem dX7_readsRest_113 : decode cX7_readsRest 113 = .ok (.iconst 0, 1) := by decide +kernel
theorem dX7_readsRest_114 : decode cX7_readsRest 114 = .ok (.sipush 999, 3) := by decide +kernel
theorem dX7_readsRest_117 : decode cX7_readsRest 117 = .ok (.invokevirtual 105, 3) := by decide +kernel
theorem dX7_readsRest_120 : decode cX7_readsRest 120 = .ok (.ifCond .eq 19, 3) := by decide +kernel
theorem dX7_readsRest_123 : decode cX7_readsRest 123 = .ok (.aload_n 0, 1) := by decide +kernel
theorem dX7_readsRest_124 : decode cX7_readsRest 124 = .ok (.iconst 1, 1) := by decide +kernel
theorem dX7_readsRest_125 : decode cX7_readsRest 125 = .ok (.iconst 0, 1) := by decide +kernel
theorem dX7_readsRest_126 : decode cX7_readsRest 126 = .ok (.sipush 999, 3) := by decide +kernel
theorem dX7_readsRest_129 : decode cX7_readsRest 129 = .ok (.invokevirtual 105, 3) := by decide +kernel
theorem dX7_readsRest_132 : decode cX7_readsRest 132 = .ok (.ifCond .eq 7, 3) := by decide +kernel
theorem dX7_readsRest_135 : decode cX7_readsRest 135 = .ok (.iconst 1, 1) := by decide +kernel
theorem dX7_readsRest_136 : decode cX7_readsRest 136 = .ok (.goto 4, 3) := by decide +kernel
theorem dX7_readsRest_139 : decode cX7_readsRest 139 = .ok (.iconst 0, 1) := by decide +kernel
theorem dX7_readsRest_140 : decode cX7_readsRest 140 = .ok (.ireturn, 1) := by decide +kernel
theorem dX7_readsRest_141 : decode cX7_readsRest 141 = .ok (.aload_n 0, 1) := by decide +kernel
theorem dX7_readsRest_142 : decode cX7_readsRest 142 = .ok (.iconst 0, 1) := by decide +kernel
theorem dX7_readsRest_143 : decode cX7_readsRest 143 = .ok (.iconst 0, 1) := by decide +kernel
theorem dX7_readsRest_144 : decode cX7_readsRest 144 = .ok (.aload_n 0, 1) := by decide +kernel
theorem dX7_readsRest_145 : decode cX7_readsRest 145 = .ok (.getfield 116, 3) := by decide +kernel
theorem dX7_readsRest_148 : decode cX7_readsRest 148 = .ok (.iconst 1, 1) := by decide +kernel
theorem dX7_readsRest_149 : decode cX7_readsRest 149 = .ok (.isub, 1) := by decide +kernel
theorem dX7_readsRest_150 : decode cX7_readsRest 150 = .ok (.invokevirtual 105, 3) := by decide +kernel
theorem dX7_readsRest_153 : decode cX7_readsRest 153 = .ok (.ifCond .eq 19, 3) := by decide +kernel
theorem dX7_readsRest_156 : decode cX7_readsRest 156 = .ok (.aload_n 0, 1) := by decide +kernel
theorem dX7_readsRest_157 : decode cX7_readsRest 157 = .ok (.iconst 1, 1) := by decide +kernel
theorem dX7_readsRest_158 : decode cX7_readsRest 158 = .ok (.iconst 0, 1) := by decide +kernel
theorem dX7_readsRest_159 : decode cX7_readsRest 159 = .ok (.sipush 9999, 3) := by decide +kernel
theorem dX7_readsRest_162 : decode cX7_readsRest 162 = .ok (.invokevirtual 105, 3) := by decide +kernel
theorem dX7_readsRest_165 : decode cX7_readsRest 165 = .ok (.ifCond .eq 7, 3) := by decide +kernel
theorem dX7_readsRest_168 : decode cX7_readsRest 168 = .ok (.iconst 1, 1) := by decide +kernel
theorem dX7_readsRest_169 : decode cX7_readsRest 169 = .ok (.goto 4, 3) := by decide +kernel
theorem dX7_readsRest_172 : decode cX7_readsRest 172 = .ok (.iconst 0, 1) := by decide +kernel
theorem dX7_readsRest_173 : decode cX7_readsRest 173 = .ok (.ireturn, 1) := by decide +kernel
theorem dX7_does_0 : decode cX7_does 0 = .ok (.iload_n 1, 1) := by decide +kernel
theorem dX7_does_1 : decode cX7_does 1 = .ok (.tableswitch 261 0 3 #[31, 73, 174, 232], 31) := by decide +kernel
theorem dX7_does_32 : decode cX7_does 32 = .ok (.aload_n 0, 1) := by decide +kernel
theorem dX7_does_33 : decode cX7_does 33 = .ok (.iconst 0, 1) := by decide +kernel
theorem dX7_does_34 : decode cX7_does 34 = .ok (.putfield 123, 3) := by decide +kernel
theorem dX7_does_37 : decode cX7_does 37 = .ok (.aload_n 0, 1) := by decide +kernel
theorem dX7_does_38 : decode cX7_does 38 = .ok (.iconst 0, 1) := by decide +kernel
theorem dX7_does_39 : decode cX7_does 39 = .ok (.putfield 126, 3) := by decide +kernel
theorem dX7_does_42 : decode cX7_does 42 = .ok (.aload_n 0, 1) := by decide +kernel
theorem dX7_does_43 : decode cX7_does 43 = .ok (.getfield 7, 3) := by decide +kernel
theorem dX7_does_46 : decode cX7_does 46 = .ok (.bipush 10, 2) := by decide +kernel
theorem dX7_does_48 : decode cX7_does 48 = .ok (.iconst 0, 1) := by decide +kernel
theorem dX7_does_49 : decode cX7_does 49 = .ok (.iastore, 1) := by decide +kernel
theorem dX7_does_50 : decode cX7_does 50 = .ok (.aload_n 0, 1) := by decide +kernel
theorem dX7_does_51 : decode cX7_does 51 = .ok (.getfield 7, 3) := by decide +kernel
theorem dX7_does_54 : decode cX7_does 54 = .ok (.bipush 11, 2) := by decide +kernel
theorem dX7_does_56 : decode cX7_does 56 = .ok (.iconst 0, 1) := by decide +kernel
theorem dX7_does_57 : decode cX7_does 57 = .ok (.iastore, 1) := by decide +kernel
theorem dX7_does_58 : decode cX7_does 58 = .ok (.aload_n 0, 1) := by decide +kernel
theorem dX7_does_59 : decode cX7_does 59 = .ok (.getfield 7, 3) := by decide +kernel
theorem dX7_does_62 : decode cX7_does 62 = .ok (.bipush 12, 2) := by decide +kernel
theorem dX7_does_64 : decode cX7_does 64 = .ok (.aload_n 0, 1) := by decide +kernel
theorem dX7_does_65 : decode cX7_does 65 = .ok (.getfield 53, 3) := by decide +kernel
theorem dX7_does_68 : decode cX7_does 68 = .ok (.iconst 0, 1) := by decide +kernel
theorem dX7_does_69 : decode cX7_does 69 = .ok (.iaload, 1) := by decide +kernel
theorem dX7_does_70 : decode cX7_does 70 = .ok (.iastore, 1) := by decide +kernel
theorem dX7_does_71 : decode cX7_does 71 = .ok (.goto 210, 3) := by decide +kernel
theorem dX7_does_74 : decode cX7_does 74 = .ok (.aload_n 0, 1) := by decide +kernel
theorem dX7_does_75 : decode cX7_does 75 = .ok (.getfield 13, 3) := by decide +kernel
theorem dX7_does_78 : decode cX7_does 78 = .ok (.aload_n 0, 1) := by decide +kernel
theorem dX7_does_79 : decode cX7_does 79 = .ok (.getfield 123, 3) := by decide +kernel
theorem dX7_does_82 : decode cX7_does 82 = .ok (.aload_n 0, 1) := by decide +kernel
theorem dX7_does_83 : decode cX7_does 83 = .ok (.getfield 53, 3) := by decide +kernel
theorem dX7_does_86 : decode cX7_does 86 = .ok (.iconst 0, 1) := by decide +kernel
theorem dX7_does_87 : decode cX7_does 87 = .ok (.iaload, 1) := by decide +kernel
theorem dX7_does_88 : decode cX7_does 88 = .ok (.iastore, 1) := by decide +kernel
theorem dX7_does_89 : decode cX7_does 89 = .ok (.aload_n 0, 1) := by decide +kernel
theorem dX7_does_90 : decode cX7_does 90 = .ok (.getfield 16, 3) := by decide +kernel
theorem dX7_does_93 : decode cX7_does 93 = .ok (.aload_n 0, 1) := by decide +kernel
theorem dX7_does_94 : decode cX7_does 94 = .ok (.getfield 123, 3) := by decide +kernel
theorem dX7_does_97 : decode cX7_does 97 = .ok (.aload_n 0, 1) := by decide +kernel
theorem dX7_does_98 : decode cX7_does 98 = .ok (.getfield 53, 3) := by decide +kernel
theorem dX7_does_101 : decode cX7_does 101 = .ok (.iconst 1, 1) := by decide +kernel
theorem dX7_does_102 : decode cX7_does 102 = .ok (.iaload, 1) := by decide +kernel
theorem dX7_does_103 : decode cX7_does 103 = .ok (.iastore, 1) := by decide +kernel
theorem dX7_does_104 : decode cX7_does 104 = .ok (.aload_n 0, 1) := by decide +kernel
theorem dX7_does_105 : decode cX7_does 105 = .ok (.getfield 22, 3) := by decide +kernel
theorem dX7_does_108 : decode cX7_does 108 = .ok (.aload_n 0, 1) := by decide +kernel
theorem dX7_does_109 : decode cX7_does 109 = .ok (.getfield 123, 3) := by decide +kernel
theorem dX7_does_112 : decode cX7_does 112 = .ok (.aload_n 0, 1) := by decide +kernel
theorem dX7_does_113 : decode cX7_does 113 = .ok (.getfield 50, 3) := by decide +kernel
theorem dX7_does_116 : decode cX7_does 116 = .ok (.aload_n 0, 1) := by decide +kernel
theorem dX7_does_117 : decode cX7_does 117 = .ok (.getfield 123, 3) := by decide +kernel
theorem dX7_does_120 : decode cX7_does 120 = .ok (.iaload, 1) := by decide +kernel
theorem dX7_does_121 : decode cX7_does 121 = .ok (.iastore, 1) := by decide +kernel
theorem dX7_does_122 : decode cX7_does 122 = .ok (.bipush 7, 2) := by decide +kernel
theorem dX7_does_124 : decode cX7_does 124 = .ok (.aload_n 0, 1) := by decide +kernel
theorem dX7_does_125 : decode cX7_does 125 = .ok (.getfield 123, 3) := by decide +kernel
theorem dX7_does_128 : decode cX7_does 128 = .ok (.imul, 1) := by decide +kernel
theorem dX7_does_129 : decode cX7_does 129 = .ok (.istore_n 2, 1) := by decide +kernel
theorem dX7_does_130 : decode cX7_does 130 = .ok (.iload_n 2, 1) := by decide +kernel
theorem dX7_does_131 : decode cX7_does 131 = .ok (.bipush 7, 2) := by decide +kernel
theorem dX7_does_133 : decode cX7_does 133 = .ok (.aload_n 0, 1) := by decide +kernel
theorem dX7_does_134 : decode cX7_does 134 = .ok (.getfield 123, 3) := by decide +kernel
theorem dX7_does_137 : decode cX7_does 137 = .ok (.imul, 1) := by decide +kernel
theorem dX7_does_138 : decode cX7_does 138 = .ok (.bipush 7, 2) := by decide +kernel
theorem dX7_does_140 : decode cX7_does 140 = .ok (.iadd, 1) := by decide +kernel
theorem dX7_does_141 : decode cX7_does 141 = .ok (.if_icmp .ge 21, 3) := by decide +kernel
theorem dX7_does_144 : decode cX7_does 144 = .ok (.aload_n 0, 1) := by decide +kernel
theorem dX7_does_145 : decode cX7_does 145 = .ok (.getfield 19, 3) := by decide +kernel
theorem dX7_does_148 : decode cX7_does 148 = .ok (.iload_n 2, 1) := by decide +kernel
theorem dX7_does_149 : decode cX7_does 149 = .ok (.aload_n 0, 1) := by decide +kernel
theorem dX7_does_150 : decode cX7_does 150 = .ok (.getfield 47, 3) := by decide +kernel
theorem dX7_does_153 : decode cX7_does 153 = .ok (.iload_n 2, 1) := by decide +kernel
theorem dX7_does_154 : decode cX7_does 154 = .ok (.iaload, 1) := by decide +kernel
theorem dX7_does_155 : decode cX7_does 155 = .ok (.iastore, 1) := by decide +kernel
theorem dX7_does_156 : decode cX7_does 156 = .ok (.iinc 2 1, 3) := by decide +kernel
theorem dX7_does_159 : decode cX7_does 159 = .ok (.goto (-29), 3) := by decide +kernel
theorem dX7_does_162 : decode cX7_does 162 = .ok (.aload_n 0, 1) := by decide +kernel
theorem dX7_does_163 : decode cX7_does 163 = .ok (.dup, 1) := by decide +kernel
theorem dX7_does_164 : decode cX7_does 164 = .ok (.getfield 123, 3) := by decide +kernel
theorem dX7_does_167 : decode cX7_does 167 = .ok (.iconst 1, 1) := by decide +kernel
theorem dX7_does_168 : decode cX7_does 168 = .ok (.iadd, 1) := by decide +kernel
theorem dX7_does_169 : decode cX7_does 169 = .ok (.putfield 123, 3) := by decide +kernel
theorem dX7_does_172 : decode cX7_does 172 = .ok (.goto 109, 3) := by decide +kernel
theorem dX7_does_175 : decode cX7_does 175 = .ok (.iconst 0, 1) := by decide +kernel
theorem dX7_does_176 : decode cX7_does 176 = .ok (.istore_n 2, 1) := by decide +kernel
theorem dX7_does_177 : decode cX7_does 177 = .ok (.iload_n 2, 1) := by decide +kernel
theorem dX7_does_178 : decode cX7_does 178 = .ok (.aload_n 0, 1) := by decide +kernel
theorem dX7_does_179 : decode cX7_does 179 = .ok (.getfield 53, 3) := by decide +kernel
theorem dX7_does_182 : decode cX7_does 182 = .ok (.iconst 1, 1) := by decide +kernel
theorem dX7_does_183 : decode cX7_does 183 = .ok (.iaload, 1) := by decide +kernel
theorem dX7_does_184 : decode cX7_does 184 = .ok (.if_icmp .ge 46, 3) := by decide +kernel
theorem dX7_does_187 : decode cX7_does 187 = .ok (.aload_n 0, 1) := by decide +kernel
theorem dX7_does_188 : decode cX7_does 188 = .ok (.getfield 25, 3) := by decide +kernel
theorem dX7_does_191 : decode cX7_does 191 = .ok (.aload_n 0, 1) := by decide +kernel
theorem dX7_does_192 : decode cX7_does 192 = .ok (.getfield 126, 3) := by decide +kernel
theorem dX7_does_195 : decode cX7_does 195 = .ok (.aload_n 0, 1) := by decide +kernel
theorem dX7_does_196 : decode cX7_does 196 = .ok (.getfield 53, 3) := by decide +kernel
theorem dX7_does_199 : decode cX7_does 199 = .ok (.iconst 0, 1) := by decide +kernel
theorem dX7_does_200 : decode cX7_does 200 = .ok (.iaload, 1) := by decide +kernel
theorem dX7_does_201 : decode cX7_does 201 = .ok (.iastore, 1) := by decide +kernel
theorem dX7_does_202 : decode cX7_does 202 = .ok (.aload_n 0, 1) := by decide +kernel
theorem dX7_does_203 : decode cX7_does 203 = .ok (.getfield 7, 3) := by decide +kernel
theorem dX7_does_206 : decode cX7_does 206 = .ok (.iconst 0, 1) := by decide +kernel
theorem dX7_does_207 : decode cX7_does 207 = .ok (.aload_n 0, 1) := by decide +kernel
theorem dX7_does_208 : decode cX7_does 208 = .ok (.getfield 126, 3) := by decide +kernel
theorem dX7_does_211 : decode cX7_does 211 = .ok (.iadd, 1) := by decide +kernel
theorem dX7_does_212 : decode cX7_does 212 = .ok (.iconst 0, 1) := by decide +kernel
theorem dX7_does_213 : decode cX7_does 213 = .ok (.iastore, 1) := by decide +kernel
theorem dX7_does_214 : decode cX7_does 214 = .ok (.aload_n 0, 1) := by decide +kernel
theorem dX7_does_215 : decode cX7_does 215 = .ok (.dup, 1) := by decide +kernel
theorem dX7_does_216 : decode cX7_does 216 = .ok (.getfield 126, 3) := by decide +kernel
theorem dX7_does_219 : decode cX7_does 219 = .ok (.iconst 1, 1) := by decide +kernel
theorem dX7_does_220 : decode cX7_does 220 = .ok (.iadd, 1) := by decide +kernel
theorem dX7_does_221 : decode cX7_does 221 = .ok (.putfield 126, 3) := by decide +kernel
theorem dX7_does_224 : decode cX7_does 224 = .ok (.iinc 2 1, 3) := by decide +kernel
theorem dX7_does_227 : decode cX7_does 227 = .ok (.goto (-50), 3) := by decide +kernel
theorem dX7_does_230 : decode cX7_does 230 = .ok (.goto 51, 3) := by decide +kernel
theorem dX7_does_233 : decode cX7_does 233 = .ok (.aload_n 0, 1) := by decide +kernel
theorem dX7_does_234 : decode cX7_does 234 = .ok (.getfield 7, 3) := by decide +kernel
theorem dX7_does_237 : decode cX7_does 237 = .ok (.bipush 10, 2) := by decide +kernel
theorem dX7_does_239 : decode cX7_does 239 = .ok (.aload_n 0, 1) := by decide +kernel
theorem dX7_does_240 : decode cX7_does 240 = .ok (.getfield 53, 3) := by decide +kernel
theorem dX7_does_243 : decode cX7_does 243 = .ok (.iconst 0, 1) := by decide +kernel
theorem dX7_does_244 : decode cX7_does 244 = .ok (.iaload, 1) := by decide +kernel
theorem dX7_does_245 : decode cX7_does 245 = .ok (.iastore, 1) := by decide +kernel
theorem dX7_does_246 : decode cX7_does 246 = .ok (.aload_n 0, 1) := by decide +kernel
theorem dX7_does_247 : decode cX7_does 247 = .ok (.getfield 7, 3) := by decide +kernel
theorem dX7_does_250 : decode cX7_does 250 = .ok (.bipush 11, 2) := by decide +kernel
theorem dX7_does_252 : decode cX7_does 252 = .ok (.aload_n 0, 1) := by decide +kernel
theorem dX7_does_253 : decode cX7_does 253 = .ok (.getfield 53, 3) := by decide +kernel
theorem dX7_does_256 : decode cX7_does 256 = .ok (.iconst 1, 1) := by decide +kernel
theorem dX7_does_257 : decode cX7_does 257 = .ok (.iaload, 1) := by decide +kernel
theorem dX7_does_258 : decode cX7_does 258 = .ok (.iastore, 1) := by decide +kernel
theorem dX7_does_259 : decode cX7_does 259 = .ok (.goto 22, 3) := by decide +kernel
theorem dX7_does_262 : decode cX7_does 262 = .ok (.aload_n 0, 1) := by decide +kernel
theorem dX7_does_263 : decode cX7_does 263 = .ok (.getfield 7, 3) := by decide +kernel
theorem dX7_does_266 : decode cX7_does 266 = .ok (.iconst 0, 1) := by decide +kernel
theorem dX7_does_267 : decode cX7_does 267 = .ok (.aload_n 0, 1) := by decide +kernel
theorem dX7_does_268 : decode cX7_does 268 = .ok (.getfield 53, 3) := by decide +kernel
theorem dX7_does_271 : decode cX7_does 271 = .ok (.iconst 0, 1) := by decide +kernel
theorem dX7_does_272 : decode cX7_does 272 = .ok (.iaload, 1) := by decide +kernel
theorem dX7_does_273 : decode cX7_does 273 = .ok (.iadd, 1) := by decide +kernel
theorem dX7_does_274 : decode cX7_does 274 = .ok (.aload_n 0, 1) := by decide +kernel
theorem dX7_does_275 : decode cX7_does 275 = .ok (.getfield 53, 3) := by decide +kernel
theorem dX7_does_278 : decode cX7_does 278 = .ok (.iconst 1, 1) := by decide +kernel
theorem dX7_does_279 : decode cX7_does 279 = .ok (.iaload, 1) := by decide +kernel
theorem dX7_does_280 : decode cX7_does 280 = .ok (.iastore, 1) := by decide +kernel
theorem dX7_does_281 : decode cX7_does 281 = .ok (.return_, 1) := by decide +kernel
theorem dX7_readsClause_0 : decode cX7_readsClause 0 = .ok (.aload_n 0, 1) := by decide +kernel
theorem dX7_readsClause_1 : decode cX7_readsClause 1 = .ok (.invokevirtual 129, 3) := by decide +kernel
theorem dX7_readsClause_4 : decode cX7_readsClause 4 = .ok (.istore_n 1, 1) := by decide +kernel
theorem dX7_readsClause_5 : decode cX7_readsClause 5 = .ok (.iload_n 1, 1) := by decide +kernel
theorem dX7_readsClause_6 : decode cX7_readsClause 6 = .ok (.iconst (-1), 1) := by decide +kernel
theorem dX7_readsClause_7 : decode cX7_readsClause 7 = .ok (.if_icmp .eq 17, 3) := by decide +kernel
theorem dX7_readsClause_10 : decode cX7_readsClause 10 = .ok (.iload_n 1, 1) := by decide +kernel
theorem dX7_readsClause_11 : decode cX7_readsClause 11 = .ok (.iconst 1, 1) := by decide +kernel
theorem dX7_readsClause_12 : decode cX7_readsClause 12 = .ok (.if_icmp .ne 14, 3) := by decide +kernel
theorem dX7_readsClause_15 : decode cX7_readsClause 15 = .ok (.aload_n 0, 1) := by decide +kernel
theorem dX7_readsClause_16 : decode cX7_readsClause 16 = .ok (.getfield 98, 3) := by decide +kernel
theorem dX7_readsClause_19 : decode cX7_readsClause 19 = .ok (.bipush 6, 2) := by decide +kernel
theorem dX7_readsClause_21 : decode cX7_readsClause 21 = .ok (.if_icmp .ne 5, 3) := by decide +kernel
theorem dX7_readsClause_24 : decode cX7_readsClause 24 = .ok (.iconst 0, 1) := by decide +kernel
theorem dX7_readsClause_25 : decode cX7_readsClause 25 = .ok (.ireturn, 1) := by decide +kernel
theorem dX7_readsClause_26 : decode cX7_readsClause 26 = .ok (.aload_n 0, 1) := by decide +kernel
theorem dX7_readsClause_27 : decode cX7_readsClause 27 = .ok (.invokevirtual 95, 3) := by decide +kernel
theorem dX7_readsClause_30 : decode cX7_readsClause 30 = .ok (.aload_n 0, 1) := by decide +kernel
theorem dX7_readsClause_31 : decode cX7_readsClause 31 = .ok (.iload_n 1, 1) := by decide +kernel
theorem dX7_readsClause_32 : decode cX7_readsClause 32 = .ok (.invokevirtual 132, 3) := by decide +kernel
theorem dX7_readsClause_35 : decode cX7_readsClause 35 = .ok (.ifCond .ne 5, 3) := by decide +kernel
theorem dX7_readsClause_38 : decode cX7_readsClause 38 = .ok (.iconst 0, 1) := by decide +kernel
theorem dX7_readsClause_39 : decode cX7_readsClause 39 = .ok (.ireturn, 1) := by decide +kernel
theorem dX7_readsClause_40 : decode cX7_readsClause 40 = .ok (.aload_n 0, 1) := by decide +kernel
theorem dX7_readsClause_41 : decode cX7_readsClause 41 = .ok (.iload_n 1, 1) := by decide +kernel
theorem dX7_readsClause_42 : decode cX7_readsClause 42 = .ok (.ifCond .ne 7, 3) := by decide +kernel
theorem dX7_readsClause_45 : decode cX7_readsClause 45 = .ok (.iconst 0, 1) := by decide +kernel
theorem dX7_readsClause_46 : decode cX7_readsClause 46 = .ok (.goto 26, 3) := by decide +kernel
theorem dX7_readsClause_49 : decode cX7_readsClause 49 = .ok (.iload_n 1, 1) := by decide +kernel
theorem dX7_readsClause_50 : decode cX7_readsClause 50 = .ok (.iconst 2, 1) := by decide +kernel
theorem dX7_readsClause_51 : decode cX7_readsClause 51 = .ok (.if_icmp .ne 17, 3) := by decide +kernel
theorem dX7_readsClause_54 : decode cX7_readsClause 54 = .ok (.aload_n 0, 1) := by decide +kernel
theorem dX7_readsClause_55 : decode cX7_readsClause 55 = .ok (.getfield 116, 3) := by decide +kernel
theorem dX7_readsClause_58 : decode cX7_readsClause 58 = .ok (.aload_n 0, 1) := by decide +kernel
theorem dX7_readsClause_59 : decode cX7_readsClause 59 = .ok (.getfield 53, 3) := by decide +kernel
theorem dX7_readsClause_62 : decode cX7_readsClause 62 = .ok (.iconst 1, 1) := by decide +kernel
theorem dX7_readsClause_63 : decode cX7_readsClause 63 = .ok (.iaload, 1) := by decide +kernel
theorem dX7_readsClause_64 : decode cX7_readsClause 64 = .ok (.iadd, 1) := by decide +kernel
theorem dX7_readsClause_65 : decode cX7_readsClause 65 = .ok (.goto 7, 3) := by decide +kernel
theorem dX7_readsClause_68 : decode cX7_readsClause 68 = .ok (.aload_n 0, 1) := by decide +kernel
theorem dX7_readsClause_69 : decode cX7_readsClause 69 = .ok (.getfield 116, 3) := by decide +kernel
theorem dX7_readsClause_72 : decode cX7_readsClause 72 = .ok (.putfield 116, 3) := by decide +kernel
theorem dX7_readsClause_75 : decode cX7_readsClause 75 = .ok (.aload_n 0, 1) := by decide +kernel
theorem dX7_readsClause_76 : decode cX7_readsClause 76 = .ok (.getfield 135, 3) := by decide +kernel
theorem dX7_readsClause_79 : decode cX7_readsClause 79 = .ok (.ifCond .eq 8, 3) := by decide +kernel
theorem dX7_readsClause_82 : decode cX7_readsClause 82 = .ok (.aload_n 0, 1) := by decide +kernel
theorem dX7_readsClause_83 : decode cX7_readsClause 83 = .ok (.iload_n 1, 1) := by decide +kernel
theorem dX7_readsClause_84 : decode cX7_readsClause 84 = .ok (.invokevirtual 139, 3) := by decide +kernel
theorem dX7_readsClause_87 : decode cX7_readsClause 87 = .ok (.aload_n 0, 1) := by decide +kernel
theorem dX7_readsClause_88 : decode cX7_readsClause 88 = .ok (.iload_n 1, 1) := by decide +kernel
theorem dX7_readsClause_89 : decode cX7_readsClause 89 = .ok (.ifCond .ne 7, 3) := by decide +kernel
theorem dX7_readsClause_92 : decode cX7_readsClause 92 = .ok (.iconst 0, 1) := by decide +kernel
theorem dX7_readsClause_93 : decode cX7_readsClause 93 = .ok (.goto 21, 3) := by decide +kernel
theorem dX7_readsClause_96 : decode cX7_readsClause 96 = .ok (.iload_n 1, 1) := by decide +kernel
theorem dX7_readsClause_97 : decode cX7_readsClause 97 = .ok (.iconst 1, 1) := by decide +kernel
theorem dX7_readsClause_98 : decode cX7_readsClause 98 = .ok (.if_icmp .ne 12, 3) := by decide +kernel
theorem dX7_readsClause_101 : decode cX7_readsClause 101 = .ok (.aload_n 0, 1) := by decide +kernel
theorem dX7_readsClause_102 : decode cX7_readsClause 102 = .ok (.getfield 98, 3) := by decide +kernel
theorem dX7_readsClause_105 : decode cX7_readsClause 105 = .ok (.iconst 1, 1) := by decide +kernel
theorem dX7_readsClause_106 : decode cX7_readsClause 106 = .ok (.iadd, 1) := by decide +kernel
theorem dX7_readsClause_107 : decode cX7_readsClause 107 = .ok (.goto 7, 3) := by decide +kernel
theorem dX7_readsClause_110 : decode cX7_readsClause 110 = .ok (.aload_n 0, 1) := by decide +kernel
theorem dX7_readsClause_111 : decode cX7_readsClause 111 = .ok (.getfield 98, 3) := by decide +kernel
theorem dX7_readsClause_114 : decode cX7_readsClause 114 = .ok (.putfield 98, 3) := by decide +kernel
theorem dX7_readsClause_117 : decode cX7_readsClause 117 = .ok (.iconst 1, 1) := by decide +kernel
theorem dX7_readsClause_118 : decode cX7_readsClause 118 = .ok (.ireturn, 1) := by decide +kernel
theorem dX7_layTold_0 : decode cX7_layTold 0 = .ok (.aload_n 0, 1) := by decide +kernel
theorem dX7_layTold_1 : decode cX7_layTold 1 = .ok (.aload_n 0, 1) := by decide +kernel
theorem dX7_layTold_2 : decode cX7_layTold 2 = .ok (.getfield 123, 3) := by decide +kernel
theorem dX7_layTold_5 : decode cX7_layTold 5 = .ok (.putfield 98, 3) := by decide +kernel
theorem dX7_layTold_8 : decode cX7_layTold 8 = .ok (.aload_n 0, 1) := by decide +kernel
theorem dX7_layTold_9 : decode cX7_layTold 9 = .ok (.aload_n 0, 1) := by decide +kernel
theorem dX7_layTold_10 : decode cX7_layTold 10 = .ok (.getfield 126, 3) := by decide +kernel
theorem dX7_layTold_13 : decode cX7_layTold 13 = .ok (.putfield 116, 3) := by decide +kernel
theorem dX7_layTold_16 : decode cX7_layTold 16 = .ok (.iconst 0, 1) := by decide +kernel
theorem dX7_layTold_17 : decode cX7_layTold 17 = .ok (.istore_n 1, 1) := by decide +kernel
theorem dX7_layTold_18 : decode cX7_layTold 18 = .ok (.iload_n 1, 1) := by decide +kernel
theorem dX7_layTold_19 : decode cX7_layTold 19 = .ok (.bipush 6, 2) := by decide +kernel
theorem dX7_layTold_21 : decode cX7_layTold 21 = .ok (.if_icmp .ge 21, 3) := by decide +kernel
theorem dX7_layTold_24 : decode cX7_layTold 24 = .ok (.aload_n 0, 1) := by decide +kernel
theorem dX7_layTold_25 : decode cX7_layTold 25 = .ok (.getfield 50, 3) := by decide +kernel
theorem dX7_layTold_28 : decode cX7_layTold 28 = .ok (.iload_n 1, 1) := by decide +kernel
theorem dX7_layTold_29 : decode cX7_layTold 29 = .ok (.aload_n 0, 1) := by decide +kernel
theorem dX7_layTold_30 : decode cX7_layTold 30 = .ok (.getfield 22, 3) := by decide +kernel
theorem dX7_layTold_33 : decode cX7_layTold 33 = .ok (.iload_n 1, 1) := by decide +kernel
theorem dX7_layTold_34 : decode cX7_layTold 34 = .ok (.iaload, 1) := by decide +kernel
theorem dX7_layTold_35 : decode cX7_layTold 35 = .ok (.iastore, 1) := by decide +kernel
theorem dX7_layTold_36 : decode cX7_layTold 36 = .ok (.iinc 1 1, 3) := by decide +kernel
theorem dX7_layTold_39 : decode cX7_layTold 39 = .ok (.goto (-21), 3) := by decide +kernel
theorem dX7_layTold_42 : decode cX7_layTold 42 = .ok (.iconst 0, 1) := by decide +kernel
theorem dX7_layTold_43 : decode cX7_layTold 43 = .ok (.istore_n 1, 1) := by decide +kernel
theorem dX7_layTold_44 : decode cX7_layTold 44 = .ok (.iload_n 1, 1) := by decide +kernel
theorem dX7_layTold_45 : decode cX7_layTold 45 = .ok (.bipush 42, 2) := by decide +kernel
theorem dX7_layTold_47 : decode cX7_layTold 47 = .ok (.if_icmp .ge 21, 3) := by decide +kernel
theorem dX7_layTold_50 : decode cX7_layTold 50 = .ok (.aload_n 0, 1) := by decide +kernel
theorem dX7_layTold_51 : decode cX7_layTold 51 = .ok (.getfield 47, 3) := by decide +kernel
theorem dX7_layTold_54 : decode cX7_layTold 54 = .ok (.iload_n 1, 1) := by decide +kernel
theorem dX7_layTold_55 : decode cX7_layTold 55 = .ok (.aload_n 0, 1) := by decide +kernel
theorem dX7_layTold_56 : decode cX7_layTold 56 = .ok (.getfield 19, 3) := by decide +kernel
theorem dX7_layTold_59 : decode cX7_layTold 59 = .ok (.iload_n 1, 1) := by decide +kernel
theorem dX7_layTold_60 : decode cX7_layTold 60 = .ok (.iaload, 1) := by decide +kernel
theorem dX7_layTold_61 : decode cX7_layTold 61 = .ok (.iastore, 1) := by decide +kernel
theorem dX7_layTold_62 : decode cX7_layTold 62 = .ok (.iinc 1 1, 3) := by decide +kernel
theorem dX7_layTold_65 : decode cX7_layTold 65 = .ok (.goto (-21), 3) := by decide +kernel
theorem dX7_layTold_68 : decode cX7_layTold 68 = .ok (.return_, 1) := by decide +kernel
theorem dX7_reads_0 : decode cX7_reads 0 = .ok (.aload_n 0, 1) := by decide +kernel
theorem dX7_reads_1 : decode cX7_reads 1 = .ok (.iload_n 1, 1) := by decide +kernel
theorem dX7_reads_2 : decode cX7_reads 2 = .ok (.putfield 135, 3) := by decide +kernel
theorem dX7_reads_5 : decode cX7_reads 5 = .ok (.aload_n 0, 1) := by decide +kernel
theorem dX7_reads_6 : decode cX7_reads 6 = .ok (.iconst 0, 1) := by decide +kernel
theorem dX7_reads_7 : decode cX7_reads 7 = .ok (.putfield 82, 3) := by decide +kernel
theorem dX7_reads_10 : decode cX7_reads 10 = .ok (.aload_n 0, 1) := by decide +kernel
theorem dX7_reads_11 : decode cX7_reads 11 = .ok (.iconst 1, 1) := by decide +kernel
theorem dX7_reads_12 : decode cX7_reads 12 = .ok (.putfield 143, 3) := by decide +kernel
theorem dX7_reads_15 : decode cX7_reads 15 = .ok (.aload_n 0, 1) := by decide +kernel
theorem dX7_reads_16 : decode cX7_reads 16 = .ok (.invokevirtual 146, 3) := by decide +kernel
theorem dX7_reads_19 : decode cX7_reads 19 = .ok (.aload_n 0, 1) := by decide +kernel
theorem dX7_reads_20 : decode cX7_reads 20 = .ok (.invokevirtual 95, 3) := by decide +kernel
theorem dX7_reads_23 : decode cX7_reads 23 = .ok (.aload_n 0, 1) := by decide +kernel
theorem dX7_reads_24 : decode cX7_reads 24 = .ok (.invokevirtual 149, 3) := by decide +kernel
theorem dX7_reads_27 : decode cX7_reads 27 = .ok (.istore_n 2, 1) := by decide +kernel
theorem dX7_reads_28 : decode cX7_reads 28 = .ok (.iload_n 2, 1) := by decide +kernel
theorem dX7_reads_29 : decode cX7_reads 29 = .ok (.ifCond .eq 69, 3) := by decide +kernel
theorem dX7_reads_32 : decode cX7_reads 32 = .ok (.aload_n 0, 1) := by decide +kernel
theorem dX7_reads_33 : decode cX7_reads 33 = .ok (.getfield 85, 3) := by decide +kernel
theorem dX7_reads_36 : decode cX7_reads 36 = .ok (.aload_n 0, 1) := by decide +kernel
theorem dX7_reads_37 : decode cX7_reads 37 = .ok (.getfield 69, 3) := by decide +kernel
theorem dX7_reads_40 : decode cX7_reads 40 = .ok (.if_icmp .ge 58, 3) := by decide +kernel
theorem dX7_reads_43 : decode cX7_reads 43 = .ok (.aload_n 0, 1) := by decide +kernel
theorem dX7_reads_44 : decode cX7_reads 44 = .ok (.getfield 143, 3) := by decide +kernel
theorem dX7_reads_47 : decode cX7_reads 47 = .ok (.bipush 24, 2) := by decide +kernel
theorem dX7_reads_49 : decode cX7_reads 49 = .ok (.if_icmp .ge 21, 3) := by decide +kernel
theorem dX7_reads_52 : decode cX7_reads 52 = .ok (.aload_n 0, 1) := by decide +kernel
theorem dX7_reads_53 : decode cX7_reads 53 = .ok (.getfield 32, 3) := by decide +kernel
theorem dX7_reads_56 : decode cX7_reads 56 = .ok (.aload_n 0, 1) := by decide +kernel
theorem dX7_reads_57 : decode cX7_reads 57 = .ok (.getfield 85, 3) := by decide +kernel
theorem dX7_reads_60 : decode cX7_reads 60 = .ok (.iaload, 1) := by decide +kernel
theorem dX7_reads_61 : decode cX7_reads 61 = .ok (.bipush 59, 2) := by decide +kernel
theorem dX7_reads_63 : decode cX7_reads 63 = .ok (.if_icmp .ne 7, 3) := by decide +kernel
theorem dX7_reads_66 : decode cX7_reads 66 = .ok (.iconst 1, 1) := by decide +kernel
theorem dX7_reads_67 : decode cX7_reads 67 = .ok (.goto 4, 3) := by decide +kernel
theorem dX7_reads_70 : decode cX7_reads 70 = .ok (.iconst 0, 1) := by decide +kernel
theorem dX7_reads_71 : decode cX7_reads 71 = .ok (.istore_n 2, 1) := by decide +kernel
theorem dX7_reads_72 : decode cX7_reads 72 = .ok (.iload_n 2, 1) := by decide +kernel
theorem dX7_reads_73 : decode cX7_reads 73 = .ok (.ifCond .eq (-45), 3) := by decide +kernel
theorem dX7_reads_76 : decode cX7_reads 76 = .ok (.aload_n 0, 1) := by decide +kernel
theorem dX7_reads_77 : decode cX7_reads 77 = .ok (.invokevirtual 95, 3) := by decide +kernel
theorem dX7_reads_80 : decode cX7_reads 80 = .ok (.aload_n 0, 1) := by decide +kernel
theorem dX7_reads_81 : decode cX7_reads 81 = .ok (.invokevirtual 149, 3) := by decide +kernel
theorem dX7_reads_84 : decode cX7_reads 84 = .ok (.istore_n 2, 1) := by decide +kernel
theorem dX7_reads_85 : decode cX7_reads 85 = .ok (.aload_n 0, 1) := by decide +kernel
theorem dX7_reads_86 : decode cX7_reads 86 = .ok (.dup, 1) := by decide +kernel
theorem dX7_reads_87 : decode cX7_reads 87 = .ok (.getfield 143, 3) := by decide +kernel
theorem dX7_reads_90 : decode cX7_reads 90 = .ok (.iconst 1, 1) := by decide +kernel
theorem dX7_reads_91 : decode cX7_reads 91 = .ok (.iadd, 1) := by decide +kernel
theorem dX7_reads_92 : decode cX7_reads 92 = .ok (.putfield 143, 3) := by decide +kernel
theorem dX7_reads_95 : decode cX7_reads 95 = .ok (.goto (-67), 3) := by decide +kernel
theorem dX7_reads_98 : decode cX7_reads 98 = .ok (.iload_n 2, 1) := by decide +kernel
theorem dX7_reads_99 : decode cX7_reads 99 = .ok (.ireturn, 1) := by decide +kernel
theorem dX7_fault_0 : decode cX7_fault 0 = .ok (.aload_n 0, 1) := by decide +kernel
theorem dX7_fault_1 : decode cX7_fault 1 = .ok (.iconst 0, 1) := by decide +kernel
theorem dX7_fault_2 : decode cX7_fault 2 = .ok (.invokevirtual 152, 3) := by decide +kernel
theorem dX7_fault_5 : decode cX7_fault 5 = .ok (.ifCond .eq 7, 3) := by decide +kernel
theorem dX7_fault_8 : decode cX7_fault 8 = .ok (.iconst (-1), 1) := by decide +kernel
theorem dX7_fault_9 : decode cX7_fault 9 = .ok (.goto 7, 3) := by decide +kernel
theorem dX7_fault_12 : decode cX7_fault 12 = .ok (.aload_n 0, 1) := by decide +kernel
theorem dX7_fault_13 : decode cX7_fault 13 = .ok (.getfield 85, 3) := by decide +kernel
theorem dX7_fault_16 : decode cX7_fault 16 = .ok (.ireturn, 1) := by decide +kernel
theorem dX7_wall_0 : decode cX7_wall 0 = .ok (.aload_n 0, 1) := by decide +kernel
theorem dX7_wall_1 : decode cX7_wall 1 = .ok (.iconst 0, 1) := by decide +kernel
theorem dX7_wall_2 : decode cX7_wall 2 = .ok (.invokevirtual 152, 3) := by decide +kernel
theorem dX7_wall_5 : decode cX7_wall 5 = .ok (.ifCond .ne 6, 3) := by decide +kernel
theorem dX7_wall_8 : decode cX7_wall 8 = .ok (.ldc 156, 2) := by decide +kernel
theorem dX7_wall_10 : decode cX7_wall 10 = .ok (.ireturn, 1) := by decide +kernel
theorem dX7_wall_11 : decode cX7_wall 11 = .ok (.aload_n 0, 1) := by decide +kernel
theorem dX7_wall_12 : decode cX7_wall 12 = .ok (.iconst 1, 1) := by decide +kernel
theorem dX7_wall_13 : decode cX7_wall 13 = .ok (.invokevirtual 152, 3) := by decide +kernel
theorem dX7_wall_16 : decode cX7_wall 16 = .ok (.pop, 1) := by decide +kernel
theorem dX7_wall_17 : decode cX7_wall 17 = .ok (.aload_n 0, 1) := by decide +kernel
theorem dX7_wall_18 : decode cX7_wall 18 = .ok (.getfield 7, 3) := by decide +kernel
theorem dX7_wall_21 : decode cX7_wall 21 = .ok (.bipush 13, 2) := by decide +kernel
theorem dX7_wall_23 : decode cX7_wall 23 = .ok (.iconst 0, 1) := by decide +kernel
theorem dX7_wall_24 : decode cX7_wall 24 = .ok (.iastore, 1) := by decide +kernel
theorem dX7_wall_25 : decode cX7_wall 25 = .ok (.aload_n 0, 1) := by decide +kernel
theorem dX7_wall_26 : decode cX7_wall 26 = .ok (.getfield 7, 3) := by decide +kernel
theorem dX7_wall_29 : decode cX7_wall 29 = .ok (.bipush 14, 2) := by decide +kernel
theorem dX7_wall_31 : decode cX7_wall 31 = .ok (.iconst 0, 1) := by decide +kernel
theorem dX7_wall_32 : decode cX7_wall 32 = .ok (.iastore, 1) := by decide +kernel
theorem dX7_wall_33 : decode cX7_wall 33 = .ok (.aload_n 0, 1) := by decide +kernel
theorem dX7_wall_34 : decode cX7_wall 34 = .ok (.getfield 7, 3) := by decide +kernel
theorem dX7_wall_37 : decode cX7_wall 37 = .ok (.bipush 15, 2) := by decide +kernel
theorem dX7_wall_39 : decode cX7_wall 39 = .ok (.iconst 0, 1) := by decide +kernel
theorem dX7_wall_40 : decode cX7_wall 40 = .ok (.iastore, 1) := by decide +kernel
theorem dX7_wall_41 : decode cX7_wall 41 = .ok (.aload_n 0, 1) := by decide +kernel
theorem dX7_wall_42 : decode cX7_wall 42 = .ok (.iconst 0, 1) := by decide +kernel
theorem dX7_wall_43 : decode cX7_wall 43 = .ok (.putfield 69, 3) := by decide +kernel
theorem dX7_wall_46 : decode cX7_wall 46 = .ok (.aload_n 0, 1) := by decide +kernel
theorem dX7_wall_47 : decode cX7_wall 47 = .ok (.iconst 0, 1) := by decide +kernel
theorem dX7_wall_48 : decode cX7_wall 48 = .ok (.putfield 157, 3) := by decide +kernel
theorem dX7_wall_51 : decode cX7_wall 51 = .ok (.aload_n 0, 1) := by decide +kernel
theorem dX7_wall_52 : decode cX7_wall 52 = .ok (.getfield 28, 3) := by decide +kernel
theorem dX7_wall_55 : decode cX7_wall 55 = .ok (.iconst 0, 1) := by decide +kernel
theorem dX7_wall_56 : decode cX7_wall 56 = .ok (.iconst 0, 1) := by decide +kernel
theorem dX7_wall_57 : decode cX7_wall 57 = .ok (.bastore, 1) := by decide +kernel
theorem dX7_wall_58 : decode cX7_wall 58 = .ok (.aload_n 0, 1) := by decide +kernel
theorem dX7_wall_59 : decode cX7_wall 59 = .ok (.getfield 28, 3) := by decide +kernel
theorem dX7_wall_62 : decode cX7_wall 62 = .ok (.iconst 1, 1) := by decide +kernel
theorem dX7_wall_63 : decode cX7_wall 63 = .ok (.iconst 0, 1) := by decide +kernel
theorem dX7_wall_64 : decode cX7_wall 64 = .ok (.bastore, 1) := by decide +kernel
theorem dX7_wall_65 : decode cX7_wall 65 = .ok (.iconst 0, 1) := by decide +kernel
theorem dX7_wall_66 : decode cX7_wall 66 = .ok (.istore_n 1, 1) := by decide +kernel
theorem dX7_wall_67 : decode cX7_wall 67 = .ok (.iload_n 1, 1) := by decide +kernel
theorem dX7_wall_68 : decode cX7_wall 68 = .ok (.iconst 3, 1) := by decide +kernel
theorem dX7_wall_69 : decode cX7_wall 69 = .ok (.if_icmp .ge 16, 3) := by decide +kernel
theorem dX7_wall_72 : decode cX7_wall 72 = .ok (.aload_n 0, 1) := by decide +kernel
theorem dX7_wall_73 : decode cX7_wall 73 = .ok (.getfield 35, 3) := by decide +kernel
theorem dX7_wall_76 : decode cX7_wall 76 = .ok (.iload_n 1, 1) := by decide +kernel
theorem dX7_wall_77 : decode cX7_wall 77 = .ok (.iconst (-1), 1) := by decide +kernel
theorem dX7_wall_78 : decode cX7_wall 78 = .ok (.iastore, 1) := by decide +kernel
theorem dX7_wall_79 : decode cX7_wall 79 = .ok (.iinc 1 1, 3) := by decide +kernel
theorem dX7_wall_82 : decode cX7_wall 82 = .ok (.goto (-15), 3) := by decide +kernel
theorem dX7_wall_85 : decode cX7_wall 85 = .ok (.aload_n 0, 1) := by decide +kernel
theorem dX7_wall_86 : decode cX7_wall 86 = .ok (.getfield 143, 3) := by decide +kernel
theorem dX7_wall_89 : decode cX7_wall 89 = .ok (.ireturn, 1) := by decide +kernel
theorem dX7_find_0 : decode cX7_find 0 = .ok (.iconst 0, 1) := by decide +kernel
theorem dX7_find_1 : decode cX7_find 1 = .ok (.istore_n 1, 1) := by decide +kernel
theorem dX7_find_2 : decode cX7_find 2 = .ok (.iload_n 1, 1) := by decide +kernel
theorem dX7_find_3 : decode cX7_find 3 = .ok (.aload_n 0, 1) := by decide +kernel
theorem dX7_find_4 : decode cX7_find 4 = .ok (.getfield 123, 3) := by decide +kernel
theorem dX7_find_7 : decode cX7_find 7 = .ok (.if_icmp .ge 103, 3) := by decide +kernel
theorem dX7_find_10 : decode cX7_find 10 = .ok (.iconst 0, 1) := by decide +kernel
theorem dX7_find_11 : decode cX7_find 11 = .ok (.istore_n 2, 1) := by decide +kernel
theorem dX7_find_12 : decode cX7_find 12 = .ok (.iconst 1, 1) := by decide +kernel
theorem dX7_find_13 : decode cX7_find 13 = .ok (.istore_n 3, 1) := by decide +kernel
theorem dX7_find_14 : decode cX7_find 14 = .ok (.iconst 0, 1) := by decide +kernel
theorem dX7_find_15 : decode cX7_find 15 = .ok (.istore 4, 2) := by decide +kernel
theorem dX7_find_17 : decode cX7_find 17 = .ok (.iload 4, 2) := by decide +kernel
theorem dX7_find_19 : decode cX7_find 19 = .ok (.aload_n 0, 1) := by decide +kernel
theorem dX7_find_20 : decode cX7_find 20 = .ok (.getfield 69, 3) := by decide +kernel
theorem dX7_find_23 : decode cX7_find 23 = .ok (.if_icmp .ge 65, 3) := by decide +kernel
theorem dX7_find_26 : decode cX7_find 26 = .ok (.iload_n 3, 1) := by decide +kernel
theorem dX7_find_27 : decode cX7_find 27 = .ok (.ifCond .eq 61, 3) := by decide +kernel
theorem dX7_find_30 : decode cX7_find 30 = .ok (.aload_n 0, 1) := by decide +kernel
theorem dX7_find_31 : decode cX7_find 31 = .ok (.getfield 32, 3) := by decide +kernel
theorem dX7_find_34 : decode cX7_find 34 = .ok (.iload 4, 2) := by decide +kernel
theorem dX7_find_36 : decode cX7_find 36 = .ok (.iaload, 1) := by decide +kernel
theorem dX7_find_37 : decode cX7_find 37 = .ok (.bipush 32, 2) := by decide +kernel
theorem dX7_find_39 : decode cX7_find 39 = .ok (.if_icmp .eq 43, 3) := by decide +kernel
theorem dX7_find_42 : decode cX7_find 42 = .ok (.iload_n 2, 1) := by decide +kernel
theorem dX7_find_43 : decode cX7_find 43 = .ok (.aload_n 0, 1) := by decide +kernel
theorem dX7_find_44 : decode cX7_find 44 = .ok (.getfield 22, 3) := by decide +kernel
theorem dX7_find_47 : decode cX7_find 47 = .ok (.iload_n 1, 1) := by decide +kernel
theorem dX7_find_48 : decode cX7_find 48 = .ok (.iaload, 1) := by decide +kernel
theorem dX7_find_49 : decode cX7_find 49 = .ok (.if_icmp .ge 28, 3) := by decide +kernel
theorem dX7_find_52 : decode cX7_find 52 = .ok (.aload_n 0, 1) := by decide +kernel
theorem dX7_find_53 : decode cX7_find 53 = .ok (.getfield 19, 3) := by decide +kernel
theorem dX7_find_56 : decode cX7_find 56 = .ok (.bipush 7, 2) := by decide +kernel
theorem dX7_find_58 : decode cX7_find 58 = .ok (.iload_n 1, 1) := by decide +kernel
theorem dX7_find_59 : decode cX7_find 59 = .ok (.imul, 1) := by decide +kernel
theorem dX7_find_60 : decode cX7_find 60 = .ok (.iload_n 2, 1) := by decide +kernel
theorem dX7_find_61 : decode cX7_find 61 = .ok (.iadd, 1) := by decide +kernel
theorem dX7_find_62 : decode cX7_find 62 = .ok (.iaload, 1) := by decide +kernel
theorem dX7_find_63 : decode cX7_find 63 = .ok (.aload_n 0, 1) := by decide +kernel
theorem dX7_find_64 : decode cX7_find 64 = .ok (.getfield 32, 3) := by decide +kernel
theorem dX7_find_67 : decode cX7_find 67 = .ok (.iload 4, 2) := by decide +kernel
theorem dX7_find_69 : decode cX7_find 69 = .ok (.iaload, 1) := by decide +kernel
theorem dX7_find_70 : decode cX7_find 70 = .ok (.if_icmp .ne 7, 3) := by decide +kernel
theorem dX7_find_73 : decode cX7_find 73 = .ok (.iconst 1, 1) := by decide +kernel
theorem dX7_find_74 : decode cX7_find 74 = .ok (.goto 4, 3) := by decide +kernel
theorem dX7_find_77 : decode cX7_find 77 = .ok (.iconst 0, 1) := by decide +kernel
theorem dX7_find_78 : decode cX7_find 78 = .ok (.istore_n 3, 1) := by decide +kernel
theorem dX7_find_79 : decode cX7_find 79 = .ok (.iinc 2 1, 3) := by decide +kernel
theorem dX7_find_82 : decode cX7_find 82 = .ok (.iinc 4 1, 3) := by decide +kernel
theorem dX7_find_85 : decode cX7_find 85 = .ok (.goto (-68), 3) := by decide +kernel
theorem dX7_find_88 : decode cX7_find 88 = .ok (.iload_n 3, 1) := by decide +kernel
theorem dX7_find_89 : decode cX7_find 89 = .ok (.ifCond .eq 15, 3) := by decide +kernel
theorem dX7_find_92 : decode cX7_find 92 = .ok (.iload_n 2, 1) := by decide +kernel
theorem dX7_find_93 : decode cX7_find 93 = .ok (.aload_n 0, 1) := by decide +kernel
theorem dX7_find_94 : decode cX7_find 94 = .ok (.getfield 22, 3) := by decide +kernel
theorem dX7_find_97 : decode cX7_find 97 = .ok (.iload_n 1, 1) := by decide +kernel
theorem dX7_find_98 : decode cX7_find 98 = .ok (.iaload, 1) := by decide +kernel
theorem dX7_find_99 : decode cX7_find 99 = .ok (.if_icmp .ne 5, 3) := by decide +kernel
theorem dX7_find_102 : decode cX7_find 102 = .ok (.iload_n 1, 1) := by decide +kernel
theorem dX7_find_103 : decode cX7_find 103 = .ok (.ireturn, 1) := by decide +kernel
theorem dX7_find_104 : decode cX7_find 104 = .ok (.iinc 1 1, 3) := by decide +kernel
theorem dX7_find_107 : decode cX7_find 107 = .ok (.goto (-105), 3) := by decide +kernel
theorem dX7_find_110 : decode cX7_find 110 = .ok (.iconst (-1), 1) := by decide +kernel
theorem dX7_find_111 : decode cX7_find 111 = .ok (.ireturn, 1) := by decide +kernel
theorem dX7_isStuff_0 : decode cX7_isStuff 0 = .ok (.iload_n 1, 1) := by decide +kernel
theorem dX7_isStuff_1 : decode cX7_isStuff 1 = .ok (.i2l, 1) := by decide +kernel
theorem dX7_isStuff_2 : decode cX7_isStuff 2 = .ok (.lconst 0, 1) := by decide +kernel
theorem dX7_isStuff_3 : decode cX7_isStuff 3 = .ok (.aload_n 0, 1) := by decide +kernel
theorem dX7_isStuff_4 : decode cX7_isStuff 4 = .ok (.getfield 123, 3) := by decide +kernel
theorem dX7_isStuff_7 : decode cX7_isStuff 7 = .ok (.iconst 1, 1) := by decide +kernel
theorem dX7_isStuff_8 : decode cX7_isStuff 8 = .ok (.isub, 1) := by decide +kernel
theorem dX7_isStuff_9 : decode cX7_isStuff 9 = .ok (.i2l, 1) := by decide +kernel
theorem dX7_isStuff_10 : decode cX7_isStuff 10 = .ok (.invokestatic 64, 3) := by decide +kernel
theorem dX7_isStuff_13 : decode cX7_isStuff 13 = .ok (.ireturn, 1) := by decide +kernel
theorem dX7_isCell_0 : decode cX7_isCell 0 = .ok (.iload_n 1, 1) := by decide +kernel
theorem dX7_isCell_1 : decode cX7_isCell 1 = .ok (.i2l, 1) := by decide +kernel
theorem dX7_isCell_2 : decode cX7_isCell 2 = .ok (.lconst 0, 1) := by decide +kernel
theorem dX7_isCell_3 : decode cX7_isCell 3 = .ok (.aload_n 0, 1) := by decide +kernel
theorem dX7_isCell_4 : decode cX7_isCell 4 = .ok (.getfield 126, 3) := by decide +kernel
theorem dX7_isCell_7 : decode cX7_isCell 7 = .ok (.iconst 1, 1) := by decide +kernel
theorem dX7_isCell_8 : decode cX7_isCell 8 = .ok (.isub, 1) := by decide +kernel
theorem dX7_isCell_9 : decode cX7_isCell 9 = .ok (.i2l, 1) := by decide +kernel
theorem dX7_isCell_10 : decode cX7_isCell 10 = .ok (.invokestatic 64, 3) := by decide +kernel
theorem dX7_isCell_13 : decode cX7_isCell 13 = .ok (.ireturn, 1) := by decide +kernel
theorem dX7_holdsOf_0 : decode cX7_holdsOf 0 = .ok (.aload_n 0, 1) := by decide +kernel
theorem dX7_holdsOf_1 : decode cX7_holdsOf 1 = .ok (.getfield 16, 3) := by decide +kernel
theorem dX7_holdsOf_4 : decode cX7_holdsOf 4 = .ok (.aload_n 0, 1) := by decide +kernel
theorem dX7_holdsOf_5 : decode cX7_holdsOf 5 = .ok (.getfield 25, 3) := by decide +kernel
theorem dX7_holdsOf_8 : decode cX7_holdsOf 8 = .ok (.iload_n 1, 1) := by decide +kernel
theorem dX7_holdsOf_9 : decode cX7_holdsOf 9 = .ok (.iaload, 1) := by decide +kernel
theorem dX7_holdsOf_10 : decode cX7_holdsOf 10 = .ok (.iaload, 1) := by decide +kernel
theorem dX7_holdsOf_11 : decode cX7_holdsOf 11 = .ok (.ireturn, 1) := by decide +kernel
theorem dX7_passesOf_0 : decode cX7_passesOf 0 = .ok (.aload_n 0, 1) := by decide +kernel
theorem dX7_passesOf_1 : decode cX7_passesOf 1 = .ok (.getfield 13, 3) := by decide +kernel
theorem dX7_passesOf_4 : decode cX7_passesOf 4 = .ok (.aload_n 0, 1) := by decide +kernel
theorem dX7_passesOf_5 : decode cX7_passesOf 5 = .ok (.getfield 25, 3) := by decide +kernel
theorem dX7_passesOf_8 : decode cX7_passesOf 8 = .ok (.iload_n 1, 1) := by decide +kernel
theorem dX7_passesOf_9 : decode cX7_passesOf 9 = .ok (.iaload, 1) := by decide +kernel
theorem dX7_passesOf_10 : decode cX7_passesOf 10 = .ok (.iaload, 1) := by decide +kernel
theorem dX7_passesOf_11 : decode cX7_passesOf 11 = .ok (.ireturn, 1) := by decide +kernel
theorem dX7_divisor_0 : decode cX7_divisor 0 = .ok (.lload_n 0, 1) := by decide +kernel
theorem dX7_divisor_1 : decode cX7_divisor 1 = .ok (.lconst 0, 1) := by decide +kernel
theorem dX7_divisor_2 : decode cX7_divisor 2 = .ok (.lcmp, 1) := by decide +kernel
theorem dX7_divisor_3 : decode cX7_divisor 3 = .ok (.ifCond .ge 8, 3) := by decide +kernel
theorem dX7_divisor_6 : decode cX7_divisor 6 = .ok (.lload_n 0, 1) := by decide +kernel
theorem dX7_divisor_7 : decode cX7_divisor 7 = .ok (.lneg, 1) := by decide +kernel
theorem dX7_divisor_8 : decode cX7_divisor 8 = .ok (.goto 4, 3) := by decide +kernel
theorem dX7_divisor_11 : decode cX7_divisor 11 = .ok (.lload_n 0, 1) := by decide +kernel
theorem dX7_divisor_12 : decode cX7_divisor 12 = .ok (.lstore 4, 2) := by decide +kernel
theorem dX7_divisor_14 : decode cX7_divisor 14 = .ok (.lload_n 2, 1) := by decide +kernel
theorem dX7_divisor_15 : decode cX7_divisor 15 = .ok (.lstore 6, 2) := by decide +kernel
theorem dX7_divisor_17 : decode cX7_divisor 17 = .ok (.lload 6, 2) := by decide +kernel
theorem dX7_divisor_19 : decode cX7_divisor 19 = .ok (.lconst 0, 1) := by decide +kernel
theorem dX7_divisor_20 : decode cX7_divisor 20 = .ok (.lcmp, 1) := by decide +kernel
theorem dX7_divisor_21 : decode cX7_divisor 21 = .ok (.ifCond .eq 21, 3) := by decide +kernel
theorem dX7_divisor_24 : decode cX7_divisor 24 = .ok (.lload 4, 2) := by decide +kernel
theorem dX7_divisor_26 : decode cX7_divisor 26 = .ok (.lload 6, 2) := by decide +kernel
theorem dX7_divisor_28 : decode cX7_divisor 28 = .ok (.lrem, 1) := by decide +kernel
theorem dX7_divisor_29 : decode cX7_divisor 29 = .ok (.lstore 8, 2) := by decide +kernel
theorem dX7_divisor_31 : decode cX7_divisor 31 = .ok (.lload 6, 2) := by decide +kernel
theorem dX7_divisor_33 : decode cX7_divisor 33 = .ok (.lstore 4, 2) := by decide +kernel
theorem dX7_divisor_35 : decode cX7_divisor 35 = .ok (.lload 8, 2) := by decide +kernel
theorem dX7_divisor_37 : decode cX7_divisor 37 = .ok (.lstore 6, 2) := by decide +kernel
theorem dX7_divisor_39 : decode cX7_divisor 39 = .ok (.goto (-22), 3) := by decide +kernel
theorem dX7_divisor_42 : decode cX7_divisor 42 = .ok (.lload 4, 2) := by decide +kernel
theorem dX7_divisor_44 : decode cX7_divisor 44 = .ok (.lreturn, 1) := by decide +kernel
theorem dX7_told_0 : decode cX7_told 0 = .ok (.lload_n 0, 1) := by decide +kernel
theorem dX7_told_1 : decode cX7_told 1 = .ok (.lload_n 2, 1) := by decide +kernel
theorem dX7_told_2 : decode cX7_told 2 = .ok (.invokestatic 160, 3) := by decide +kernel
theorem dX7_told_5 : decode cX7_told 5 = .ok (.lstore 5, 2) := by decide +kernel
theorem dX7_told_7 : decode cX7_told 7 = .ok (.iload 4, 2) := by decide +kernel
theorem dX7_told_9 : decode cX7_told 9 = .ok (.ifCond .ne 10, 3) := by decide +kernel
theorem dX7_told_12 : decode cX7_told 12 = .ok (.lload_n 0, 1) := by decide +kernel
theorem dX7_told_13 : decode cX7_told 13 = .ok (.lload 5, 2) := by decide +kernel
theorem dX7_told_15 : decode cX7_told 15 = .ok (.ldiv, 1) := by decide +kernel
theorem dX7_told_16 : decode cX7_told 16 = .ok (.goto 7, 3) := by decide +kernel
theorem dX7_told_19 : decode cX7_told 19 = .ok (.lload_n 2, 1) := by decide +kernel
theorem dX7_told_20 : decode cX7_told 20 = .ok (.lload 5, 2) := by decide +kernel
theorem dX7_told_22 : decode cX7_told 22 = .ok (.ldiv, 1) := by decide +kernel
theorem dX7_told_23 : decode cX7_told 23 = .ok (.lreturn, 1) := by decide +kernel
theorem dX7_cellsOf_0 : decode cX7_cellsOf 0 = .ok (.iconst 0, 1) := by decide +kernel
theorem dX7_cellsOf_1 : decode cX7_cellsOf 1 = .ok (.istore_n 2, 1) := by decide +kernel
theorem dX7_cellsOf_2 : decode cX7_cellsOf 2 = .ok (.iconst 0, 1) := by decide +kernel
theorem dX7_cellsOf_3 : decode cX7_cellsOf 3 = .ok (.istore_n 3, 1) := by decide +kernel
theorem dX7_cellsOf_4 : decode cX7_cellsOf 4 = .ok (.iload_n 3, 1) := by decide +kernel
theorem dX7_cellsOf_5 : decode cX7_cellsOf 5 = .ok (.aload_n 0, 1) := by decide +kernel
theorem dX7_cellsOf_6 : decode cX7_cellsOf 6 = .ok (.getfield 126, 3) := by decide +kernel
theorem dX7_cellsOf_9 : decode cX7_cellsOf 9 = .ok (.if_icmp .ge 29, 3) := by decide +kernel
theorem dX7_cellsOf_12 : decode cX7_cellsOf 12 = .ok (.iload_n 2, 1) := by decide +kernel
theorem dX7_cellsOf_13 : decode cX7_cellsOf 13 = .ok (.aload_n 0, 1) := by decide +kernel
theorem dX7_cellsOf_14 : decode cX7_cellsOf 14 = .ok (.getfield 25, 3) := by decide +kernel
theorem dX7_cellsOf_17 : decode cX7_cellsOf 17 = .ok (.iload_n 3, 1) := by decide +kernel
theorem dX7_cellsOf_18 : decode cX7_cellsOf 18 = .ok (.iaload, 1) := by decide +kernel
theorem dX7_cellsOf_19 : decode cX7_cellsOf 19 = .ok (.iload_n 1, 1) := by decide +kernel
theorem dX7_cellsOf_20 : decode cX7_cellsOf 20 = .ok (.if_icmp .ne 9, 3) := by decide +kernel
theorem dX7_cellsOf_23 : decode cX7_cellsOf 23 = .ok (.iconst 1, 1) := by decide +kernel
theorem dX7_cellsOf_24 : decode cX7_cellsOf 24 = .ok (.iload_n 3, 1) := by decide +kernel
theorem dX7_cellsOf_25 : decode cX7_cellsOf 25 = .ok (.ishl, 1) := by decide +kernel
theorem dX7_cellsOf_26 : decode cX7_cellsOf 26 = .ok (.goto 4, 3) := by decide +kernel
theorem dX7_cellsOf_29 : decode cX7_cellsOf 29 = .ok (.iconst 0, 1) := by decide +kernel
theorem dX7_cellsOf_30 : decode cX7_cellsOf 30 = .ok (.ior, 1) := by decide +kernel
theorem dX7_cellsOf_31 : decode cX7_cellsOf 31 = .ok (.istore_n 2, 1) := by decide +kernel
theorem dX7_cellsOf_32 : decode cX7_cellsOf 32 = .ok (.iinc 3 1, 3) := by decide +kernel
theorem dX7_cellsOf_35 : decode cX7_cellsOf 35 = .ok (.goto (-31), 3) := by decide +kernel
theorem dX7_cellsOf_38 : decode cX7_cellsOf 38 = .ok (.iload_n 2, 1) := by decide +kernel
theorem dX7_cellsOf_39 : decode cX7_cellsOf 39 = .ok (.ireturn, 1) := by decide +kernel
theorem dX7_stuff_0 : decode cX7_stuff 0 = .ok (.aload_n 0, 1) := by decide +kernel
theorem dX7_stuff_1 : decode cX7_stuff 1 = .ok (.iload_n 1, 1) := by decide +kernel
theorem dX7_stuff_2 : decode cX7_stuff 2 = .ok (.invokevirtual 164, 3) := by decide +kernel
theorem dX7_stuff_5 : decode cX7_stuff 5 = .ok (.ifCond .ne 6, 3) := by decide +kernel
theorem dX7_stuff_8 : decode cX7_stuff 8 = .ok (.ldc 167, 2) := by decide +kernel
theorem dX7_stuff_10 : decode cX7_stuff 10 = .ok (.ireturn, 1) := by decide +kernel
theorem dX7_stuff_11 : decode cX7_stuff 11 = .ok (.iload_n 2, 1) := by decide +kernel
theorem dX7_stuff_12 : decode cX7_stuff 12 = .ok (.tableswitch 59 0 3 #[32, 39, 46, 53], 32) := by decide +kernel
theorem dX7_stuff_44 : decode cX7_stuff 44 = .ok (.aload_n 0, 1) := by decide +kernel
theorem dX7_stuff_45 : decode cX7_stuff 45 = .ok (.getfield 13, 3) := by decide +kernel
theorem dX7_stuff_48 : decode cX7_stuff 48 = .ok (.iload_n 1, 1) := by decide +kernel
theorem dX7_stuff_49 : decode cX7_stuff 49 = .ok (.iaload, 1) := by decide +kernel
theorem dX7_stuff_50 : decode cX7_stuff 50 = .ok (.ireturn, 1) := by decide +kernel
theorem dX7_stuff_51 : decode cX7_stuff 51 = .ok (.aload_n 0, 1) := by decide +kernel
theorem dX7_stuff_52 : decode cX7_stuff 52 = .ok (.getfield 16, 3) := by decide +kernel
theorem dX7_stuff_55 : decode cX7_stuff 55 = .ok (.iload_n 1, 1) := by decide +kernel
theorem dX7_stuff_56 : decode cX7_stuff 56 = .ok (.iaload, 1) := by decide +kernel
theorem dX7_stuff_57 : decode cX7_stuff 57 = .ok (.ireturn, 1) := by decide +kernel
theorem dX7_stuff_58 : decode cX7_stuff 58 = .ok (.aload_n 0, 1) := by decide +kernel
theorem dX7_stuff_59 : decode cX7_stuff 59 = .ok (.getfield 22, 3) := by decide +kernel
theorem dX7_stuff_62 : decode cX7_stuff 62 = .ok (.iload_n 1, 1) := by decide +kernel
theorem dX7_stuff_63 : decode cX7_stuff 63 = .ok (.iaload, 1) := by decide +kernel
theorem dX7_stuff_64 : decode cX7_stuff 64 = .ok (.ireturn, 1) := by decide +kernel
theorem dX7_stuff_65 : decode cX7_stuff 65 = .ok (.aload_n 0, 1) := by decide +kernel
theorem dX7_stuff_66 : decode cX7_stuff 66 = .ok (.iload_n 1, 1) := by decide +kernel
theorem dX7_stuff_67 : decode cX7_stuff 67 = .ok (.invokevirtual 168, 3) := by decide +kernel
theorem dX7_stuff_70 : decode cX7_stuff 70 = .ok (.ireturn, 1) := by decide +kernel
theorem dX7_stuff_71 : decode cX7_stuff 71 = .ok (.ldc 68, 2) := by decide +kernel
theorem dX7_stuff_73 : decode cX7_stuff 73 = .ok (.ireturn, 1) := by decide +kernel
theorem dX7_cell_0 : decode cX7_cell 0 = .ok (.aload_n 0, 1) := by decide +kernel
theorem dX7_cell_1 : decode cX7_cell 1 = .ok (.iload_n 1, 1) := by decide +kernel
theorem dX7_cell_2 : decode cX7_cell 2 = .ok (.invokevirtual 172, 3) := by decide +kernel
theorem dX7_cell_5 : decode cX7_cell 5 = .ok (.ifCond .ne 6, 3) := by decide +kernel
theorem dX7_cell_8 : decode cX7_cell 8 = .ok (.ldc 167, 2) := by decide +kernel
theorem dX7_cell_10 : decode cX7_cell 10 = .ok (.ireturn, 1) := by decide +kernel
theorem dX7_cell_11 : decode cX7_cell 11 = .ok (.iload_n 2, 1) := by decide +kernel
theorem dX7_cell_12 : decode cX7_cell 12 = .ok (.tableswitch 71 0 3 #[32, 39, 48, 48], 32) := by decide +kernel
theorem dX7_cell_44 : decode cX7_cell 44 = .ok (.aload_n 0, 1) := by decide +kernel
theorem dX7_cell_45 : decode cX7_cell 45 = .ok (.getfield 25, 3) := by decide +kernel
theorem dX7_cell_48 : decode cX7_cell 48 = .ok (.iload_n 1, 1) := by decide +kernel
theorem dX7_cell_49 : decode cX7_cell 49 = .ok (.iaload, 1) := by decide +kernel
theorem dX7_cell_50 : decode cX7_cell 50 = .ok (.ireturn, 1) := by decide +kernel
theorem dX7_cell_51 : decode cX7_cell 51 = .ok (.aload_n 0, 1) := by decide +kernel
theorem dX7_cell_52 : decode cX7_cell 52 = .ok (.getfield 7, 3) := by decide +kernel
theorem dX7_cell_55 : decode cX7_cell 55 = .ok (.iconst 0, 1) := by decide +kernel
theorem dX7_cell_56 : decode cX7_cell 56 = .ok (.iload_n 1, 1) := by decide +kernel
theorem dX7_cell_57 : decode cX7_cell 57 = .ok (.iadd, 1) := by decide +kernel
theorem dX7_cell_58 : decode cX7_cell 58 = .ok (.iaload, 1) := by decide +kernel
theorem dX7_cell_59 : decode cX7_cell 59 = .ok (.ireturn, 1) := by decide +kernel
theorem dX7_cell_60 : decode cX7_cell 60 = .ok (.aload_n 0, 1) := by decide +kernel
theorem dX7_cell_61 : decode cX7_cell 61 = .ok (.getfield 7, 3) := by decide +kernel
theorem dX7_cell_64 : decode cX7_cell 64 = .ok (.iconst 0, 1) := by decide +kernel
theorem dX7_cell_65 : decode cX7_cell 65 = .ok (.iload_n 1, 1) := by decide +kernel
theorem dX7_cell_66 : decode cX7_cell 66 = .ok (.iadd, 1) := by decide +kernel
theorem dX7_cell_67 : decode cX7_cell 67 = .ok (.iaload, 1) := by decide +kernel
theorem dX7_cell_68 : decode cX7_cell 68 = .ok (.i2l, 1) := by decide +kernel
theorem dX7_cell_69 : decode cX7_cell 69 = .ok (.aload_n 0, 1) := by decide +kernel
theorem dX7_cell_70 : decode cX7_cell 70 = .ok (.iload_n 1, 1) := by decide +kernel
theorem dX7_cell_71 : decode cX7_cell 71 = .ok (.invokevirtual 175, 3) := by decide +kernel
theorem dX7_cell_74 : decode cX7_cell 74 = .ok (.i2l, 1) := by decide +kernel
theorem dX7_cell_75 : decode cX7_cell 75 = .ok (.iload_n 2, 1) := by decide +kernel
theorem dX7_cell_76 : decode cX7_cell 76 = .ok (.iconst 2, 1) := by decide +kernel
theorem dX7_cell_77 : decode cX7_cell 77 = .ok (.isub, 1) := by decide +kernel
theorem dX7_cell_78 : decode cX7_cell 78 = .ok (.invokestatic 178, 3) := by decide +kernel
theorem dX7_cell_81 : decode cX7_cell 81 = .ok (.l2i, 1) := by decide +kernel
theorem dX7_cell_82 : decode cX7_cell 82 = .ok (.ireturn, 1) := by decide +kernel
theorem dX7_cell_83 : decode cX7_cell 83 = .ok (.ldc 68, 2) := by decide +kernel
theorem dX7_cell_85 : decode cX7_cell 85 = .ok (.ireturn, 1) := by decide +kernel
theorem dX7_rest_0 : decode cX7_rest 0 = .ok (.aload_n 0, 1) := by decide +kernel
theorem dX7_rest_1 : decode cX7_rest 1 = .ok (.iload_n 1, 1) := by decide +kernel
theorem dX7_rest_2 : decode cX7_rest 2 = .ok (.invokevirtual 172, 3) := by decide +kernel
theorem dX7_rest_5 : decode cX7_rest 5 = .ok (.ifCond .ne 7, 3) := by decide +kernel
theorem dX7_rest_8 : decode cX7_rest 8 = .ok (.ldc2_w 182, 3) := by decide +kernel
theorem dX7_rest_11 : decode cX7_rest 11 = .ok (.lreturn, 1) := by decide +kernel
theorem dX7_rest_12 : decode cX7_rest 12 = .ok (.iload_n 2, 1) := by decide +kernel
theorem dX7_rest_13 : decode cX7_rest 13 = .ok (.i2l, 1) := by decide +kernel
theorem dX7_rest_14 : decode cX7_rest 14 = .ok (.lconst 0, 1) := by decide +kernel
theorem dX7_rest_15 : decode cX7_rest 15 = .ok (.lconst 1, 1) := by decide +kernel
theorem dX7_rest_16 : decode cX7_rest 16 = .ok (.invokestatic 64, 3) := by decide +kernel
theorem dX7_rest_19 : decode cX7_rest 19 = .ok (.ifCond .ne 7, 3) := by decide +kernel
theorem dX7_rest_22 : decode cX7_rest 22 = .ok (.ldc2_w 184, 3) := by decide +kernel
theorem dX7_rest_25 : decode cX7_rest 25 = .ok (.lreturn, 1) := by decide +kernel
theorem dX7_rest_26 : decode cX7_rest 26 = .ok (.lconst 0, 1) := by decide +kernel
theorem dX7_rest_27 : decode cX7_rest 27 = .ok (.lstore_n 3, 1) := by decide +kernel
theorem dX7_rest_28 : decode cX7_rest 28 = .ok (.lconst 0, 1) := by decide +kernel
theorem dX7_rest_29 : decode cX7_rest 29 = .ok (.lstore 5, 2) := by decide +kernel
theorem dX7_rest_31 : decode cX7_rest 31 = .ok (.iconst 0, 1) := by decide +kernel
theorem dX7_rest_32 : decode cX7_rest 32 = .ok (.istore 7, 2) := by decide +kernel
theorem dX7_rest_34 : decode cX7_rest 34 = .ok (.iload 7, 2) := by decide +kernel
theorem dX7_rest_36 : decode cX7_rest 36 = .ok (.aload_n 0, 1) := by decide +kernel
theorem dX7_rest_37 : decode cX7_rest 37 = .ok (.getfield 126, 3) := by decide +kernel
theorem dX7_rest_40 : decode cX7_rest 40 = .ok (.if_icmp .ge 59, 3) := by decide +kernel
theorem dX7_rest_43 : decode cX7_rest 43 = .ok (.ldc2_w 186, 3) := by decide +kernel
theorem dX7_rest_46 : decode cX7_rest 46 = .ok (.aload_n 0, 1) := by decide +kernel
theorem dX7_rest_47 : decode cX7_rest 47 = .ok (.iload 7, 2) := by decide +kernel
theorem dX7_rest_49 : decode cX7_rest 49 = .ok (.invokevirtual 188, 3) := by decide +kernel
theorem dX7_rest_52 : decode cX7_rest 52 = .ok (.i2l, 1) := by decide +kernel
theorem dX7_rest_53 : decode cX7_rest 53 = .ok (.ldiv, 1) := by decide +kernel
theorem dX7_rest_54 : decode cX7_rest 54 = .ok (.lstore 8, 2) := by decide +kernel
theorem dX7_rest_56 : decode cX7_rest 56 = .ok (.lload_n 3, 1) := by decide +kernel
theorem dX7_rest_57 : decode cX7_rest 57 = .ok (.lload 8, 2) := by decide +kernel
theorem dX7_rest_59 : decode cX7_rest 59 = .ok (.ladd, 1) := by decide +kernel
theorem dX7_rest_60 : decode cX7_rest 60 = .ok (.lstore_n 3, 1) := by decide +kernel
theorem dX7_rest_61 : decode cX7_rest 61 = .ok (.lload 5, 2) := by decide +kernel
theorem dX7_rest_63 : decode cX7_rest 63 = .ok (.iload 7, 2) := by decide +kernel
theorem dX7_rest_65 : decode cX7_rest 65 = .ok (.iload_n 1, 1) := by decide +kernel
theorem dX7_rest_66 : decode cX7_rest 66 = .ok (.if_icmp .le 8, 3) := by decide +kernel
theorem dX7_rest_69 : decode cX7_rest 69 = .ok (.lload 8, 2) := by decide +kernel
theorem dX7_rest_71 : decode cX7_rest 71 = .ok (.goto 19, 3) := by decide +kernel
theorem dX7_rest_74 : decode cX7_rest 74 = .ok (.iload 7, 2) := by decide +kernel
theorem dX7_rest_76 : decode cX7_rest 76 = .ok (.iload_n 1, 1) := by decide +kernel
theorem dX7_rest_77 : decode cX7_rest 77 = .ok (.if_icmp .ne 12, 3) := by decide +kernel
theorem dX7_rest_80 : decode cX7_rest 80 = .ok (.lload 8, 2) := by decide +kernel
theorem dX7_rest_82 : decode cX7_rest 82 = .ok (.ldc2_w 191, 3) := by decide +kernel
theorem dX7_rest_85 : decode cX7_rest 85 = .ok (.ldiv, 1) := by decide +kernel
theorem dX7_rest_86 : decode cX7_rest 86 = .ok (.goto 4, 3) := by decide +kernel
theorem dX7_rest_89 : decode cX7_rest 89 = .ok (.lconst 0, 1) := by decide +kernel
theorem dX7_rest_90 : decode cX7_rest 90 = .ok (.ladd, 1) := by decide +kernel
theorem dX7_rest_91 : decode cX7_rest 91 = .ok (.lstore 5, 2) := by decide +kernel
theorem dX7_rest_93 : decode cX7_rest 93 = .ok (.iinc 7 1, 3) := by decide +kernel
theorem dX7_rest_96 : decode cX7_rest 96 = .ok (.goto (-62), 3) := by decide +kernel
theorem dX7_rest_99 : decode cX7_rest 99 = .ok (.aload_n 0, 1) := by decide +kernel
theorem dX7_rest_100 : decode cX7_rest 100 = .ok (.getfield 7, 3) := by decide +kernel
theorem dX7_rest_103 : decode cX7_rest 103 = .ok (.bipush 11, 2) := by decide +kernel
theorem dX7_rest_105 : decode cX7_rest 105 = .ok (.iaload, 1) := by decide +kernel
theorem dX7_rest_106 : decode cX7_rest 106 = .ok (.i2l, 1) := by decide +kernel
theorem dX7_rest_107 : decode cX7_rest 107 = .ok (.lload_n 3, 1) := by decide +kernel
theorem dX7_rest_108 : decode cX7_rest 108 = .ok (.lmul, 1) := by decide +kernel
theorem dX7_rest_109 : decode cX7_rest 109 = .ok (.aload_n 0, 1) := by decide +kernel
theorem dX7_rest_110 : decode cX7_rest 110 = .ok (.getfield 7, 3) := by decide +kernel
theorem dX7_rest_113 : decode cX7_rest 113 = .ok (.bipush 10, 2) := by decide +kernel
theorem dX7_rest_115 : decode cX7_rest 115 = .ok (.iaload, 1) := by decide +kernel
theorem dX7_rest_116 : decode cX7_rest 116 = .ok (.aload_n 0, 1) := by decide +kernel
theorem dX7_rest_117 : decode cX7_rest 117 = .ok (.getfield 7, 3) := by decide +kernel
theorem dX7_rest_120 : decode cX7_rest 120 = .ok (.bipush 11, 2) := by decide +kernel
theorem dX7_rest_122 : decode cX7_rest 122 = .ok (.iaload, 1) := by decide +kernel
theorem dX7_rest_123 : decode cX7_rest 123 = .ok (.isub, 1) := by decide +kernel
theorem dX7_rest_124 : decode cX7_rest 124 = .ok (.i2l, 1) := by decide +kernel
theorem dX7_rest_125 : decode cX7_rest 125 = .ok (.lload 5, 2) := by decide +kernel
theorem dX7_rest_127 : decode cX7_rest 127 = .ok (.lmul, 1) := by decide +kernel
theorem dX7_rest_128 : decode cX7_rest 128 = .ok (.ladd, 1) := by decide +kernel
theorem dX7_rest_129 : decode cX7_rest 129 = .ok (.lload_n 3, 1) := by decide +kernel
theorem dX7_rest_130 : decode cX7_rest 130 = .ok (.iload_n 2, 1) := by decide +kernel
theorem dX7_rest_131 : decode cX7_rest 131 = .ok (.invokestatic 178, 3) := by decide +kernel
theorem dX7_rest_134 : decode cX7_rest 134 = .ok (.lreturn, 1) := by decide +kernel
theorem dX7_flowAt_0 : decode cX7_flowAt 0 = .ok (.iload_n 2, 1) := by decide +kernel
theorem dX7_flowAt_1 : decode cX7_flowAt 1 = .ok (.ifCond .ne 50, 3) := by decide +kernel
theorem dX7_flowAt_4 : decode cX7_flowAt 4 = .ok (.aload_n 0, 1) := by decide +kernel
theorem dX7_flowAt_5 : decode cX7_flowAt 5 = .ok (.iconst 0, 1) := by decide +kernel
theorem dX7_flowAt_6 : decode cX7_flowAt 6 = .ok (.invokevirtual 175, 3) := by decide +kernel
theorem dX7_flowAt_9 : decode cX7_flowAt 9 = .ok (.istore_n 3, 1) := by decide +kernel
theorem dX7_flowAt_10 : decode cX7_flowAt 10 = .ok (.aload_n 0, 1) := by decide +kernel
theorem dX7_flowAt_11 : decode cX7_flowAt 11 = .ok (.getfield 7, 3) := by decide +kernel
theorem dX7_flowAt_14 : decode cX7_flowAt 14 = .ok (.iload_n 1, 1) := by decide +kernel
theorem dX7_flowAt_15 : decode cX7_flowAt 15 = .ok (.bipush 10, 2) := by decide +kernel
theorem dX7_flowAt_17 : decode cX7_flowAt 17 = .ok (.iadd, 1) := by decide +kernel
theorem dX7_flowAt_18 : decode cX7_flowAt 18 = .ok (.iaload, 1) := by decide +kernel
theorem dX7_flowAt_19 : decode cX7_flowAt 19 = .ok (.iload_n 3, 1) := by decide +kernel
theorem dX7_flowAt_20 : decode cX7_flowAt 20 = .ok (.imul, 1) := by decide +kernel
theorem dX7_flowAt_21 : decode cX7_flowAt 21 = .ok (.aload_n 0, 1) := by decide +kernel
theorem dX7_flowAt_22 : decode cX7_flowAt 22 = .ok (.getfield 7, 3) := by decide +kernel
theorem dX7_flowAt_25 : decode cX7_flowAt 25 = .ok (.iload_n 1, 1) := by decide +kernel
theorem dX7_flowAt_26 : decode cX7_flowAt 26 = .ok (.iconst 0, 1) := by decide +kernel
theorem dX7_flowAt_27 : decode cX7_flowAt 27 = .ok (.iadd, 1) := by decide +kernel
theorem dX7_flowAt_28 : decode cX7_flowAt 28 = .ok (.iaload, 1) := by decide +kernel
theorem dX7_flowAt_29 : decode cX7_flowAt 29 = .ok (.isub, 1) := by decide +kernel
theorem dX7_flowAt_30 : decode cX7_flowAt 30 = .ok (.iconst 2, 1) := by decide +kernel
theorem dX7_flowAt_31 : decode cX7_flowAt 31 = .ok (.imul, 1) := by decide +kernel
theorem dX7_flowAt_32 : decode cX7_flowAt 32 = .ok (.aload_n 0, 1) := by decide +kernel
theorem dX7_flowAt_33 : decode cX7_flowAt 33 = .ok (.iconst 0, 1) := by decide +kernel
theorem dX7_flowAt_34 : decode cX7_flowAt 34 = .ok (.invokevirtual 188, 3) := by decide +kernel
theorem dX7_flowAt_37 : decode cX7_flowAt 37 = .ok (.imul, 1) := by decide +kernel
theorem dX7_flowAt_38 : decode cX7_flowAt 38 = .ok (.iload_n 3, 1) := by decide +kernel
theorem dX7_flowAt_39 : decode cX7_flowAt 39 = .ok (.aload_n 0, 1) := by decide +kernel
theorem dX7_flowAt_40 : decode cX7_flowAt 40 = .ok (.getfield 7, 3) := by decide +kernel
theorem dX7_flowAt_43 : decode cX7_flowAt 43 = .ok (.iload_n 1, 1) := by decide +kernel
theorem dX7_flowAt_44 : decode cX7_flowAt 44 = .ok (.bipush 12, 2) := by decide +kernel
theorem dX7_flowAt_46 : decode cX7_flowAt 46 = .ok (.iadd, 1) := by decide +kernel
theorem dX7_flowAt_47 : decode cX7_flowAt 47 = .ok (.iaload, 1) := by decide +kernel
theorem dX7_flowAt_48 : decode cX7_flowAt 48 = .ok (.imul, 1) := by decide +kernel
theorem dX7_flowAt_49 : decode cX7_flowAt 49 = .ok (.idiv, 1) := by decide +kernel
theorem dX7_flowAt_50 : decode cX7_flowAt 50 = .ok (.ireturn, 1) := by decide +kernel
theorem dX7_flowAt_51 : decode cX7_flowAt 51 = .ok (.aload_n 0, 1) := by decide +kernel
theorem dX7_flowAt_52 : decode cX7_flowAt 52 = .ok (.iload_n 2, 1) := by decide +kernel
theorem dX7_flowAt_53 : decode cX7_flowAt 53 = .ok (.iconst 1, 1) := by decide +kernel
theorem dX7_flowAt_54 : decode cX7_flowAt 54 = .ok (.isub, 1) := by decide +kernel
theorem dX7_flowAt_55 : decode cX7_flowAt 55 = .ok (.invokevirtual 188, 3) := by decide +kernel
theorem dX7_flowAt_58 : decode cX7_flowAt 58 = .ok (.istore_n 3, 1) := by decide +kernel
theorem dX7_flowAt_59 : decode cX7_flowAt 59 = .ok (.aload_n 0, 1) := by decide +kernel
theorem dX7_flowAt_60 : decode cX7_flowAt 60 = .ok (.iload_n 2, 1) := by decide +kernel
theorem dX7_flowAt_61 : decode cX7_flowAt 61 = .ok (.iconst 1, 1) := by decide +kernel
theorem dX7_flowAt_62 : decode cX7_flowAt 62 = .ok (.isub, 1) := by decide +kernel
theorem dX7_flowAt_63 : decode cX7_flowAt 63 = .ok (.invokevirtual 175, 3) := by decide +kernel
theorem dX7_flowAt_66 : decode cX7_flowAt 66 = .ok (.istore 4, 2) := by decide +kernel
theorem dX7_flowAt_68 : decode cX7_flowAt 68 = .ok (.aload_n 0, 1) := by decide +kernel
theorem dX7_flowAt_69 : decode cX7_flowAt 69 = .ok (.getfield 7, 3) := by decide +kernel
theorem dX7_flowAt_72 : decode cX7_flowAt 72 = .ok (.iload_n 1, 1) := by decide +kernel
theorem dX7_flowAt_73 : decode cX7_flowAt 73 = .ok (.iconst 0, 1) := by decide +kernel
theorem dX7_flowAt_74 : decode cX7_flowAt 74 = .ok (.iadd, 1) := by decide +kernel
theorem dX7_flowAt_75 : decode cX7_flowAt 75 = .ok (.iload_n 2, 1) := by decide +kernel
theorem dX7_flowAt_76 : decode cX7_flowAt 76 = .ok (.iadd, 1) := by decide +kernel
theorem dX7_flowAt_77 : decode cX7_flowAt 77 = .ok (.iconst 1, 1) := by decide +kernel
theorem dX7_flowAt_78 : decode cX7_flowAt 78 = .ok (.isub, 1) := by decide +kernel
theorem dX7_flowAt_79 : decode cX7_flowAt 79 = .ok (.iaload, 1) := by decide +kernel
theorem dX7_flowAt_80 : decode cX7_flowAt 80 = .ok (.istore 5, 2) := by decide +kernel
theorem dX7_flowAt_82 : decode cX7_flowAt 82 = .ok (.iload_n 2, 1) := by decide +kernel
theorem dX7_flowAt_83 : decode cX7_flowAt 83 = .ok (.aload_n 0, 1) := by decide +kernel
theorem dX7_flowAt_84 : decode cX7_flowAt 84 = .ok (.getfield 126, 3) := by decide +kernel
theorem dX7_flowAt_87 : decode cX7_flowAt 87 = .ok (.if_icmp .ne 38, 3) := by decide +kernel
theorem dX7_flowAt_90 : decode cX7_flowAt 90 = .ok (.iload 5, 2) := by decide +kernel
theorem dX7_flowAt_92 : decode cX7_flowAt 92 = .ok (.aload_n 0, 1) := by decide +kernel
theorem dX7_flowAt_93 : decode cX7_flowAt 93 = .ok (.getfield 7, 3) := by decide +kernel
theorem dX7_flowAt_96 : decode cX7_flowAt 96 = .ok (.iload_n 1, 1) := by decide +kernel
theorem dX7_flowAt_97 : decode cX7_flowAt 97 = .ok (.bipush 10, 2) := by decide +kernel
theorem dX7_flowAt_99 : decode cX7_flowAt 99 = .ok (.iadd, 1) := by decide +kernel
theorem dX7_flowAt_100 : decode cX7_flowAt 100 = .ok (.iconst 1, 1) := by decide +kernel
theorem dX7_flowAt_101 : decode cX7_flowAt 101 = .ok (.iadd, 1) := by decide +kernel
theorem dX7_flowAt_102 : decode cX7_flowAt 102 = .ok (.iaload, 1) := by decide +kernel
theorem dX7_flowAt_103 : decode cX7_flowAt 103 = .ok (.iload 4, 2) := by decide +kernel
theorem dX7_flowAt_105 : decode cX7_flowAt 105 = .ok (.imul, 1) := by decide +kernel
theorem dX7_flowAt_106 : decode cX7_flowAt 106 = .ok (.isub, 1) := by decide +kernel
theorem dX7_flowAt_107 : decode cX7_flowAt 107 = .ok (.iconst 2, 1) := by decide +kernel
theorem dX7_flowAt_108 : decode cX7_flowAt 108 = .ok (.imul, 1) := by decide +kernel
theorem dX7_flowAt_109 : decode cX7_flowAt 109 = .ok (.iload_n 3, 1) := by decide +kernel
theorem dX7_flowAt_110 : decode cX7_flowAt 110 = .ok (.imul, 1) := by decide +kernel
theorem dX7_flowAt_111 : decode cX7_flowAt 111 = .ok (.iload 4, 2) := by decide +kernel
theorem dX7_flowAt_113 : decode cX7_flowAt 113 = .ok (.aload_n 0, 1) := by decide +kernel
theorem dX7_flowAt_114 : decode cX7_flowAt 114 = .ok (.getfield 7, 3) := by decide +kernel
theorem dX7_flowAt_117 : decode cX7_flowAt 117 = .ok (.iload_n 1, 1) := by decide +kernel
theorem dX7_flowAt_118 : decode cX7_flowAt 118 = .ok (.bipush 12, 2) := by decide +kernel
theorem dX7_flowAt_120 : decode cX7_flowAt 120 = .ok (.iadd, 1) := by decide +kernel
theorem dX7_flowAt_121 : decode cX7_flowAt 121 = .ok (.iaload, 1) := by decide +kernel
theorem dX7_flowAt_122 : decode cX7_flowAt 122 = .ok (.imul, 1) := by decide +kernel
theorem dX7_flowAt_123 : decode cX7_flowAt 123 = .ok (.idiv, 1) := by decide +kernel
theorem dX7_flowAt_124 : decode cX7_flowAt 124 = .ok (.ireturn, 1) := by decide +kernel
theorem dX7_flowAt_125 : decode cX7_flowAt 125 = .ok (.aload_n 0, 1) := by decide +kernel
theorem dX7_flowAt_126 : decode cX7_flowAt 126 = .ok (.iload_n 2, 1) := by decide +kernel
theorem dX7_flowAt_127 : decode cX7_flowAt 127 = .ok (.invokevirtual 188, 3) := by decide +kernel
theorem dX7_flowAt_130 : decode cX7_flowAt 130 = .ok (.istore 6, 2) := by decide +kernel
theorem dX7_flowAt_132 : decode cX7_flowAt 132 = .ok (.aload_n 0, 1) := by decide +kernel
theorem dX7_flowAt_133 : decode cX7_flowAt 133 = .ok (.iload_n 2, 1) := by decide +kernel
theorem dX7_flowAt_134 : decode cX7_flowAt 134 = .ok (.invokevirtual 175, 3) := by decide +kernel
theorem dX7_flowAt_137 : decode cX7_flowAt 137 = .ok (.istore 7, 2) := by decide +kernel
theorem dX7_flowAt_139 : decode cX7_flowAt 139 = .ok (.iload 5, 2) := by decide +kernel
theorem dX7_flowAt_141 : decode cX7_flowAt 141 = .ok (.iload 7, 2) := by decide +kernel
theorem dX7_flowAt_143 : decode cX7_flowAt 143 = .ok (.imul, 1) := by decide +kernel
theorem dX7_flowAt_144 : decode cX7_flowAt 144 = .ok (.aload_n 0, 1) := by decide +kernel
theorem dX7_flowAt_145 : decode cX7_flowAt 145 = .ok (.getfield 7, 3) := by decide +kernel
theorem dX7_flowAt_148 : decode cX7_flowAt 148 = .ok (.iload_n 1, 1) := by decide +kernel
theorem dX7_flowAt_149 : decode cX7_flowAt 149 = .ok (.iconst 0, 1) := by decide +kernel
theorem dX7_flowAt_150 : decode cX7_flowAt 150 = .ok (.iadd, 1) := by decide +kernel
theorem dX7_flowAt_151 : decode cX7_flowAt 151 = .ok (.iload_n 2, 1) := by decide +kernel
theorem dX7_flowAt_152 : decode cX7_flowAt 152 = .ok (.iadd, 1) := by decide +kernel
theorem dX7_flowAt_153 : decode cX7_flowAt 153 = .ok (.iaload, 1) := by decide +kernel
theorem dX7_flowAt_154 : decode cX7_flowAt 154 = .ok (.iload 4, 2) := by decide +kernel
theorem dX7_flowAt_156 : decode cX7_flowAt 156 = .ok (.imul, 1) := by decide +kernel
theorem dX7_flowAt_157 : decode cX7_flowAt 157 = .ok (.isub, 1) := by decide +kernel
theorem dX7_flowAt_158 : decode cX7_flowAt 158 = .ok (.iconst 2, 1) := by decide +kernel
theorem dX7_flowAt_159 : decode cX7_flowAt 159 = .ok (.imul, 1) := by decide +kernel
theorem dX7_flowAt_160 : decode cX7_flowAt 160 = .ok (.iload_n 3, 1) := by decide +kernel
theorem dX7_flowAt_161 : decode cX7_flowAt 161 = .ok (.imul, 1) := by decide +kernel
theorem dX7_flowAt_162 : decode cX7_flowAt 162 = .ok (.iload 6, 2) := by decide +kernel
theorem dX7_flowAt_164 : decode cX7_flowAt 164 = .ok (.imul, 1) := by decide +kernel
theorem dX7_flowAt_165 : decode cX7_flowAt 165 = .ok (.iload 4, 2) := by decide +kernel
theorem dX7_flowAt_167 : decode cX7_flowAt 167 = .ok (.iload 7, 2) := by decide +kernel
theorem dX7_flowAt_169 : decode cX7_flowAt 169 = .ok (.imul, 1) := by decide +kernel
theorem dX7_flowAt_170 : decode cX7_flowAt 170 = .ok (.iload_n 3, 1) := by decide +kernel
theorem dX7_flowAt_171 : decode cX7_flowAt 171 = .ok (.iload 6, 2) := by decide +kernel
theorem dX7_flowAt_173 : decode cX7_flowAt 173 = .ok (.iadd, 1) := by decide +kernel
theorem dX7_flowAt_174 : decode cX7_flowAt 174 = .ok (.imul, 1) := by decide +kernel
theorem dX7_flowAt_175 : decode cX7_flowAt 175 = .ok (.aload_n 0, 1) := by decide +kernel
theorem dX7_flowAt_176 : decode cX7_flowAt 176 = .ok (.getfield 7, 3) := by decide +kernel
theorem dX7_flowAt_179 : decode cX7_flowAt 179 = .ok (.iload_n 1, 1) := by decide +kernel
theorem dX7_flowAt_180 : decode cX7_flowAt 180 = .ok (.bipush 12, 2) := by decide +kernel
theorem dX7_flowAt_182 : decode cX7_flowAt 182 = .ok (.iadd, 1) := by decide +kernel
theorem dX7_flowAt_183 : decode cX7_flowAt 183 = .ok (.iaload, 1) := by decide +kernel
theorem dX7_flowAt_184 : decode cX7_flowAt 184 = .ok (.imul, 1) := by decide +kernel
theorem dX7_flowAt_185 : decode cX7_flowAt 185 = .ok (.idiv, 1) := by decide +kernel
theorem dX7_flowAt_186 : decode cX7_flowAt 186 = .ok (.ireturn, 1) := by decide +kernel
theorem dX7_steps_0 : decode cX7_steps 0 = .ok (.iconst 1, 1) := by decide +kernel
theorem dX7_steps_1 : decode cX7_steps 1 = .ok (.istore_n 2, 1) := by decide +kernel
theorem dX7_steps_2 : decode cX7_steps 2 = .ok (.iconst 0, 1) := by decide +kernel
theorem dX7_steps_3 : decode cX7_steps 3 = .ok (.istore_n 3, 1) := by decide +kernel
theorem dX7_steps_4 : decode cX7_steps 4 = .ok (.iload_n 3, 1) := by decide +kernel
theorem dX7_steps_5 : decode cX7_steps 5 = .ok (.aload_n 0, 1) := by decide +kernel
theorem dX7_steps_6 : decode cX7_steps 6 = .ok (.getfield 126, 3) := by decide +kernel
theorem dX7_steps_9 : decode cX7_steps 9 = .ok (.if_icmp .gt 21, 3) := by decide +kernel
theorem dX7_steps_12 : decode cX7_steps 12 = .ok (.aload_n 0, 1) := by decide +kernel
theorem dX7_steps_13 : decode cX7_steps 13 = .ok (.getfield 59, 3) := by decide +kernel
theorem dX7_steps_16 : decode cX7_steps 16 = .ok (.iload_n 3, 1) := by decide +kernel
theorem dX7_steps_17 : decode cX7_steps 17 = .ok (.aload_n 0, 1) := by decide +kernel
theorem dX7_steps_18 : decode cX7_steps 18 = .ok (.iload_n 1, 1) := by decide +kernel
theorem dX7_steps_19 : decode cX7_steps 19 = .ok (.iload_n 3, 1) := by decide +kernel
theorem dX7_steps_20 : decode cX7_steps 20 = .ok (.invokevirtual 193, 3) := by decide +kernel
theorem dX7_steps_23 : decode cX7_steps 23 = .ok (.iastore, 1) := by decide +kernel
theorem dX7_steps_24 : decode cX7_steps 24 = .ok (.iinc 3 1, 3) := by decide +kernel
theorem dX7_steps_27 : decode cX7_steps 27 = .ok (.goto (-23), 3) := by decide +kernel
theorem dX7_steps_30 : decode cX7_steps 30 = .ok (.iconst 0, 1) := by decide +kernel
theorem dX7_steps_31 : decode cX7_steps 31 = .ok (.istore_n 3, 1) := by decide +kernel
theorem dX7_steps_32 : decode cX7_steps 32 = .ok (.iload_n 3, 1) := by decide +kernel
theorem dX7_steps_33 : decode cX7_steps 33 = .ok (.aload_n 0, 1) := by decide +kernel
theorem dX7_steps_34 : decode cX7_steps 34 = .ok (.getfield 126, 3) := by decide +kernel
theorem dX7_steps_37 : decode cX7_steps 37 = .ok (.if_icmp .ge 56, 3) := by decide +kernel
theorem dX7_steps_40 : decode cX7_steps 40 = .ok (.iload_n 2, 1) := by decide +kernel
theorem dX7_steps_41 : decode cX7_steps 41 = .ok (.ifCond .eq 44, 3) := by decide +kernel
theorem dX7_steps_44 : decode cX7_steps 44 = .ok (.aload_n 0, 1) := by decide +kernel
theorem dX7_steps_45 : decode cX7_steps 45 = .ok (.getfield 7, 3) := by decide +kernel
theorem dX7_steps_48 : decode cX7_steps 48 = .ok (.iload_n 1, 1) := by decide +kernel
theorem dX7_steps_49 : decode cX7_steps 49 = .ok (.iconst 0, 1) := by decide +kernel
theorem dX7_steps_50 : decode cX7_steps 50 = .ok (.iadd, 1) := by decide +kernel
theorem dX7_steps_51 : decode cX7_steps 51 = .ok (.iload_n 3, 1) := by decide +kernel
theorem dX7_steps_52 : decode cX7_steps 52 = .ok (.iadd, 1) := by decide +kernel
theorem dX7_steps_53 : decode cX7_steps 53 = .ok (.iaload, 1) := by decide +kernel
theorem dX7_steps_54 : decode cX7_steps 54 = .ok (.aload_n 0, 1) := by decide +kernel
theorem dX7_steps_55 : decode cX7_steps 55 = .ok (.getfield 59, 3) := by decide +kernel
theorem dX7_steps_58 : decode cX7_steps 58 = .ok (.iload_n 3, 1) := by decide +kernel
theorem dX7_steps_59 : decode cX7_steps 59 = .ok (.iaload, 1) := by decide +kernel
theorem dX7_steps_60 : decode cX7_steps 60 = .ok (.iadd, 1) := by decide +kernel
theorem dX7_steps_61 : decode cX7_steps 61 = .ok (.aload_n 0, 1) := by decide +kernel
theorem dX7_steps_62 : decode cX7_steps 62 = .ok (.getfield 59, 3) := by decide +kernel
theorem dX7_steps_65 : decode cX7_steps 65 = .ok (.iload_n 3, 1) := by decide +kernel
theorem dX7_steps_66 : decode cX7_steps 66 = .ok (.iconst 1, 1) := by decide +kernel
theorem dX7_steps_67 : decode cX7_steps 67 = .ok (.iadd, 1) := by decide +kernel
theorem dX7_steps_68 : decode cX7_steps 68 = .ok (.iaload, 1) := by decide +kernel
theorem dX7_steps_69 : decode cX7_steps 69 = .ok (.isub, 1) := by decide +kernel
theorem dX7_steps_70 : decode cX7_steps 70 = .ok (.i2l, 1) := by decide +kernel
theorem dX7_steps_71 : decode cX7_steps 71 = .ok (.lconst 0, 1) := by decide +kernel
theorem dX7_steps_72 : decode cX7_steps 72 = .ok (.ldc2_w 196, 3) := by decide +kernel
theorem dX7_steps_75 : decode cX7_steps 75 = .ok (.invokestatic 64, 3) := by decide +kernel
theorem dX7_steps_78 : decode cX7_steps 78 = .ok (.ifCond .eq 7, 3) := by decide +kernel
theorem dX7_steps_81 : decode cX7_steps 81 = .ok (.iconst 1, 1) := by decide +kernel
theorem dX7_steps_82 : decode cX7_steps 82 = .ok (.goto 4, 3) := by decide +kernel
theorem dX7_steps_85 : decode cX7_steps 85 = .ok (.iconst 0, 1) := by decide +kernel
theorem dX7_steps_86 : decode cX7_steps 86 = .ok (.istore_n 2, 1) := by decide +kernel
theorem dX7_steps_87 : decode cX7_steps 87 = .ok (.iinc 3 1, 3) := by decide +kernel
theorem dX7_steps_90 : decode cX7_steps 90 = .ok (.goto (-58), 3) := by decide +kernel
theorem dX7_steps_93 : decode cX7_steps 93 = .ok (.iconst 0, 1) := by decide +kernel
theorem dX7_steps_94 : decode cX7_steps 94 = .ok (.istore_n 3, 1) := by decide +kernel
theorem dX7_steps_95 : decode cX7_steps 95 = .ok (.iload_n 3, 1) := by decide +kernel
theorem dX7_steps_96 : decode cX7_steps 96 = .ok (.aload_n 0, 1) := by decide +kernel
theorem dX7_steps_97 : decode cX7_steps 97 = .ok (.getfield 126, 3) := by decide +kernel
theorem dX7_steps_100 : decode cX7_steps 100 = .ok (.if_icmp .ge 41, 3) := by decide +kernel
theorem dX7_steps_103 : decode cX7_steps 103 = .ok (.iload_n 2, 1) := by decide +kernel
theorem dX7_steps_104 : decode cX7_steps 104 = .ok (.ifCond .eq 37, 3) := by decide +kernel
theorem dX7_steps_107 : decode cX7_steps 107 = .ok (.aload_n 0, 1) := by decide +kernel
theorem dX7_steps_108 : decode cX7_steps 108 = .ok (.getfield 7, 3) := by decide +kernel
theorem dX7_steps_111 : decode cX7_steps 111 = .ok (.iload_n 1, 1) := by decide +kernel
theorem dX7_steps_112 : decode cX7_steps 112 = .ok (.iconst 0, 1) := by decide +kernel
theorem dX7_steps_113 : decode cX7_steps 113 = .ok (.iadd, 1) := by decide +kernel
theorem dX7_steps_114 : decode cX7_steps 114 = .ok (.iload_n 3, 1) := by decide +kernel
theorem dX7_steps_115 : decode cX7_steps 115 = .ok (.iadd, 1) := by decide +kernel
theorem dX7_steps_116 : decode cX7_steps 116 = .ok (.dup2, 1) := by decide +kernel
theorem dX7_steps_117 : decode cX7_steps 117 = .ok (.iaload, 1) := by decide +kernel
theorem dX7_steps_118 : decode cX7_steps 118 = .ok (.aload_n 0, 1) := by decide +kernel
theorem dX7_steps_119 : decode cX7_steps 119 = .ok (.getfield 59, 3) := by decide +kernel
theorem dX7_steps_122 : decode cX7_steps 122 = .ok (.iload_n 3, 1) := by decide +kernel
theorem dX7_steps_123 : decode cX7_steps 123 = .ok (.iaload, 1) := by decide +kernel
theorem dX7_steps_124 : decode cX7_steps 124 = .ok (.aload_n 0, 1) := by decide +kernel
theorem dX7_steps_125 : decode cX7_steps 125 = .ok (.getfield 59, 3) := by decide +kernel
theorem dX7_steps_128 : decode cX7_steps 128 = .ok (.iload_n 3, 1) := by decide +kernel
theorem dX7_steps_129 : decode cX7_steps 129 = .ok (.iconst 1, 1) := by decide +kernel
theorem dX7_steps_130 : decode cX7_steps 130 = .ok (.iadd, 1) := by decide +kernel
theorem dX7_steps_131 : decode cX7_steps 131 = .ok (.iaload, 1) := by decide +kernel
theorem dX7_steps_132 : decode cX7_steps 132 = .ok (.isub, 1) := by decide +kernel
theorem dX7_steps_133 : decode cX7_steps 133 = .ok (.iadd, 1) := by decide +kernel
theorem dX7_steps_134 : decode cX7_steps 134 = .ok (.iastore, 1) := by decide +kernel
theorem dX7_steps_135 : decode cX7_steps 135 = .ok (.iinc 3 1, 3) := by decide +kernel
theorem dX7_steps_138 : decode cX7_steps 138 = .ok (.goto (-43), 3) := by decide +kernel
theorem dX7_steps_141 : decode cX7_steps 141 = .ok (.iload_n 2, 1) := by decide +kernel
theorem dX7_steps_142 : decode cX7_steps 142 = .ok (.ifCond .eq 55, 3) := by decide +kernel
theorem dX7_steps_145 : decode cX7_steps 145 = .ok (.aload_n 0, 1) := by decide +kernel
theorem dX7_steps_146 : decode cX7_steps 146 = .ok (.getfield 7, 3) := by decide +kernel
theorem dX7_steps_149 : decode cX7_steps 149 = .ok (.iload_n 1, 1) := by decide +kernel
theorem dX7_steps_150 : decode cX7_steps 150 = .ok (.bipush 13, 2) := by decide +kernel
theorem dX7_steps_152 : decode cX7_steps 152 = .ok (.iadd, 1) := by decide +kernel
theorem dX7_steps_153 : decode cX7_steps 153 = .ok (.dup2, 1) := by decide +kernel
theorem dX7_steps_154 : decode cX7_steps 154 = .ok (.iaload, 1) := by decide +kernel
theorem dX7_steps_155 : decode cX7_steps 155 = .ok (.aload_n 0, 1) := by decide +kernel
theorem dX7_steps_156 : decode cX7_steps 156 = .ok (.getfield 59, 3) := by decide +kernel
theorem dX7_steps_159 : decode cX7_steps 159 = .ok (.iconst 0, 1) := by decide +kernel
theorem dX7_steps_160 : decode cX7_steps 160 = .ok (.iaload, 1) := by decide +kernel
theorem dX7_steps_161 : decode cX7_steps 161 = .ok (.iadd, 1) := by decide +kernel
theorem dX7_steps_162 : decode cX7_steps 162 = .ok (.iastore, 1) := by decide +kernel
theorem dX7_steps_163 : decode cX7_steps 163 = .ok (.aload_n 0, 1) := by decide +kernel
theorem dX7_steps_164 : decode cX7_steps 164 = .ok (.getfield 7, 3) := by decide +kernel
theorem dX7_steps_167 : decode cX7_steps 167 = .ok (.iload_n 1, 1) := by decide +kernel
theorem dX7_steps_168 : decode cX7_steps 168 = .ok (.bipush 14, 2) := by decide +kernel
theorem dX7_steps_170 : decode cX7_steps 170 = .ok (.iadd, 1) := by decide +kernel
theorem dX7_steps_171 : decode cX7_steps 171 = .ok (.dup2, 1) := by decide +kernel
theorem dX7_steps_172 : decode cX7_steps 172 = .ok (.iaload, 1) := by decide +kernel
theorem dX7_steps_173 : decode cX7_steps 173 = .ok (.aload_n 0, 1) := by decide +kernel
theorem dX7_steps_174 : decode cX7_steps 174 = .ok (.getfield 59, 3) := by decide +kernel
theorem dX7_steps_177 : decode cX7_steps 177 = .ok (.aload_n 0, 1) := by decide +kernel
theorem dX7_steps_178 : decode cX7_steps 178 = .ok (.getfield 126, 3) := by decide +kernel
theorem dX7_steps_181 : decode cX7_steps 181 = .ok (.iaload, 1) := by decide +kernel
theorem dX7_steps_182 : decode cX7_steps 182 = .ok (.iadd, 1) := by decide +kernel
theorem dX7_steps_183 : decode cX7_steps 183 = .ok (.iastore, 1) := by decide +kernel
theorem dX7_steps_184 : decode cX7_steps 184 = .ok (.aload_n 0, 1) := by decide +kernel
theorem dX7_steps_185 : decode cX7_steps 185 = .ok (.getfield 7, 3) := by decide +kernel
theorem dX7_steps_188 : decode cX7_steps 188 = .ok (.iload_n 1, 1) := by decide +kernel
theorem dX7_steps_189 : decode cX7_steps 189 = .ok (.bipush 15, 2) := by decide +kernel
theorem dX7_steps_191 : decode cX7_steps 191 = .ok (.iadd, 1) := by decide +kernel
theorem dX7_steps_192 : decode cX7_steps 192 = .ok (.dup2, 1) := by decide +kernel
theorem dX7_steps_193 : decode cX7_steps 193 = .ok (.iaload, 1) := by decide +kernel
theorem dX7_steps_194 : decode cX7_steps 194 = .ok (.iconst 1, 1) := by decide +kernel
theorem dX7_steps_195 : decode cX7_steps 195 = .ok (.iadd, 1) := by decide +kernel
theorem dX7_steps_196 : decode cX7_steps 196 = .ok (.iastore, 1) := by decide +kernel
theorem dX7_steps_197 : decode cX7_steps 197 = .ok (.iload_n 2, 1) := by decide +kernel
theorem dX7_steps_198 : decode cX7_steps 198 = .ok (.ireturn, 1) := by decide +kernel
theorem dX7_allHeat_0 : decode cX7_allHeat 0 = .ok (.iconst 0, 1) := by decide +kernel
theorem dX7_allHeat_1 : decode cX7_allHeat 1 = .ok (.istore_n 1, 1) := by decide +kernel
theorem dX7_allHeat_2 : decode cX7_allHeat 2 = .ok (.iconst 0, 1) := by decide +kernel
theorem dX7_allHeat_3 : decode cX7_allHeat 3 = .ok (.istore_n 2, 1) := by decide +kernel
theorem dX7_allHeat_4 : decode cX7_allHeat 4 = .ok (.iload_n 2, 1) := by decide +kernel
theorem dX7_allHeat_5 : decode cX7_allHeat 5 = .ok (.aload_n 0, 1) := by decide +kernel
theorem dX7_allHeat_6 : decode cX7_allHeat 6 = .ok (.getfield 126, 3) := by decide +kernel
theorem dX7_allHeat_9 : decode cX7_allHeat 9 = .ok (.if_icmp .ge 20, 3) := by decide +kernel
theorem dX7_allHeat_12 : decode cX7_allHeat 12 = .ok (.iload_n 1, 1) := by decide +kernel
theorem dX7_allHeat_13 : decode cX7_allHeat 13 = .ok (.aload_n 0, 1) := by decide +kernel
theorem dX7_allHeat_14 : decode cX7_allHeat 14 = .ok (.getfield 7, 3) := by decide +kernel
theorem dX7_allHeat_17 : decode cX7_allHeat 17 = .ok (.iconst 0, 1) := by decide +kernel
theorem dX7_allHeat_18 : decode cX7_allHeat 18 = .ok (.iload_n 2, 1) := by decide +kernel
theorem dX7_allHeat_19 : decode cX7_allHeat 19 = .ok (.iadd, 1) := by decide +kernel
theorem dX7_allHeat_20 : decode cX7_allHeat 20 = .ok (.iaload, 1) := by decide +kernel
theorem dX7_allHeat_21 : decode cX7_allHeat 21 = .ok (.iadd, 1) := by decide +kernel
theorem dX7_allHeat_22 : decode cX7_allHeat 22 = .ok (.istore_n 1, 1) := by decide +kernel
theorem dX7_allHeat_23 : decode cX7_allHeat 23 = .ok (.iinc 2 1, 3) := by decide +kernel
theorem dX7_allHeat_26 : decode cX7_allHeat 26 = .ok (.goto (-22), 3) := by decide +kernel
theorem dX7_allHeat_29 : decode cX7_allHeat 29 = .ok (.iload_n 1, 1) := by decide +kernel
theorem dX7_allHeat_30 : decode cX7_allHeat 30 = .ok (.ireturn, 1) := by decide +kernel
theorem dX7_safeFor_0 : decode cX7_safeFor 0 = .ok (.aload_n 0, 1) := by decide +kernel
theorem dX7_safeFor_1 : decode cX7_safeFor 1 = .ok (.iload_n 1, 1) := by decide +kernel
theorem dX7_safeFor_2 : decode cX7_safeFor 2 = .ok (.invokevirtual 188, 3) := by decide +kernel
theorem dX7_safeFor_5 : decode cX7_safeFor 5 = .ok (.istore_n 2, 1) := by decide +kernel
theorem dX7_safeFor_6 : decode cX7_safeFor 6 = .ok (.iload_n 1, 1) := by decide +kernel
theorem dX7_safeFor_7 : decode cX7_safeFor 7 = .ok (.ifCond .ne 7, 3) := by decide +kernel
theorem dX7_safeFor_10 : decode cX7_safeFor 10 = .ok (.iconst 1, 1) := by decide +kernel
theorem dX7_safeFor_11 : decode cX7_safeFor 11 = .ok (.goto 12, 3) := by decide +kernel
theorem dX7_safeFor_14 : decode cX7_safeFor 14 = .ok (.iload_n 2, 1) := by decide +kernel
theorem dX7_safeFor_15 : decode cX7_safeFor 15 = .ok (.aload_n 0, 1) := by decide +kernel
theorem dX7_safeFor_16 : decode cX7_safeFor 16 = .ok (.iload_n 1, 1) := by decide +kernel
theorem dX7_safeFor_17 : decode cX7_safeFor 17 = .ok (.iconst 1, 1) := by decide +kernel
theorem dX7_safeFor_18 : decode cX7_safeFor 18 = .ok (.isub, 1) := by decide +kernel
theorem dX7_safeFor_19 : decode cX7_safeFor 19 = .ok (.invokevirtual 188, 3) := by decide +kernel
theorem dX7_safeFor_22 : decode cX7_safeFor 22 = .ok (.iadd, 1) := by decide +kernel
theorem dX7_safeFor_23 : decode cX7_safeFor 23 = .ok (.istore_n 3, 1) := by decide +kernel
theorem dX7_safeFor_24 : decode cX7_safeFor 24 = .ok (.iload_n 1, 1) := by decide +kernel
theorem dX7_safeFor_25 : decode cX7_safeFor 25 = .ok (.aload_n 0, 1) := by decide +kernel
theorem dX7_safeFor_26 : decode cX7_safeFor 26 = .ok (.getfield 126, 3) := by decide +kernel
theorem dX7_safeFor_29 : decode cX7_safeFor 29 = .ok (.iconst 1, 1) := by decide +kernel
theorem dX7_safeFor_30 : decode cX7_safeFor 30 = .ok (.isub, 1) := by decide +kernel
theorem dX7_safeFor_31 : decode cX7_safeFor 31 = .ok (.if_icmp .ne 7, 3) := by decide +kernel
theorem dX7_safeFor_34 : decode cX7_safeFor 34 = .ok (.iconst 1, 1) := by decide +kernel
theorem dX7_safeFor_35 : decode cX7_safeFor 35 = .ok (.goto 12, 3) := by decide +kernel
theorem dX7_safeFor_38 : decode cX7_safeFor 38 = .ok (.iload_n 2, 1) := by decide +kernel
theorem dX7_safeFor_39 : decode cX7_safeFor 39 = .ok (.aload_n 0, 1) := by decide +kernel
theorem dX7_safeFor_40 : decode cX7_safeFor 40 = .ok (.iload_n 1, 1) := by decide +kernel
theorem dX7_safeFor_41 : decode cX7_safeFor 41 = .ok (.iconst 1, 1) := by decide +kernel
theorem dX7_safeFor_42 : decode cX7_safeFor 42 = .ok (.iadd, 1) := by decide +kernel
theorem dX7_safeFor_43 : decode cX7_safeFor 43 = .ok (.invokevirtual 188, 3) := by decide +kernel
theorem dX7_safeFor_46 : decode cX7_safeFor 46 = .ok (.iadd, 1) := by decide +kernel
theorem dX7_safeFor_47 : decode cX7_safeFor 47 = .ok (.istore 4, 2) := by decide +kernel
theorem dX7_safeFor_49 : decode cX7_safeFor 49 = .ok (.iconst 2, 1) := by decide +kernel
theorem dX7_safeFor_50 : decode cX7_safeFor 50 = .ok (.iload_n 2, 1) := by decide +kernel
theorem dX7_safeFor_51 : decode cX7_safeFor 51 = .ok (.imul, 1) := by decide +kernel
theorem dX7_safeFor_52 : decode cX7_safeFor 52 = .ok (.iload_n 1, 1) := by decide +kernel
theorem dX7_safeFor_53 : decode cX7_safeFor 53 = .ok (.ifCond .ne 7, 3) := by decide +kernel
theorem dX7_safeFor_56 : decode cX7_safeFor 56 = .ok (.iconst 1, 1) := by decide +kernel
theorem dX7_safeFor_57 : decode cX7_safeFor 57 = .ok (.goto 10, 3) := by decide +kernel
theorem dX7_safeFor_60 : decode cX7_safeFor 60 = .ok (.aload_n 0, 1) := by decide +kernel
theorem dX7_safeFor_61 : decode cX7_safeFor 61 = .ok (.iload_n 1, 1) := by decide +kernel
theorem dX7_safeFor_62 : decode cX7_safeFor 62 = .ok (.iconst 1, 1) := by decide +kernel
theorem dX7_safeFor_63 : decode cX7_safeFor 63 = .ok (.isub, 1) := by decide +kernel
theorem dX7_safeFor_64 : decode cX7_safeFor 64 = .ok (.invokevirtual 188, 3) := by decide +kernel
theorem dX7_safeFor_67 : decode cX7_safeFor 67 = .ok (.imul, 1) := by decide +kernel
theorem dX7_safeFor_68 : decode cX7_safeFor 68 = .ok (.iload 4, 2) := by decide +kernel
theorem dX7_safeFor_70 : decode cX7_safeFor 70 = .ok (.imul, 1) := by decide +kernel
theorem dX7_safeFor_71 : decode cX7_safeFor 71 = .ok (.iconst 2, 1) := by decide +kernel
theorem dX7_safeFor_72 : decode cX7_safeFor 72 = .ok (.iload_n 2, 1) := by decide +kernel
theorem dX7_safeFor_73 : decode cX7_safeFor 73 = .ok (.imul, 1) := by decide +kernel
theorem dX7_safeFor_74 : decode cX7_safeFor 74 = .ok (.iload_n 1, 1) := by decide +kernel
theorem dX7_safeFor_75 : decode cX7_safeFor 75 = .ok (.aload_n 0, 1) := by decide +kernel
theorem dX7_safeFor_76 : decode cX7_safeFor 76 = .ok (.getfield 126, 3) := by decide +kernel
theorem dX7_safeFor_79 : decode cX7_safeFor 79 = .ok (.iconst 1, 1) := by decide +kernel
theorem dX7_safeFor_80 : decode cX7_safeFor 80 = .ok (.isub, 1) := by decide +kernel
theorem dX7_safeFor_81 : decode cX7_safeFor 81 = .ok (.if_icmp .ne 7, 3) := by decide +kernel
theorem dX7_safeFor_84 : decode cX7_safeFor 84 = .ok (.iconst 1, 1) := by decide +kernel
theorem dX7_safeFor_85 : decode cX7_safeFor 85 = .ok (.goto 10, 3) := by decide +kernel
theorem dX7_safeFor_88 : decode cX7_safeFor 88 = .ok (.aload_n 0, 1) := by decide +kernel
theorem dX7_safeFor_89 : decode cX7_safeFor 89 = .ok (.iload_n 1, 1) := by decide +kernel
theorem dX7_safeFor_90 : decode cX7_safeFor 90 = .ok (.iconst 1, 1) := by decide +kernel
theorem dX7_safeFor_91 : decode cX7_safeFor 91 = .ok (.iadd, 1) := by decide +kernel
theorem dX7_safeFor_92 : decode cX7_safeFor 92 = .ok (.invokevirtual 188, 3) := by decide +kernel
theorem dX7_safeFor_95 : decode cX7_safeFor 95 = .ok (.imul, 1) := by decide +kernel
theorem dX7_safeFor_96 : decode cX7_safeFor 96 = .ok (.iload_n 3, 1) := by decide +kernel
theorem dX7_safeFor_97 : decode cX7_safeFor 97 = .ok (.imul, 1) := by decide +kernel
theorem dX7_safeFor_98 : decode cX7_safeFor 98 = .ok (.iadd, 1) := by decide +kernel
theorem dX7_safeFor_99 : decode cX7_safeFor 99 = .ok (.istore 5, 2) := by decide +kernel
theorem dX7_safeFor_101 : decode cX7_safeFor 101 = .ok (.iload_n 3, 1) := by decide +kernel
theorem dX7_safeFor_102 : decode cX7_safeFor 102 = .ok (.iload 4, 2) := by decide +kernel
theorem dX7_safeFor_104 : decode cX7_safeFor 104 = .ok (.imul, 1) := by decide +kernel
theorem dX7_safeFor_105 : decode cX7_safeFor 105 = .ok (.aload_n 0, 1) := by decide +kernel
theorem dX7_safeFor_106 : decode cX7_safeFor 106 = .ok (.iload_n 1, 1) := by decide +kernel
theorem dX7_safeFor_107 : decode cX7_safeFor 107 = .ok (.invokevirtual 175, 3) := by decide +kernel
theorem dX7_safeFor_110 : decode cX7_safeFor 110 = .ok (.imul, 1) := by decide +kernel
theorem dX7_safeFor_111 : decode cX7_safeFor 111 = .ok (.istore 6, 2) := by decide +kernel
theorem dX7_safeFor_113 : decode cX7_safeFor 113 = .ok (.iload 5, 2) := by decide +kernel
theorem dX7_safeFor_115 : decode cX7_safeFor 115 = .ok (.iload 6, 2) := by decide +kernel
theorem dX7_safeFor_117 : decode cX7_safeFor 117 = .ok (.iadd, 1) := by decide +kernel
theorem dX7_safeFor_118 : decode cX7_safeFor 118 = .ok (.iconst 1, 1) := by decide +kernel
theorem dX7_safeFor_119 : decode cX7_safeFor 119 = .ok (.isub, 1) := by decide +kernel
theorem dX7_safeFor_120 : decode cX7_safeFor 120 = .ok (.iload 6, 2) := by decide +kernel
theorem dX7_safeFor_122 : decode cX7_safeFor 122 = .ok (.idiv, 1) := by decide +kernel
theorem dX7_safeFor_123 : decode cX7_safeFor 123 = .ok (.ireturn, 1) := by decide +kernel
theorem dX7_safe_0 : decode cX7_safe 0 = .ok (.iconst 1, 1) := by decide +kernel
theorem dX7_safe_1 : decode cX7_safe 1 = .ok (.istore_n 1, 1) := by decide +kernel
theorem dX7_safe_2 : decode cX7_safe 2 = .ok (.iconst 0, 1) := by decide +kernel
theorem dX7_safe_3 : decode cX7_safe 3 = .ok (.istore_n 2, 1) := by decide +kernel
theorem dX7_safe_4 : decode cX7_safe 4 = .ok (.iload_n 2, 1) := by decide +kernel
theorem dX7_safe_5 : decode cX7_safe 5 = .ok (.aload_n 0, 1) := by decide +kernel
theorem dX7_safe_6 : decode cX7_safe 6 = .ok (.getfield 126, 3) := by decide +kernel
theorem dX7_safe_9 : decode cX7_safe 9 = .ok (.if_icmp .ge 28, 3) := by decide +kernel
theorem dX7_safe_12 : decode cX7_safe 12 = .ok (.aload_n 0, 1) := by decide +kernel
theorem dX7_safe_13 : decode cX7_safe 13 = .ok (.iload_n 2, 1) := by decide +kernel
theorem dX7_safe_14 : decode cX7_safe 14 = .ok (.invokevirtual 198, 3) := by decide +kernel
theorem dX7_safe_17 : decode cX7_safe 17 = .ok (.iload_n 1, 1) := by decide +kernel
theorem dX7_safe_18 : decode cX7_safe 18 = .ok (.if_icmp .le 11, 3) := by decide +kernel
theorem dX7_safe_21 : decode cX7_safe 21 = .ok (.aload_n 0, 1) := by decide +kernel
theorem dX7_safe_22 : decode cX7_safe 22 = .ok (.iload_n 2, 1) := by decide +kernel
theorem dX7_safe_23 : decode cX7_safe 23 = .ok (.invokevirtual 198, 3) := by decide +kernel
theorem dX7_safe_26 : decode cX7_safe 26 = .ok (.goto 4, 3) := by decide +kernel
theorem dX7_safe_29 : decode cX7_safe 29 = .ok (.iload_n 1, 1) := by decide +kernel
theorem dX7_safe_30 : decode cX7_safe 30 = .ok (.istore_n 1, 1) := by decide +kernel
theorem dX7_safe_31 : decode cX7_safe 31 = .ok (.iinc 2 1, 3) := by decide +kernel
theorem dX7_safe_34 : decode cX7_safe 34 = .ok (.goto (-30), 3) := by decide +kernel
theorem dX7_safe_37 : decode cX7_safe 37 = .ok (.iload_n 1, 1) := by decide +kernel
theorem dX7_safe_38 : decode cX7_safe 38 = .ok (.ireturn, 1) := by decide +kernel
theorem dX7_keepPast_0 : decode cX7_keepPast 0 = .ok (.iconst 0, 1) := by decide +kernel
theorem dX7_keepPast_1 : decode cX7_keepPast 1 = .ok (.istore_n 1, 1) := by decide +kernel
theorem dX7_keepPast_2 : decode cX7_keepPast 2 = .ok (.iload_n 1, 1) := by decide +kernel
theorem dX7_keepPast_3 : decode cX7_keepPast 3 = .ok (.bipush 112, 2) := by decide +kernel
theorem dX7_keepPast_5 : decode cX7_keepPast 5 = .ok (.if_icmp .ge 36, 3) := by decide +kernel
theorem dX7_keepPast_8 : decode cX7_keepPast 8 = .ok (.aload_n 0, 1) := by decide +kernel
theorem dX7_keepPast_9 : decode cX7_keepPast 9 = .ok (.getfield 157, 3) := by decide +kernel
theorem dX7_keepPast_12 : decode cX7_keepPast 12 = .ok (.bipush 8, 2) := by decide +kernel
theorem dX7_keepPast_14 : decode cX7_keepPast 14 = .ok (.if_icmp .ne 27, 3) := by decide +kernel
theorem dX7_keepPast_17 : decode cX7_keepPast 17 = .ok (.aload_n 0, 1) := by decide +kernel
theorem dX7_keepPast_18 : decode cX7_keepPast 18 = .ok (.getfield 7, 3) := by decide +kernel
theorem dX7_keepPast_21 : decode cX7_keepPast 21 = .ok (.bipush 16, 2) := by decide +kernel
theorem dX7_keepPast_23 : decode cX7_keepPast 23 = .ok (.iload_n 1, 1) := by decide +kernel
theorem dX7_keepPast_24 : decode cX7_keepPast 24 = .ok (.iadd, 1) := by decide +kernel
theorem dX7_keepPast_25 : decode cX7_keepPast 25 = .ok (.aload_n 0, 1) := by decide +kernel
theorem dX7_keepPast_26 : decode cX7_keepPast 26 = .ok (.getfield 7, 3) := by decide +kernel
theorem dX7_keepPast_29 : decode cX7_keepPast 29 = .ok (.bipush 32, 2) := by decide +kernel
theorem dX7_keepPast_31 : decode cX7_keepPast 31 = .ok (.iload_n 1, 1) := by decide +kernel
theorem dX7_keepPast_32 : decode cX7_keepPast 32 = .ok (.iadd, 1) := by decide +kernel
theorem dX7_keepPast_33 : decode cX7_keepPast 33 = .ok (.iaload, 1) := by decide +kernel
theorem dX7_keepPast_34 : decode cX7_keepPast 34 = .ok (.iastore, 1) := by decide +kernel
theorem dX7_keepPast_35 : decode cX7_keepPast 35 = .ok (.iinc 1 1, 3) := by decide +kernel
theorem dX7_keepPast_38 : decode cX7_keepPast 38 = .ok (.goto (-36), 3) := by decide +kernel
theorem dX7_keepPast_41 : decode cX7_keepPast 41 = .ok (.aload_n 0, 1) := by decide +kernel
theorem dX7_keepPast_42 : decode cX7_keepPast 42 = .ok (.dup, 1) := by decide +kernel
theorem dX7_keepPast_43 : decode cX7_keepPast 43 = .ok (.getfield 157, 3) := by decide +kernel
theorem dX7_keepPast_46 : decode cX7_keepPast 46 = .ok (.aload_n 0, 1) := by decide +kernel
theorem dX7_keepPast_47 : decode cX7_keepPast 47 = .ok (.getfield 157, 3) := by decide +kernel
theorem dX7_keepPast_50 : decode cX7_keepPast 50 = .ok (.bipush 8, 2) := by decide +kernel
theorem dX7_keepPast_52 : decode cX7_keepPast 52 = .ok (.if_icmp .ne 7, 3) := by decide +kernel
theorem dX7_keepPast_55 : decode cX7_keepPast 55 = .ok (.iconst 1, 1) := by decide +kernel
theorem dX7_keepPast_56 : decode cX7_keepPast 56 = .ok (.goto 4, 3) := by decide +kernel
theorem dX7_keepPast_59 : decode cX7_keepPast 59 = .ok (.iconst 0, 1) := by decide +kernel
theorem dX7_keepPast_60 : decode cX7_keepPast 60 = .ok (.isub, 1) := by decide +kernel
theorem dX7_keepPast_61 : decode cX7_keepPast 61 = .ok (.putfield 157, 3) := by decide +kernel
theorem dX7_keepPast_64 : decode cX7_keepPast 64 = .ok (.aload_n 0, 1) := by decide +kernel
theorem dX7_keepPast_65 : decode cX7_keepPast 65 = .ok (.iconst 0, 1) := by decide +kernel
theorem dX7_keepPast_66 : decode cX7_keepPast 66 = .ok (.bipush 16, 2) := by decide +kernel
theorem dX7_keepPast_68 : decode cX7_keepPast 68 = .ok (.bipush 16, 2) := by decide +kernel
theorem dX7_keepPast_70 : decode cX7_keepPast 70 = .ok (.aload_n 0, 1) := by decide +kernel
theorem dX7_keepPast_71 : decode cX7_keepPast 71 = .ok (.getfield 157, 3) := by decide +kernel
theorem dX7_keepPast_74 : decode cX7_keepPast 74 = .ok (.imul, 1) := by decide +kernel
theorem dX7_keepPast_75 : decode cX7_keepPast 75 = .ok (.iadd, 1) := by decide +kernel
theorem dX7_keepPast_76 : decode cX7_keepPast 76 = .ok (.invokevirtual 201, 3) := by decide +kernel
theorem dX7_keepPast_79 : decode cX7_keepPast 79 = .ok (.aload_n 0, 1) := by decide +kernel
theorem dX7_keepPast_80 : decode cX7_keepPast 80 = .ok (.dup, 1) := by decide +kernel
theorem dX7_keepPast_81 : decode cX7_keepPast 81 = .ok (.getfield 157, 3) := by decide +kernel
theorem dX7_keepPast_84 : decode cX7_keepPast 84 = .ok (.iconst 1, 1) := by decide +kernel
theorem dX7_keepPast_85 : decode cX7_keepPast 85 = .ok (.iadd, 1) := by decide +kernel
theorem dX7_keepPast_86 : decode cX7_keepPast 86 = .ok (.putfield 157, 3) := by decide +kernel
theorem dX7_keepPast_89 : decode cX7_keepPast 89 = .ok (.return_, 1) := by decide +kernel
theorem dX7_step_0 : decode cX7_step 0 = .ok (.iload_n 1, 1) := by decide +kernel
theorem dX7_step_1 : decode cX7_step 1 = .ok (.i2l, 1) := by decide +kernel
theorem dX7_step_2 : decode cX7_step 2 = .ok (.lconst 1, 1) := by decide +kernel
theorem dX7_step_3 : decode cX7_step 3 = .ok (.ldc2_w 205, 3) := by decide +kernel
theorem dX7_step_6 : decode cX7_step 6 = .ok (.invokestatic 64, 3) := by decide +kernel
theorem dX7_step_9 : decode cX7_step 9 = .ok (.ifCond .ne 6, 3) := by decide +kernel
theorem dX7_step_12 : decode cX7_step 12 = .ok (.ldc 68, 2) := by decide +kernel
theorem dX7_step_14 : decode cX7_step 14 = .ok (.ireturn, 1) := by decide +kernel
theorem dX7_step_15 : decode cX7_step 15 = .ok (.aload_n 0, 1) := by decide +kernel
theorem dX7_step_16 : decode cX7_step 16 = .ok (.getfield 126, 3) := by decide +kernel
theorem dX7_step_19 : decode cX7_step 19 = .ok (.ifCond .ne 6, 3) := by decide +kernel
theorem dX7_step_22 : decode cX7_step 22 = .ok (.ldc 156, 2) := by decide +kernel
theorem dX7_step_24 : decode cX7_step 24 = .ok (.ireturn, 1) := by decide +kernel
theorem dX7_step_25 : decode cX7_step 25 = .ok (.aload_n 0, 1) := by decide +kernel
theorem dX7_step_26 : decode cX7_step 26 = .ok (.invokevirtual 207, 3) := by decide +kernel
theorem dX7_step_29 : decode cX7_step 29 = .ok (.iconst 0, 1) := by decide +kernel
theorem dX7_step_30 : decode cX7_step 30 = .ok (.istore_n 2, 1) := by decide +kernel
theorem dX7_step_31 : decode cX7_step 31 = .ok (.iload_n 2, 1) := by decide +kernel
theorem dX7_step_32 : decode cX7_step 32 = .ok (.iload_n 1, 1) := by decide +kernel
theorem dX7_step_33 : decode cX7_step 33 = .ok (.if_icmp .ge 17, 3) := by decide +kernel
theorem dX7_step_36 : decode cX7_step 36 = .ok (.aload_n 0, 1) := by decide +kernel
theorem dX7_step_37 : decode cX7_step 37 = .ok (.iconst 0, 1) := by decide +kernel
theorem dX7_step_38 : decode cX7_step 38 = .ok (.invokevirtual 210, 3) := by decide +kernel
theorem dX7_step_41 : decode cX7_step 41 = .ok (.ifCond .eq 9, 3) := by decide +kernel
theorem dX7_step_44 : decode cX7_step 44 = .ok (.iinc 2 1, 3) := by decide +kernel
theorem dX7_step_47 : decode cX7_step 47 = .ok (.goto (-16), 3) := by decide +kernel
theorem dX7_step_50 : decode cX7_step 50 = .ok (.iload_n 2, 1) := by decide +kernel
theorem dX7_step_51 : decode cX7_step 51 = .ok (.ireturn, 1) := by decide +kernel
theorem dX7_heat_0 : decode cX7_heat 0 = .ok (.aload_n 0, 1) := by decide +kernel
theorem dX7_heat_1 : decode cX7_heat 1 = .ok (.iload_n 1, 1) := by decide +kernel
theorem dX7_heat_2 : decode cX7_heat 2 = .ok (.invokevirtual 172, 3) := by decide +kernel
theorem dX7_heat_5 : decode cX7_heat 5 = .ok (.ifCond .ne 6, 3) := by decide +kernel
theorem dX7_heat_8 : decode cX7_heat 8 = .ok (.ldc 167, 2) := by decide +kernel
theorem dX7_heat_10 : decode cX7_heat 10 = .ok (.ireturn, 1) := by decide +kernel
theorem dX7_heat_11 : decode cX7_heat 11 = .ok (.iload_n 2, 1) := by decide +kernel
theorem dX7_heat_12 : decode cX7_heat 12 = .ok (.i2l, 1) := by decide +kernel
theorem dX7_heat_13 : decode cX7_heat 13 = .ok (.ldc2_w 213, 3) := by decide +kernel
theorem dX7_heat_16 : decode cX7_heat 16 = .ok (.ldc2_w 215, 3) := by decide +kernel
theorem dX7_heat_19 : decode cX7_heat 19 = .ok (.invokestatic 64, 3) := by decide +kernel
theorem dX7_heat_22 : decode cX7_heat 22 = .ok (.ifCond .ne 6, 3) := by decide +kernel
theorem dX7_heat_25 : decode cX7_heat 25 = .ok (.ldc 68, 2) := by decide +kernel
theorem dX7_heat_27 : decode cX7_heat 27 = .ok (.ireturn, 1) := by decide +kernel
theorem dX7_heat_28 : decode cX7_heat 28 = .ok (.aload_n 0, 1) := by decide +kernel
theorem dX7_heat_29 : decode cX7_heat 29 = .ok (.getfield 7, 3) := by decide +kernel
theorem dX7_heat_32 : decode cX7_heat 32 = .ok (.iconst 0, 1) := by decide +kernel
theorem dX7_heat_33 : decode cX7_heat 33 = .ok (.iload_n 1, 1) := by decide +kernel
theorem dX7_heat_34 : decode cX7_heat 34 = .ok (.iadd, 1) := by decide +kernel
theorem dX7_heat_35 : decode cX7_heat 35 = .ok (.iaload, 1) := by decide +kernel
theorem dX7_heat_36 : decode cX7_heat 36 = .ok (.iload_n 2, 1) := by decide +kernel
theorem dX7_heat_37 : decode cX7_heat 37 = .ok (.iadd, 1) := by decide +kernel
theorem dX7_heat_38 : decode cX7_heat 38 = .ok (.istore_n 3, 1) := by decide +kernel
theorem dX7_heat_39 : decode cX7_heat 39 = .ok (.iload_n 3, 1) := by decide +kernel
theorem dX7_heat_40 : decode cX7_heat 40 = .ok (.i2l, 1) := by decide +kernel
theorem dX7_heat_41 : decode cX7_heat 41 = .ok (.lconst 0, 1) := by decide +kernel
theorem dX7_heat_42 : decode cX7_heat 42 = .ok (.ldc2_w 196, 3) := by decide +kernel
theorem dX7_heat_45 : decode cX7_heat 45 = .ok (.invokestatic 64, 3) := by decide +kernel
theorem dX7_heat_48 : decode cX7_heat 48 = .ok (.ifCond .ne 6, 3) := by decide +kernel
theorem dX7_heat_51 : decode cX7_heat 51 = .ok (.ldc 156, 2) := by decide +kernel
theorem dX7_heat_53 : decode cX7_heat 53 = .ok (.ireturn, 1) := by decide +kernel
theorem dX7_heat_54 : decode cX7_heat 54 = .ok (.aload_n 0, 1) := by decide +kernel
theorem dX7_heat_55 : decode cX7_heat 55 = .ok (.invokevirtual 207, 3) := by decide +kernel
theorem dX7_heat_58 : decode cX7_heat 58 = .ok (.aload_n 0, 1) := by decide +kernel
theorem dX7_heat_59 : decode cX7_heat 59 = .ok (.getfield 7, 3) := by decide +kernel
theorem dX7_heat_62 : decode cX7_heat 62 = .ok (.iconst 0, 1) := by decide +kernel
theorem dX7_heat_63 : decode cX7_heat 63 = .ok (.iload_n 1, 1) := by decide +kernel
theorem dX7_heat_64 : decode cX7_heat 64 = .ok (.iadd, 1) := by decide +kernel
theorem dX7_heat_65 : decode cX7_heat 65 = .ok (.iload_n 3, 1) := by decide +kernel
theorem dX7_heat_66 : decode cX7_heat 66 = .ok (.iastore, 1) := by decide +kernel
theorem dX7_heat_67 : decode cX7_heat 67 = .ok (.iload_n 3, 1) := by decide +kernel
theorem dX7_heat_68 : decode cX7_heat 68 = .ok (.ireturn, 1) := by decide +kernel
theorem dX7_air_0 : decode cX7_air 0 = .ok (.iload_n 1, 1) := by decide +kernel
theorem dX7_air_1 : decode cX7_air 1 = .ok (.i2l, 1) := by decide +kernel
theorem dX7_air_2 : decode cX7_air 2 = .ok (.lconst 0, 1) := by decide +kernel
theorem dX7_air_3 : decode cX7_air 3 = .ok (.lconst 1, 1) := by decide +kernel
theorem dX7_air_4 : decode cX7_air 4 = .ok (.invokestatic 64, 3) := by decide +kernel
theorem dX7_air_7 : decode cX7_air 7 = .ok (.ifCond .eq 15, 3) := by decide +kernel
theorem dX7_air_10 : decode cX7_air 10 = .ok (.iload_n 2, 1) := by decide +kernel
theorem dX7_air_11 : decode cX7_air 11 = .ok (.i2l, 1) := by decide +kernel
theorem dX7_air_12 : decode cX7_air 12 = .ok (.lconst 0, 1) := by decide +kernel
theorem dX7_air_13 : decode cX7_air 13 = .ok (.ldc2_w 217, 3) := by decide +kernel
theorem dX7_air_16 : decode cX7_air 16 = .ok (.invokestatic 64, 3) := by decide +kernel
theorem dX7_air_19 : decode cX7_air 19 = .ok (.ifCond .ne 6, 3) := by decide +kernel
theorem dX7_air_22 : decode cX7_air 22 = .ok (.ldc 68, 2) := by decide +kernel
theorem dX7_air_24 : decode cX7_air 24 = .ok (.ireturn, 1) := by decide +kernel
theorem dX7_air_25 : decode cX7_air 25 = .ok (.aload_n 0, 1) := by decide +kernel
theorem dX7_air_26 : decode cX7_air 26 = .ok (.invokevirtual 207, 3) := by decide +kernel
theorem dX7_air_29 : decode cX7_air 29 = .ok (.aload_n 0, 1) := by decide +kernel
theorem dX7_air_30 : decode cX7_air 30 = .ok (.getfield 7, 3) := by decide +kernel
theorem dX7_air_33 : decode cX7_air 33 = .ok (.bipush 10, 2) := by decide +kernel
theorem dX7_air_35 : decode cX7_air 35 = .ok (.iload_n 1, 1) := by decide +kernel
theorem dX7_air_36 : decode cX7_air 36 = .ok (.iadd, 1) := by decide +kernel
theorem dX7_air_37 : decode cX7_air 37 = .ok (.iaload, 1) := by decide +kernel
theorem dX7_air_38 : decode cX7_air 38 = .ok (.istore_n 3, 1) := by decide +kernel
theorem dX7_air_39 : decode cX7_air 39 = .ok (.aload_n 0, 1) := by decide +kernel
theorem dX7_air_40 : decode cX7_air 40 = .ok (.getfield 7, 3) := by decide +kernel
theorem dX7_air_43 : decode cX7_air 43 = .ok (.bipush 10, 2) := by decide +kernel
theorem dX7_air_45 : decode cX7_air 45 = .ok (.iload_n 1, 1) := by decide +kernel
theorem dX7_air_46 : decode cX7_air 46 = .ok (.iadd, 1) := by decide +kernel
theorem dX7_air_47 : decode cX7_air 47 = .ok (.iload_n 2, 1) := by decide +kernel
theorem dX7_air_48 : decode cX7_air 48 = .ok (.iastore, 1) := by decide +kernel
theorem dX7_air_49 : decode cX7_air 49 = .ok (.iload_n 3, 1) := by decide +kernel
theorem dX7_air_50 : decode cX7_air 50 = .ok (.ireturn, 1) := by decide +kernel
theorem dX7_pace_0 : decode cX7_pace 0 = .ok (.iload_n 1, 1) := by decide +kernel
theorem dX7_pace_1 : decode cX7_pace 1 = .ok (.i2l, 1) := by decide +kernel
theorem dX7_pace_2 : decode cX7_pace 2 = .ok (.lconst 1, 1) := by decide +kernel
theorem dX7_pace_3 : decode cX7_pace 3 = .ok (.ldc2_w 217, 3) := by decide +kernel
theorem dX7_pace_6 : decode cX7_pace 6 = .ok (.invokestatic 64, 3) := by decide +kernel
theorem dX7_pace_9 : decode cX7_pace 9 = .ok (.ifCond .ne 6, 3) := by decide +kernel
theorem dX7_pace_12 : decode cX7_pace 12 = .ok (.ldc 68, 2) := by decide +kernel
theorem dX7_pace_14 : decode cX7_pace 14 = .ok (.ireturn, 1) := by decide +kernel
theorem dX7_pace_15 : decode cX7_pace 15 = .ok (.aload_n 0, 1) := by decide +kernel
theorem dX7_pace_16 : decode cX7_pace 16 = .ok (.invokevirtual 207, 3) := by decide +kernel
theorem dX7_pace_19 : decode cX7_pace 19 = .ok (.aload_n 0, 1) := by decide +kernel
theorem dX7_pace_20 : decode cX7_pace 20 = .ok (.getfield 7, 3) := by decide +kernel
theorem dX7_pace_23 : decode cX7_pace 23 = .ok (.bipush 12, 2) := by decide +kernel
theorem dX7_pace_25 : decode cX7_pace 25 = .ok (.iload_n 1, 1) := by decide +kernel
theorem dX7_pace_26 : decode cX7_pace 26 = .ok (.iastore, 1) := by decide +kernel
theorem dX7_pace_27 : decode cX7_pace 27 = .ok (.aload_n 0, 1) := by decide +kernel
theorem dX7_pace_28 : decode cX7_pace 28 = .ok (.invokevirtual 219, 3) := by decide +kernel
theorem dX7_pace_31 : decode cX7_pace 31 = .ok (.ireturn, 1) := by decide +kernel
theorem dX7_undo_0 : decode cX7_undo 0 = .ok (.aload_n 0, 1) := by decide +kernel
theorem dX7_undo_1 : decode cX7_undo 1 = .ok (.getfield 157, 3) := by decide +kernel
theorem dX7_undo_4 : decode cX7_undo 4 = .ok (.ifCond .ne 6, 3) := by decide +kernel
theorem dX7_undo_7 : decode cX7_undo 7 = .ok (.ldc 156, 2) := by decide +kernel
theorem dX7_undo_9 : decode cX7_undo 9 = .ok (.ireturn, 1) := by decide +kernel
theorem dX7_undo_10 : decode cX7_undo 10 = .ok (.aload_n 0, 1) := by decide +kernel
theorem dX7_undo_11 : decode cX7_undo 11 = .ok (.dup, 1) := by decide +kernel
theorem dX7_undo_12 : decode cX7_undo 12 = .ok (.getfield 157, 3) := by decide +kernel
theorem dX7_undo_15 : decode cX7_undo 15 = .ok (.iconst 1, 1) := by decide +kernel
theorem dX7_undo_16 : decode cX7_undo 16 = .ok (.isub, 1) := by decide +kernel
theorem dX7_undo_17 : decode cX7_undo 17 = .ok (.putfield 157, 3) := by decide +kernel
theorem dX7_undo_20 : decode cX7_undo 20 = .ok (.aload_n 0, 1) := by decide +kernel
theorem dX7_undo_21 : decode cX7_undo 21 = .ok (.bipush 16, 2) := by decide +kernel
theorem dX7_undo_23 : decode cX7_undo 23 = .ok (.bipush 16, 2) := by decide +kernel
theorem dX7_undo_25 : decode cX7_undo 25 = .ok (.aload_n 0, 1) := by decide +kernel
theorem dX7_undo_26 : decode cX7_undo 26 = .ok (.getfield 157, 3) := by decide +kernel
theorem dX7_undo_29 : decode cX7_undo 29 = .ok (.imul, 1) := by decide +kernel
theorem dX7_undo_30 : decode cX7_undo 30 = .ok (.iadd, 1) := by decide +kernel
theorem dX7_undo_31 : decode cX7_undo 31 = .ok (.iconst 0, 1) := by decide +kernel
theorem dX7_undo_32 : decode cX7_undo 32 = .ok (.invokevirtual 201, 3) := by decide +kernel
theorem dX7_undo_35 : decode cX7_undo 35 = .ok (.aload_n 0, 1) := by decide +kernel
theorem dX7_undo_36 : decode cX7_undo 36 = .ok (.getfield 157, 3) := by decide +kernel
theorem dX7_undo_39 : decode cX7_undo 39 = .ok (.ireturn, 1) := by decide +kernel
theorem dX7_keep_0 : decode cX7_keep 0 = .ok (.iload_n 1, 1) := by decide +kernel
theorem dX7_keep_1 : decode cX7_keep 1 = .ok (.i2l, 1) := by decide +kernel
theorem dX7_keep_2 : decode cX7_keep 2 = .ok (.lconst 0, 1) := by decide +kernel
theorem dX7_keep_3 : decode cX7_keep 3 = .ok (.lconst 1, 1) := by decide +kernel
theorem dX7_keep_4 : decode cX7_keep 4 = .ok (.invokestatic 64, 3) := by decide +kernel
theorem dX7_keep_7 : decode cX7_keep 7 = .ok (.ifCond .ne 6, 3) := by decide +kernel
theorem dX7_keep_10 : decode cX7_keep 10 = .ok (.ldc 167, 2) := by decide +kernel
theorem dX7_keep_12 : decode cX7_keep 12 = .ok (.ireturn, 1) := by decide +kernel
theorem dX7_keep_13 : decode cX7_keep 13 = .ok (.aload_n 0, 1) := by decide +kernel
theorem dX7_keep_14 : decode cX7_keep 14 = .ok (.iconst 0, 1) := by decide +kernel
theorem dX7_keep_15 : decode cX7_keep 15 = .ok (.sipush 144, 3) := by decide +kernel
theorem dX7_keep_18 : decode cX7_keep 18 = .ok (.bipush 16, 2) := by decide +kernel
theorem dX7_keep_20 : decode cX7_keep 20 = .ok (.iload_n 1, 1) := by decide +kernel
theorem dX7_keep_21 : decode cX7_keep 21 = .ok (.imul, 1) := by decide +kernel
theorem dX7_keep_22 : decode cX7_keep 22 = .ok (.iadd, 1) := by decide +kernel
theorem dX7_keep_23 : decode cX7_keep 23 = .ok (.invokevirtual 201, 3) := by decide +kernel
theorem dX7_keep_26 : decode cX7_keep 26 = .ok (.aload_n 0, 1) := by decide +kernel
theorem dX7_keep_27 : decode cX7_keep 27 = .ok (.getfield 28, 3) := by decide +kernel
theorem dX7_keep_30 : decode cX7_keep 30 = .ok (.iload_n 1, 1) := by decide +kernel
theorem dX7_keep_31 : decode cX7_keep 31 = .ok (.iconst 1, 1) := by decide +kernel
theorem dX7_keep_32 : decode cX7_keep 32 = .ok (.bastore, 1) := by decide +kernel
theorem dX7_keep_33 : decode cX7_keep 33 = .ok (.aload_n 0, 1) := by decide +kernel
theorem dX7_keep_34 : decode cX7_keep 34 = .ok (.invokevirtual 222, 3) := by decide +kernel
theorem dX7_keep_37 : decode cX7_keep 37 = .ok (.ireturn, 1) := by decide +kernel
theorem dX7_back_0 : decode cX7_back 0 = .ok (.iload_n 1, 1) := by decide +kernel
theorem dX7_back_1 : decode cX7_back 1 = .ok (.i2l, 1) := by decide +kernel
theorem dX7_back_2 : decode cX7_back 2 = .ok (.lconst 0, 1) := by decide +kernel
theorem dX7_back_3 : decode cX7_back 3 = .ok (.lconst 1, 1) := by decide +kernel
theorem dX7_back_4 : decode cX7_back 4 = .ok (.invokestatic 64, 3) := by decide +kernel
theorem dX7_back_7 : decode cX7_back 7 = .ok (.ifCond .ne 6, 3) := by decide +kernel
theorem dX7_back_10 : decode cX7_back 10 = .ok (.ldc 167, 2) := by decide +kernel
theorem dX7_back_12 : decode cX7_back 12 = .ok (.ireturn, 1) := by decide +kernel
theorem dX7_back_13 : decode cX7_back 13 = .ok (.aload_n 0, 1) := by decide +kernel
theorem dX7_back_14 : decode cX7_back 14 = .ok (.getfield 28, 3) := by decide +kernel
theorem dX7_back_17 : decode cX7_back 17 = .ok (.iload_n 1, 1) := by decide +kernel
theorem dX7_back_18 : decode cX7_back 18 = .ok (.baload, 1) := by decide +kernel
theorem dX7_back_19 : decode cX7_back 19 = .ok (.ifCond .ne 6, 3) := by decide +kernel
theorem dX7_back_22 : decode cX7_back 22 = .ok (.ldc 156, 2) := by decide +kernel
theorem dX7_back_24 : decode cX7_back 24 = .ok (.ireturn, 1) := by decide +kernel
theorem dX7_back_25 : decode cX7_back 25 = .ok (.aload_n 0, 1) := by decide +kernel
theorem dX7_back_26 : decode cX7_back 26 = .ok (.sipush 144, 3) := by decide +kernel
theorem dX7_back_29 : decode cX7_back 29 = .ok (.bipush 16, 2) := by decide +kernel
theorem dX7_back_31 : decode cX7_back 31 = .ok (.iload_n 1, 1) := by decide +kernel
theorem dX7_back_32 : decode cX7_back 32 = .ok (.imul, 1) := by decide +kernel
theorem dX7_back_33 : decode cX7_back 33 = .ok (.iadd, 1) := by decide +kernel
theorem dX7_back_34 : decode cX7_back 34 = .ok (.iconst 0, 1) := by decide +kernel
theorem dX7_back_35 : decode cX7_back 35 = .ok (.invokevirtual 201, 3) := by decide +kernel
theorem dX7_back_38 : decode cX7_back 38 = .ok (.aload_n 0, 1) := by decide +kernel
theorem dX7_back_39 : decode cX7_back 39 = .ok (.iconst 0, 1) := by decide +kernel
theorem dX7_back_40 : decode cX7_back 40 = .ok (.putfield 157, 3) := by decide +kernel
theorem dX7_back_43 : decode cX7_back 43 = .ok (.aload_n 0, 1) := by decide +kernel
theorem dX7_back_44 : decode cX7_back 44 = .ok (.invokevirtual 222, 3) := by decide +kernel
theorem dX7_back_47 : decode cX7_back 47 = .ok (.ireturn, 1) := by decide +kernel
theorem dX7_flow_0 : decode cX7_flow 0 = .ok (.iload_n 1, 1) := by decide +kernel
theorem dX7_flow_1 : decode cX7_flow 1 = .ok (.i2l, 1) := by decide +kernel
theorem dX7_flow_2 : decode cX7_flow 2 = .ok (.lconst 0, 1) := by decide +kernel
theorem dX7_flow_3 : decode cX7_flow 3 = .ok (.aload_n 0, 1) := by decide +kernel
theorem dX7_flow_4 : decode cX7_flow 4 = .ok (.getfield 126, 3) := by decide +kernel
theorem dX7_flow_7 : decode cX7_flow 7 = .ok (.i2l, 1) := by decide +kernel
theorem dX7_flow_8 : decode cX7_flow 8 = .ok (.invokestatic 64, 3) := by decide +kernel
theorem dX7_flow_11 : decode cX7_flow 11 = .ok (.ifCond .ne 8, 3) := by decide +kernel
theorem dX7_flow_14 : decode cX7_flow 14 = .ok (.ldc 68, 2) := by decide +kernel
theorem dX7_flow_16 : decode cX7_flow 16 = .ok (.goto 21, 3) := by decide +kernel
theorem dX7_flow_19 : decode cX7_flow 19 = .ok (.aload_n 0, 1) := by decide +kernel
theorem dX7_flow_20 : decode cX7_flow 20 = .ok (.getfield 126, 3) := by decide +kernel
theorem dX7_flow_23 : decode cX7_flow 23 = .ok (.ifCond .ne 8, 3) := by decide +kernel
theorem dX7_flow_26 : decode cX7_flow 26 = .ok (.ldc 156, 2) := by decide +kernel
theorem dX7_flow_28 : decode cX7_flow 28 = .ok (.goto 9, 3) := by decide +kernel
theorem dX7_flow_31 : decode cX7_flow 31 = .ok (.aload_n 0, 1) := by decide +kernel
theorem dX7_flow_32 : decode cX7_flow 32 = .ok (.iconst 0, 1) := by decide +kernel
theorem dX7_flow_33 : decode cX7_flow 33 = .ok (.iload_n 1, 1) := by decide +kernel
theorem dX7_flow_34 : decode cX7_flow 34 = .ok (.invokevirtual 193, 3) := by decide +kernel
theorem dX7_flow_37 : decode cX7_flow 37 = .ok (.ireturn, 1) := by decide +kernel
theorem dX7_until_0 : decode cX7_until 0 = .ok (.aload_n 0, 1) := by decide +kernel
theorem dX7_until_1 : decode cX7_until 1 = .ok (.iload_n 1, 1) := by decide +kernel
theorem dX7_until_2 : decode cX7_until 2 = .ok (.invokevirtual 172, 3) := by decide +kernel
theorem dX7_until_5 : decode cX7_until 5 = .ok (.ifCond .ne 6, 3) := by decide +kernel
theorem dX7_until_8 : decode cX7_until 8 = .ok (.ldc 167, 2) := by decide +kernel
theorem dX7_until_10 : decode cX7_until 10 = .ok (.ireturn, 1) := by decide +kernel
theorem dX7_until_11 : decode cX7_until 11 = .ok (.iload_n 2, 1) := by decide +kernel
theorem dX7_until_12 : decode cX7_until 12 = .ok (.i2l, 1) := by decide +kernel
theorem dX7_until_13 : decode cX7_until 13 = .ok (.lconst 0, 1) := by decide +kernel
theorem dX7_until_14 : decode cX7_until 14 = .ok (.ldc2_w 217, 3) := by decide +kernel
theorem dX7_until_17 : decode cX7_until 17 = .ok (.invokestatic 64, 3) := by decide +kernel
theorem dX7_until_20 : decode cX7_until 20 = .ok (.ifCond .ne 6, 3) := by decide +kernel
theorem dX7_until_23 : decode cX7_until 23 = .ok (.ldc 68, 2) := by decide +kernel
theorem dX7_until_25 : decode cX7_until 25 = .ok (.ireturn, 1) := by decide +kernel
theorem dX7_until_26 : decode cX7_until 26 = .ok (.aload_n 0, 1) := by decide +kernel
theorem dX7_until_27 : decode cX7_until 27 = .ok (.iconst 0, 1) := by decide +kernel
theorem dX7_until_28 : decode cX7_until 28 = .ok (.sipush 176, 3) := by decide +kernel
theorem dX7_until_31 : decode cX7_until 31 = .ok (.invokevirtual 201, 3) := by decide +kernel
theorem dX7_until_34 : decode cX7_until 34 = .ok (.iconst 0, 1) := by decide +kernel
theorem dX7_until_35 : decode cX7_until 35 = .ok (.istore_n 3, 1) := by decide +kernel
theorem dX7_until_36 : decode cX7_until 36 = .ok (.iconst 1, 1) := by decide +kernel
theorem dX7_until_37 : decode cX7_until 37 = .ok (.istore 4, 2) := by decide +kernel
theorem dX7_until_39 : decode cX7_until 39 = .ok (.iload 4, 2) := by decide +kernel
theorem dX7_until_41 : decode cX7_until 41 = .ok (.ifCond .eq 45, 3) := by decide +kernel
theorem dX7_until_44 : decode cX7_until 44 = .ok (.iload_n 3, 1) := by decide +kernel
theorem dX7_until_45 : decode cX7_until 45 = .ok (.sipush 200, 3) := by decide +kernel
theorem dX7_until_48 : decode cX7_until 48 = .ok (.if_icmp .ge 38, 3) := by decide +kernel
theorem dX7_until_51 : decode cX7_until 51 = .ok (.aload_n 0, 1) := by decide +kernel
theorem dX7_until_52 : decode cX7_until 52 = .ok (.getfield 7, 3) := by decide +kernel
theorem dX7_until_55 : decode cX7_until 55 = .ok (.sipush 176, 3) := by decide +kernel
theorem dX7_until_58 : decode cX7_until 58 = .ok (.iload_n 1, 1) := by decide +kernel
theorem dX7_until_59 : decode cX7_until 59 = .ok (.iadd, 1) := by decide +kernel
theorem dX7_until_60 : decode cX7_until 60 = .ok (.iaload, 1) := by decide +kernel
theorem dX7_until_61 : decode cX7_until 61 = .ok (.iload_n 2, 1) := by decide +kernel
theorem dX7_until_62 : decode cX7_until 62 = .ok (.aload_n 0, 1) := by decide +kernel
theorem dX7_until_63 : decode cX7_until 63 = .ok (.iload_n 1, 1) := by decide +kernel
theorem dX7_until_64 : decode cX7_until 64 = .ok (.invokevirtual 175, 3) := by decide +kernel
theorem dX7_until_67 : decode cX7_until 67 = .ok (.imul, 1) := by decide +kernel
theorem dX7_until_68 : decode cX7_until 68 = .ok (.if_icmp .ge 18, 3) := by decide +kernel
theorem dX7_until_71 : decode cX7_until 71 = .ok (.aload_n 0, 1) := by decide +kernel
theorem dX7_until_72 : decode cX7_until 72 = .ok (.sipush 176, 3) := by decide +kernel
theorem dX7_until_75 : decode cX7_until 75 = .ok (.invokevirtual 210, 3) := by decide +kernel
theorem dX7_until_78 : decode cX7_until 78 = .ok (.istore 4, 2) := by decide +kernel
theorem dX7_until_80 : decode cX7_until 80 = .ok (.iinc 3 1, 3) := by decide +kernel
theorem dX7_until_83 : decode cX7_until 83 = .ok (.goto (-44), 3) := by decide +kernel
theorem dX7_until_86 : decode cX7_until 86 = .ok (.iload 4, 2) := by decide +kernel
theorem dX7_until_88 : decode cX7_until 88 = .ok (.ifCond .eq 27, 3) := by decide +kernel
theorem dX7_until_91 : decode cX7_until 91 = .ok (.aload_n 0, 1) := by decide +kernel
theorem dX7_until_92 : decode cX7_until 92 = .ok (.getfield 7, 3) := by decide +kernel
theorem dX7_until_95 : decode cX7_until 95 = .ok (.sipush 176, 3) := by decide +kernel
theorem dX7_until_98 : decode cX7_until 98 = .ok (.iload_n 1, 1) := by decide +kernel
theorem dX7_until_99 : decode cX7_until 99 = .ok (.iadd, 1) := by decide +kernel
theorem dX7_until_100 : decode cX7_until 100 = .ok (.iaload, 1) := by decide +kernel
theorem dX7_until_101 : decode cX7_until 101 = .ok (.iload_n 2, 1) := by decide +kernel
theorem dX7_until_102 : decode cX7_until 102 = .ok (.aload_n 0, 1) := by decide +kernel
theorem dX7_until_103 : decode cX7_until 103 = .ok (.iload_n 1, 1) := by decide +kernel
theorem dX7_until_104 : decode cX7_until 104 = .ok (.invokevirtual 175, 3) := by decide +kernel
theorem dX7_until_107 : decode cX7_until 107 = .ok (.imul, 1) := by decide +kernel
theorem dX7_until_108 : decode cX7_until 108 = .ok (.if_icmp .lt 7, 3) := by decide +kernel
theorem dX7_until_111 : decode cX7_until 111 = .ok (.iload_n 3, 1) := by decide +kernel
theorem dX7_until_112 : decode cX7_until 112 = .ok (.goto 4, 3) := by decide +kernel
theorem dX7_until_115 : decode cX7_until 115 = .ok (.iconst (-1), 1) := by decide +kernel
theorem dX7_until_116 : decode cX7_until 116 = .ok (.ireturn, 1) := by decide +kernel
theorem dX7_resistance_0 : decode cX7_resistance 0 = .ok (.lconst 0, 1) := by decide +kernel
theorem dX7_resistance_1 : decode cX7_resistance 1 = .ok (.lstore_n 3, 1) := by decide +kernel
theorem dX7_resistance_2 : decode cX7_resistance 2 = .ok (.iconst 0, 1) := by decide +kernel
theorem dX7_resistance_3 : decode cX7_resistance 3 = .ok (.istore 5, 2) := by decide +kernel
theorem dX7_resistance_5 : decode cX7_resistance 5 = .ok (.iload 5, 2) := by decide +kernel
theorem dX7_resistance_7 : decode cX7_resistance 7 = .ok (.aload_n 0, 1) := by decide +kernel
theorem dX7_resistance_8 : decode cX7_resistance 8 = .ok (.getfield 126, 3) := by decide +kernel
theorem dX7_resistance_11 : decode cX7_resistance 11 = .ok (.if_icmp .ge 39, 3) := by decide +kernel
theorem dX7_resistance_14 : decode cX7_resistance 14 = .ok (.lload_n 3, 1) := by decide +kernel
theorem dX7_resistance_15 : decode cX7_resistance 15 = .ok (.ldc2_w 225, 3) := by decide +kernel
theorem dX7_resistance_18 : decode cX7_resistance 18 = .ok (.aload_n 0, 1) := by decide +kernel
theorem dX7_resistance_19 : decode cX7_resistance 19 = .ok (.getfield 13, 3) := by decide +kernel
theorem dX7_resistance_22 : decode cX7_resistance 22 = .ok (.iload 5, 2) := by decide +kernel
theorem dX7_resistance_24 : decode cX7_resistance 24 = .ok (.iload_n 1, 1) := by decide +kernel
theorem dX7_resistance_25 : decode cX7_resistance 25 = .ok (.if_icmp .ne 7, 3) := by decide +kernel
theorem dX7_resistance_28 : decode cX7_resistance 28 = .ok (.iload_n 2, 1) := by decide +kernel
theorem dX7_resistance_29 : decode cX7_resistance 29 = .ok (.goto 10, 3) := by decide +kernel
theorem dX7_resistance_32 : decode cX7_resistance 32 = .ok (.aload_n 0, 1) := by decide +kernel
theorem dX7_resistance_33 : decode cX7_resistance 33 = .ok (.getfield 25, 3) := by decide +kernel
theorem dX7_resistance_36 : decode cX7_resistance 36 = .ok (.iload 5, 2) := by decide +kernel
theorem dX7_resistance_38 : decode cX7_resistance 38 = .ok (.iaload, 1) := by decide +kernel
theorem dX7_resistance_39 : decode cX7_resistance 39 = .ok (.iaload, 1) := by decide +kernel
theorem dX7_resistance_40 : decode cX7_resistance 40 = .ok (.i2l, 1) := by decide +kernel
theorem dX7_resistance_41 : decode cX7_resistance 41 = .ok (.ldiv, 1) := by decide +kernel
theorem dX7_resistance_42 : decode cX7_resistance 42 = .ok (.ladd, 1) := by decide +kernel
theorem dX7_resistance_43 : decode cX7_resistance 43 = .ok (.lstore_n 3, 1) := by decide +kernel
theorem dX7_resistance_44 : decode cX7_resistance 44 = .ok (.iinc 5 1, 3) := by decide +kernel
theorem dX7_resistance_47 : decode cX7_resistance 47 = .ok (.goto (-42), 3) := by decide +kernel
theorem dX7_resistance_50 : decode cX7_resistance 50 = .ok (.lload_n 3, 1) := by decide +kernel
theorem dX7_resistance_51 : decode cX7_resistance 51 = .ok (.lreturn, 1) := by decide +kernel
theorem dX7_resists_0 : decode cX7_resists 0 = .ok (.iload_n 1, 1) := by decide +kernel
theorem dX7_resists_1 : decode cX7_resists 1 = .ok (.i2l, 1) := by decide +kernel
theorem dX7_resists_2 : decode cX7_resists 2 = .ok (.lconst 0, 1) := by decide +kernel
theorem dX7_resists_3 : decode cX7_resists 3 = .ok (.lconst 1, 1) := by decide +kernel
theorem dX7_resists_4 : decode cX7_resists 4 = .ok (.invokestatic 64, 3) := by decide +kernel
theorem dX7_resists_7 : decode cX7_resists 7 = .ok (.ifCond .ne 6, 3) := by decide +kernel
theorem dX7_resists_10 : decode cX7_resists 10 = .ok (.ldc 68, 2) := by decide +kernel
theorem dX7_resists_12 : decode cX7_resists 12 = .ok (.ireturn, 1) := by decide +kernel
theorem dX7_resists_13 : decode cX7_resists 13 = .ok (.aload_n 0, 1) := by decide +kernel
theorem dX7_resists_14 : decode cX7_resists 14 = .ok (.getfield 126, 3) := by decide +kernel
theorem dX7_resists_17 : decode cX7_resists 17 = .ok (.ifCond .ne 8, 3) := by decide +kernel
theorem dX7_resists_20 : decode cX7_resists 20 = .ok (.ldc 156, 2) := by decide +kernel
theorem dX7_resists_22 : decode cX7_resists 22 = .ok (.goto 17, 3) := by decide +kernel
theorem dX7_resists_25 : decode cX7_resists 25 = .ok (.aload_n 0, 1) := by decide +kernel
theorem dX7_resists_26 : decode cX7_resists 26 = .ok (.iconst (-1), 1) := by decide +kernel
theorem dX7_resists_27 : decode cX7_resists 27 = .ok (.iconst 0, 1) := by decide +kernel
theorem dX7_resists_28 : decode cX7_resists 28 = .ok (.invokevirtual 227, 3) := by decide +kernel
theorem dX7_resists_31 : decode cX7_resists 31 = .ok (.ldc2_w 225, 3) := by decide +kernel
theorem dX7_resists_34 : decode cX7_resists 34 = .ok (.iload_n 1, 1) := by decide +kernel
theorem dX7_resists_35 : decode cX7_resists 35 = .ok (.invokestatic 178, 3) := by decide +kernel
theorem dX7_resists_38 : decode cX7_resists 38 = .ok (.l2i, 1) := by decide +kernel
theorem dX7_resists_39 : decode cX7_resists 39 = .ok (.ireturn, 1) := by decide +kernel
theorem dX7_swapped_0 : decode cX7_swapped 0 = .ok (.aload_n 0, 1) := by decide +kernel
theorem dX7_swapped_1 : decode cX7_swapped 1 = .ok (.iload_n 1, 1) := by decide +kernel
theorem dX7_swapped_2 : decode cX7_swapped 2 = .ok (.invokevirtual 172, 3) := by decide +kernel
theorem dX7_swapped_5 : decode cX7_swapped 5 = .ok (.ifCond .eq 11, 3) := by decide +kernel
theorem dX7_swapped_8 : decode cX7_swapped 8 = .ok (.aload_n 0, 1) := by decide +kernel
theorem dX7_swapped_9 : decode cX7_swapped 9 = .ok (.iload_n 2, 1) := by decide +kernel
theorem dX7_swapped_10 : decode cX7_swapped 10 = .ok (.invokevirtual 164, 3) := by decide +kernel
theorem dX7_swapped_13 : decode cX7_swapped 13 = .ok (.ifCond .ne 6, 3) := by decide +kernel
theorem dX7_swapped_16 : decode cX7_swapped 16 = .ok (.ldc 167, 2) := by decide +kernel
theorem dX7_swapped_18 : decode cX7_swapped 18 = .ok (.ireturn, 1) := by decide +kernel
theorem dX7_swapped_19 : decode cX7_swapped 19 = .ok (.iload_n 3, 1) := by decide +kernel
theorem dX7_swapped_20 : decode cX7_swapped 20 = .ok (.i2l, 1) := by decide +kernel
theorem dX7_swapped_21 : decode cX7_swapped 21 = .ok (.lconst 0, 1) := by decide +kernel
theorem dX7_swapped_22 : decode cX7_swapped 22 = .ok (.lconst 1, 1) := by decide +kernel
theorem dX7_swapped_23 : decode cX7_swapped 23 = .ok (.invokestatic 64, 3) := by decide +kernel
theorem dX7_swapped_26 : decode cX7_swapped 26 = .ok (.ifCond .eq 20, 3) := by decide +kernel
theorem dX7_swapped_29 : decode cX7_swapped 29 = .ok (.aload_n 0, 1) := by decide +kernel
theorem dX7_swapped_30 : decode cX7_swapped 30 = .ok (.iload_n 1, 1) := by decide +kernel
theorem dX7_swapped_31 : decode cX7_swapped 31 = .ok (.iload_n 2, 1) := by decide +kernel
theorem dX7_swapped_32 : decode cX7_swapped 32 = .ok (.invokevirtual 227, 3) := by decide +kernel
theorem dX7_swapped_35 : decode cX7_swapped 35 = .ok (.ldc2_w 225, 3) := by decide +kernel
theorem dX7_swapped_38 : decode cX7_swapped 38 = .ok (.iload_n 3, 1) := by decide +kernel
theorem dX7_swapped_39 : decode cX7_swapped 39 = .ok (.invokestatic 178, 3) := by decide +kernel
theorem dX7_swapped_42 : decode cX7_swapped 42 = .ok (.l2i, 1) := by decide +kernel
theorem dX7_swapped_43 : decode cX7_swapped 43 = .ok (.goto 5, 3) := by decide +kernel
theorem dX7_swapped_46 : decode cX7_swapped 46 = .ok (.ldc 68, 2) := by decide +kernel
theorem dX7_swapped_48 : decode cX7_swapped 48 = .ok (.ireturn, 1) := by decide +kernel
theorem dX7_gain_0 : decode cX7_gain 0 = .ok (.aload_n 0, 1) := by decide +kernel
theorem dX7_gain_1 : decode cX7_gain 1 = .ok (.iload_n 1, 1) := by decide +kernel
theorem dX7_gain_2 : decode cX7_gain 2 = .ok (.invokevirtual 172, 3) := by decide +kernel
theorem dX7_gain_5 : decode cX7_gain 5 = .ok (.ifCond .ne 6, 3) := by decide +kernel
theorem dX7_gain_8 : decode cX7_gain 8 = .ok (.ldc 167, 2) := by decide +kernel
theorem dX7_gain_10 : decode cX7_gain 10 = .ok (.ireturn, 1) := by decide +kernel
theorem dX7_gain_11 : decode cX7_gain 11 = .ok (.aload_n 0, 1) := by decide +kernel
theorem dX7_gain_12 : decode cX7_gain 12 = .ok (.iconst 0, 1) := by decide +kernel
theorem dX7_gain_13 : decode cX7_gain 13 = .ok (.sipush 176, 3) := by decide +kernel
theorem dX7_gain_16 : decode cX7_gain 16 = .ok (.invokevirtual 201, 3) := by decide +kernel
theorem dX7_gain_19 : decode cX7_gain 19 = .ok (.aload_n 0, 1) := by decide +kernel
theorem dX7_gain_20 : decode cX7_gain 20 = .ok (.sipush 176, 3) := by decide +kernel
theorem dX7_gain_23 : decode cX7_gain 23 = .ok (.invokevirtual 210, 3) := by decide +kernel
theorem dX7_gain_26 : decode cX7_gain 26 = .ok (.ifCond .eq 25, 3) := by decide +kernel
theorem dX7_gain_29 : decode cX7_gain 29 = .ok (.aload_n 0, 1) := by decide +kernel
theorem dX7_gain_30 : decode cX7_gain 30 = .ok (.getfield 7, 3) := by decide +kernel
theorem dX7_gain_33 : decode cX7_gain 33 = .ok (.sipush 176, 3) := by decide +kernel
theorem dX7_gain_36 : decode cX7_gain 36 = .ok (.iload_n 1, 1) := by decide +kernel
theorem dX7_gain_37 : decode cX7_gain 37 = .ok (.iadd, 1) := by decide +kernel
theorem dX7_gain_38 : decode cX7_gain 38 = .ok (.iaload, 1) := by decide +kernel
theorem dX7_gain_39 : decode cX7_gain 39 = .ok (.aload_n 0, 1) := by decide +kernel
theorem dX7_gain_40 : decode cX7_gain 40 = .ok (.getfield 7, 3) := by decide +kernel
theorem dX7_gain_43 : decode cX7_gain 43 = .ok (.iconst 0, 1) := by decide +kernel
theorem dX7_gain_44 : decode cX7_gain 44 = .ok (.iload_n 1, 1) := by decide +kernel
theorem dX7_gain_45 : decode cX7_gain 45 = .ok (.iadd, 1) := by decide +kernel
theorem dX7_gain_46 : decode cX7_gain 46 = .ok (.iaload, 1) := by decide +kernel
theorem dX7_gain_47 : decode cX7_gain 47 = .ok (.isub, 1) := by decide +kernel
theorem dX7_gain_48 : decode cX7_gain 48 = .ok (.goto 5, 3) := by decide +kernel
theorem dX7_gain_51 : decode cX7_gain 51 = .ok (.ldc 156, 2) := by decide +kernel
theorem dX7_gain_53 : decode cX7_gain 53 = .ok (.ireturn, 1) := by decide +kernel
theorem dX7_isPage_0 : decode cX7_isPage 0 = .ok (.iload_n 0, 1) := by decide +kernel
theorem dX7_isPage_1 : decode cX7_isPage 1 = .ok (.i2l, 1) := by decide +kernel
theorem dX7_isPage_2 : decode cX7_isPage 2 = .ok (.lconst 0, 1) := by decide +kernel
theorem dX7_isPage_3 : decode cX7_isPage 3 = .ok (.ldc2_w 191, 3) := by decide +kernel
theorem dX7_isPage_6 : decode cX7_isPage 6 = .ok (.invokestatic 64, 3) := by decide +kernel
theorem dX7_isPage_9 : decode cX7_isPage 9 = .ok (.ireturn, 1) := by decide +kernel
theorem dX7_isKey_0 : decode cX7_isKey 0 = .ok (.iload_n 0, 1) := by decide +kernel
theorem dX7_isKey_1 : decode cX7_isKey 1 = .ok (.i2l, 1) := by decide +kernel
theorem dX7_isKey_2 : decode cX7_isKey 2 = .ok (.lconst 0, 1) := by decide +kernel
theorem dX7_isKey_3 : decode cX7_isKey 3 = .ok (.ldc2_w 231, 3) := by decide +kernel
theorem dX7_isKey_6 : decode cX7_isKey 6 = .ok (.invokestatic 64, 3) := by decide +kernel
theorem dX7_isKey_9 : decode cX7_isKey 9 = .ok (.ifCond .eq 21, 3) := by decide +kernel
theorem dX7_isKey_12 : decode cX7_isKey 12 = .ok (.iload_n 1, 1) := by decide +kernel
theorem dX7_isKey_13 : decode cX7_isKey 13 = .ok (.i2l, 1) := by decide +kernel
theorem dX7_isKey_14 : decode cX7_isKey 14 = .ok (.ldc2_w 233, 3) := by decide +kernel
theorem dX7_isKey_17 : decode cX7_isKey 17 = .ok (.ldc2_w 235, 3) := by decide +kernel
theorem dX7_isKey_20 : decode cX7_isKey 20 = .ok (.invokestatic 64, 3) := by decide +kernel
theorem dX7_isKey_23 : decode cX7_isKey 23 = .ok (.ifCond .eq 7, 3) := by decide +kernel
theorem dX7_isKey_26 : decode cX7_isKey 26 = .ok (.iconst 1, 1) := by decide +kernel
theorem dX7_isKey_27 : decode cX7_isKey 27 = .ok (.goto 4, 3) := by decide +kernel
theorem dX7_isKey_30 : decode cX7_isKey 30 = .ok (.iconst 0, 1) := by decide +kernel
theorem dX7_isKey_31 : decode cX7_isKey 31 = .ok (.ireturn, 1) := by decide +kernel
theorem dX7_placeOf_0 : decode cX7_placeOf 0 = .ok (.bipush 8, 2) := by decide +kernel
theorem dX7_placeOf_2 : decode cX7_placeOf 2 = .ok (.iload_n 1, 1) := by decide +kernel
theorem dX7_placeOf_3 : decode cX7_placeOf 3 = .ok (.imul, 1) := by decide +kernel
theorem dX7_placeOf_4 : decode cX7_placeOf 4 = .ok (.istore 4, 2) := by decide +kernel
theorem dX7_placeOf_6 : decode cX7_placeOf 6 = .ok (.iload 4, 2) := by decide +kernel
theorem dX7_placeOf_8 : decode cX7_placeOf 8 = .ok (.bipush 8, 2) := by decide +kernel
theorem dX7_placeOf_10 : decode cX7_placeOf 10 = .ok (.iload_n 1, 1) := by decide +kernel
theorem dX7_placeOf_11 : decode cX7_placeOf 11 = .ok (.imul, 1) := by decide +kernel
theorem dX7_placeOf_12 : decode cX7_placeOf 12 = .ok (.aload_n 0, 1) := by decide +kernel
theorem dX7_placeOf_13 : decode cX7_placeOf 13 = .ok (.getfield 35, 3) := by decide +kernel
theorem dX7_placeOf_16 : decode cX7_placeOf 16 = .ok (.iload_n 1, 1) := by decide +kernel
theorem dX7_placeOf_17 : decode cX7_placeOf 17 = .ok (.iaload, 1) := by decide +kernel
theorem dX7_placeOf_18 : decode cX7_placeOf 18 = .ok (.iadd, 1) := by decide +kernel
theorem dX7_placeOf_19 : decode cX7_placeOf 19 = .ok (.if_icmp .ge 34, 3) := by decide +kernel
theorem dX7_placeOf_22 : decode cX7_placeOf 22 = .ok (.aload_n 0, 1) := by decide +kernel
theorem dX7_placeOf_23 : decode cX7_placeOf 23 = .ok (.getfield 38, 3) := by decide +kernel
theorem dX7_placeOf_26 : decode cX7_placeOf 26 = .ok (.iload 4, 2) := by decide +kernel
theorem dX7_placeOf_28 : decode cX7_placeOf 28 = .ok (.iaload, 1) := by decide +kernel
theorem dX7_placeOf_29 : decode cX7_placeOf 29 = .ok (.iload_n 2, 1) := by decide +kernel
theorem dX7_placeOf_30 : decode cX7_placeOf 30 = .ok (.if_icmp .ne 17, 3) := by decide +kernel
theorem dX7_placeOf_33 : decode cX7_placeOf 33 = .ok (.aload_n 0, 1) := by decide +kernel
theorem dX7_placeOf_34 : decode cX7_placeOf 34 = .ok (.getfield 41, 3) := by decide +kernel
theorem dX7_placeOf_37 : decode cX7_placeOf 37 = .ok (.iload 4, 2) := by decide +kernel
theorem dX7_placeOf_39 : decode cX7_placeOf 39 = .ok (.iaload, 1) := by decide +kernel
theorem dX7_placeOf_40 : decode cX7_placeOf 40 = .ok (.iload_n 3, 1) := by decide +kernel
theorem dX7_placeOf_41 : decode cX7_placeOf 41 = .ok (.if_icmp .ne 6, 3) := by decide +kernel
theorem dX7_placeOf_44 : decode cX7_placeOf 44 = .ok (.iload 4, 2) := by decide +kernel
theorem dX7_placeOf_46 : decode cX7_placeOf 46 = .ok (.ireturn, 1) := by decide +kernel
theorem dX7_placeOf_47 : decode cX7_placeOf 47 = .ok (.iinc 4 1, 3) := by decide +kernel
theorem dX7_placeOf_50 : decode cX7_placeOf 50 = .ok (.goto (-44), 3) := by decide +kernel
theorem dX7_placeOf_53 : decode cX7_placeOf 53 = .ok (.iconst (-1), 1) := by decide +kernel
theorem dX7_placeOf_54 : decode cX7_placeOf 54 = .ok (.ireturn, 1) := by decide +kernel
theorem dX7_page_0 : decode cX7_page 0 = .ok (.iload_n 1, 1) := by decide +kernel
theorem dX7_page_1 : decode cX7_page 1 = .ok (.invokestatic 237, 3) := by decide +kernel
theorem dX7_page_4 : decode cX7_page 4 = .ok (.ifCond .ne 6, 3) := by decide +kernel
theorem dX7_page_7 : decode cX7_page 7 = .ok (.ldc 167, 2) := by decide +kernel
theorem dX7_page_9 : decode cX7_page 9 = .ok (.ireturn, 1) := by decide +kernel
theorem dX7_page_10 : decode cX7_page 10 = .ok (.aload_n 0, 1) := by decide +kernel
theorem dX7_page_11 : decode cX7_page 11 = .ok (.getfield 35, 3) := by decide +kernel
theorem dX7_page_14 : decode cX7_page 14 = .ok (.iload_n 1, 1) := by decide +kernel
theorem dX7_page_15 : decode cX7_page 15 = .ok (.iconst 0, 1) := by decide +kernel
theorem dX7_page_16 : decode cX7_page 16 = .ok (.iastore, 1) := by decide +kernel
theorem dX7_page_17 : decode cX7_page 17 = .ok (.iconst 0, 1) := by decide +kernel
theorem dX7_page_18 : decode cX7_page 18 = .ok (.ireturn, 1) := by decide +kernel
theorem dX7_put_0 : decode cX7_put 0 = .ok (.iload_n 1, 1) := by decide +kernel
theorem dX7_put_1 : decode cX7_put 1 = .ok (.invokestatic 237, 3) := by decide +kernel
theorem dX7_put_4 : decode cX7_put 4 = .ok (.ifCond .ne 6, 3) := by decide +kernel
theorem dX7_put_7 : decode cX7_put 7 = .ok (.ldc 167, 2) := by decide +kernel
theorem dX7_put_9 : decode cX7_put 9 = .ok (.ireturn, 1) := by decide +kernel
theorem dX7_put_10 : decode cX7_put 10 = .ok (.iload_n 2, 1) := by decide +kernel
theorem dX7_put_11 : decode cX7_put 11 = .ok (.iload_n 3, 1) := by decide +kernel
theorem dX7_put_12 : decode cX7_put 12 = .ok (.invokestatic 240, 3) := by decide +kernel
theorem dX7_put_15 : decode cX7_put 15 = .ok (.ifCond .eq 18, 3) := by decide +kernel
theorem dX7_put_18 : decode cX7_put 18 = .ok (.iload 4, 2) := by decide +kernel
theorem dX7_put_20 : decode cX7_put 20 = .ok (.i2l, 1) := by decide +kernel
theorem dX7_put_21 : decode cX7_put 21 = .ok (.ldc2_w 244, 3) := by decide +kernel
theorem dX7_put_24 : decode cX7_put 24 = .ok (.ldc2_w 217, 3) := by decide +kernel
theorem dX7_put_27 : decode cX7_put 27 = .ok (.invokestatic 64, 3) := by decide +kernel
theorem dX7_put_30 : decode cX7_put 30 = .ok (.ifCond .ne 6, 3) := by decide +kernel
theorem dX7_put_33 : decode cX7_put 33 = .ok (.ldc 68, 2) := by decide +kernel
theorem dX7_put_35 : decode cX7_put 35 = .ok (.ireturn, 1) := by decide +kernel
theorem dX7_put_36 : decode cX7_put 36 = .ok (.aload_n 0, 1) := by decide +kernel
theorem dX7_put_37 : decode cX7_put 37 = .ok (.getfield 35, 3) := by decide +kernel
theorem dX7_put_40 : decode cX7_put 40 = .ok (.iload_n 1, 1) := by decide +kernel
theorem dX7_put_41 : decode cX7_put 41 = .ok (.iaload, 1) := by decide +kernel
theorem dX7_put_42 : decode cX7_put 42 = .ok (.ifCond .ge 6, 3) := by decide +kernel
theorem dX7_put_45 : decode cX7_put 45 = .ok (.ldc 246, 2) := by decide +kernel
theorem dX7_put_47 : decode cX7_put 47 = .ok (.ireturn, 1) := by decide +kernel
theorem dX7_put_48 : decode cX7_put 48 = .ok (.aload_n 0, 1) := by decide +kernel
theorem dX7_put_49 : decode cX7_put 49 = .ok (.iload_n 1, 1) := by decide +kernel
theorem dX7_put_50 : decode cX7_put 50 = .ok (.iload_n 2, 1) := by decide +kernel
theorem dX7_put_51 : decode cX7_put 51 = .ok (.iload_n 3, 1) := by decide +kernel
theorem dX7_put_52 : decode cX7_put 52 = .ok (.invokevirtual 247, 3) := by decide +kernel
theorem dX7_put_55 : decode cX7_put 55 = .ok (.istore 5, 2) := by decide +kernel
theorem dX7_put_57 : decode cX7_put 57 = .ok (.iload 5, 2) := by decide +kernel
theorem dX7_put_59 : decode cX7_put 59 = .ok (.iconst (-1), 1) := by decide +kernel
theorem dX7_put_60 : decode cX7_put 60 = .ok (.if_icmp .ne 17, 3) := by decide +kernel
theorem dX7_put_63 : decode cX7_put 63 = .ok (.aload_n 0, 1) := by decide +kernel
theorem dX7_put_64 : decode cX7_put 64 = .ok (.getfield 35, 3) := by decide +kernel
theorem dX7_put_67 : decode cX7_put 67 = .ok (.iload_n 1, 1) := by decide +kernel
theorem dX7_put_68 : decode cX7_put 68 = .ok (.iaload, 1) := by decide +kernel
theorem dX7_put_69 : decode cX7_put 69 = .ok (.bipush 8, 2) := by decide +kernel
theorem dX7_put_71 : decode cX7_put 71 = .ok (.if_icmp .ne 6, 3) := by decide +kernel
theorem dX7_put_74 : decode cX7_put 74 = .ok (.ldc 251, 2) := by decide +kernel
theorem dX7_put_76 : decode cX7_put 76 = .ok (.ireturn, 1) := by decide +kernel
theorem dX7_put_77 : decode cX7_put 77 = .ok (.iload 5, 2) := by decide +kernel
theorem dX7_put_79 : decode cX7_put 79 = .ok (.iconst (-1), 1) := by decide +kernel
theorem dX7_put_80 : decode cX7_put 80 = .ok (.if_icmp .ne 7, 3) := by decide +kernel
theorem dX7_put_83 : decode cX7_put 83 = .ok (.iconst 0, 1) := by decide +kernel
theorem dX7_put_84 : decode cX7_put 84 = .ok (.goto 10, 3) := by decide +kernel
theorem dX7_put_87 : decode cX7_put 87 = .ok (.aload_n 0, 1) := by decide +kernel
theorem dX7_put_88 : decode cX7_put 88 = .ok (.getfield 44, 3) := by decide +kernel
theorem dX7_put_91 : decode cX7_put 91 = .ok (.iload 5, 2) := by decide +kernel
theorem dX7_put_93 : decode cX7_put 93 = .ok (.iaload, 1) := by decide +kernel
theorem dX7_put_94 : decode cX7_put 94 = .ok (.istore 6, 2) := by decide +kernel
theorem dX7_put_96 : decode cX7_put 96 = .ok (.iload 5, 2) := by decide +kernel
theorem dX7_put_98 : decode cX7_put 98 = .ok (.iconst (-1), 1) := by decide +kernel
theorem dX7_put_99 : decode cX7_put 99 = .ok (.if_icmp .ne 42, 3) := by decide +kernel
theorem dX7_put_102 : decode cX7_put 102 = .ok (.bipush 8, 2) := by decide +kernel
theorem dX7_put_104 : decode cX7_put 104 = .ok (.iload_n 1, 1) := by decide +kernel
theorem dX7_put_105 : decode cX7_put 105 = .ok (.imul, 1) := by decide +kernel
theorem dX7_put_106 : decode cX7_put 106 = .ok (.aload_n 0, 1) := by decide +kernel
theorem dX7_put_107 : decode cX7_put 107 = .ok (.getfield 35, 3) := by decide +kernel
theorem dX7_put_110 : decode cX7_put 110 = .ok (.iload_n 1, 1) := by decide +kernel
theorem dX7_put_111 : decode cX7_put 111 = .ok (.iaload, 1) := by decide +kernel
theorem dX7_put_112 : decode cX7_put 112 = .ok (.iadd, 1) := by decide +kernel
theorem dX7_put_113 : decode cX7_put 113 = .ok (.istore 5, 2) := by decide +kernel
theorem dX7_put_115 : decode cX7_put 115 = .ok (.aload_n 0, 1) := by decide +kernel
theorem dX7_put_116 : decode cX7_put 116 = .ok (.getfield 38, 3) := by decide +kernel
theorem dX7_put_119 : decode cX7_put 119 = .ok (.iload 5, 2) := by decide +kernel
theorem dX7_put_121 : decode cX7_put 121 = .ok (.iload_n 2, 1) := by decide +kernel
theorem dX7_put_122 : decode cX7_put 122 = .ok (.iastore, 1) := by decide +kernel
theorem dX7_put_123 : decode cX7_put 123 = .ok (.aload_n 0, 1) := by decide +kernel
theorem dX7_put_124 : decode cX7_put 124 = .ok (.getfield 41, 3) := by decide +kernel
theorem dX7_put_127 : decode cX7_put 127 = .ok (.iload 5, 2) := by decide +kernel
theorem dX7_put_129 : decode cX7_put 129 = .ok (.iload_n 3, 1) := by decide +kernel
theorem dX7_put_130 : decode cX7_put 130 = .ok (.iastore, 1) := by decide +kernel
theorem dX7_put_131 : decode cX7_put 131 = .ok (.aload_n 0, 1) := by decide +kernel
theorem dX7_put_132 : decode cX7_put 132 = .ok (.getfield 35, 3) := by decide +kernel
theorem dX7_put_135 : decode cX7_put 135 = .ok (.iload_n 1, 1) := by decide +kernel
theorem dX7_put_136 : decode cX7_put 136 = .ok (.dup2, 1) := by decide +kernel
theorem dX7_put_137 : decode cX7_put 137 = .ok (.iaload, 1) := by decide +kernel
theorem dX7_put_138 : decode cX7_put 138 = .ok (.iconst 1, 1) := by decide +kernel
theorem dX7_put_139 : decode cX7_put 139 = .ok (.iadd, 1) := by decide +kernel
theorem dX7_put_140 : decode cX7_put 140 = .ok (.iastore, 1) := by decide +kernel
theorem dX7_put_141 : decode cX7_put 141 = .ok (.aload_n 0, 1) := by decide +kernel
theorem dX7_put_142 : decode cX7_put 142 = .ok (.getfield 44, 3) := by decide +kernel
theorem dX7_put_145 : decode cX7_put 145 = .ok (.iload 5, 2) := by decide +kernel
theorem dX7_put_147 : decode cX7_put 147 = .ok (.iload 4, 2) := by decide +kernel
theorem dX7_put_149 : decode cX7_put 149 = .ok (.iastore, 1) := by decide +kernel
theorem dX7_put_150 : decode cX7_put 150 = .ok (.iload 6, 2) := by decide +kernel
theorem dX7_put_152 : decode cX7_put 152 = .ok (.ireturn, 1) := by decide +kernel
theorem dX7_get_0 : decode cX7_get 0 = .ok (.iload_n 1, 1) := by decide +kernel
theorem dX7_get_1 : decode cX7_get 1 = .ok (.invokestatic 237, 3) := by decide +kernel
theorem dX7_get_4 : decode cX7_get 4 = .ok (.ifCond .ne 6, 3) := by decide +kernel
theorem dX7_get_7 : decode cX7_get 7 = .ok (.ldc 167, 2) := by decide +kernel
theorem dX7_get_9 : decode cX7_get 9 = .ok (.ireturn, 1) := by decide +kernel
theorem dX7_get_10 : decode cX7_get 10 = .ok (.iload_n 2, 1) := by decide +kernel
theorem dX7_get_11 : decode cX7_get 11 = .ok (.iload_n 3, 1) := by decide +kernel
theorem dX7_get_12 : decode cX7_get 12 = .ok (.invokestatic 240, 3) := by decide +kernel
theorem dX7_get_15 : decode cX7_get 15 = .ok (.ifCond .ne 6, 3) := by decide +kernel
theorem dX7_get_18 : decode cX7_get 18 = .ok (.ldc 68, 2) := by decide +kernel
theorem dX7_get_20 : decode cX7_get 20 = .ok (.ireturn, 1) := by decide +kernel
theorem dX7_get_21 : decode cX7_get 21 = .ok (.aload_n 0, 1) := by decide +kernel
theorem dX7_get_22 : decode cX7_get 22 = .ok (.getfield 35, 3) := by decide +kernel
theorem dX7_get_25 : decode cX7_get 25 = .ok (.iload_n 1, 1) := by decide +kernel
theorem dX7_get_26 : decode cX7_get 26 = .ok (.iaload, 1) := by decide +kernel
theorem dX7_get_27 : decode cX7_get 27 = .ok (.ifCond .ge 6, 3) := by decide +kernel
theorem dX7_get_30 : decode cX7_get 30 = .ok (.ldc 246, 2) := by decide +kernel
theorem dX7_get_32 : decode cX7_get 32 = .ok (.ireturn, 1) := by decide +kernel
theorem dX7_get_33 : decode cX7_get 33 = .ok (.aload_n 0, 1) := by decide +kernel
theorem dX7_get_34 : decode cX7_get 34 = .ok (.iload_n 1, 1) := by decide +kernel
theorem dX7_get_35 : decode cX7_get 35 = .ok (.iload_n 2, 1) := by decide +kernel
theorem dX7_get_36 : decode cX7_get 36 = .ok (.iload_n 3, 1) := by decide +kernel
theorem dX7_get_37 : decode cX7_get 37 = .ok (.invokevirtual 247, 3) := by decide +kernel
theorem dX7_get_40 : decode cX7_get 40 = .ok (.istore 4, 2) := by decide +kernel
theorem dX7_get_42 : decode cX7_get 42 = .ok (.iload 4, 2) := by decide +kernel
theorem dX7_get_44 : decode cX7_get 44 = .ok (.iconst (-1), 1) := by decide +kernel
theorem dX7_get_45 : decode cX7_get 45 = .ok (.if_icmp .ne 8, 3) := by decide +kernel
theorem dX7_get_48 : decode cX7_get 48 = .ok (.ldc 252, 2) := by decide +kernel
theorem dX7_get_50 : decode cX7_get 50 = .ok (.goto 10, 3) := by decide +kernel
theorem dX7_get_53 : decode cX7_get 53 = .ok (.aload_n 0, 1) := by decide +kernel
theorem dX7_get_54 : decode cX7_get 54 = .ok (.getfield 44, 3) := by decide +kernel
theorem dX7_get_57 : decode cX7_get 57 = .ok (.iload 4, 2) := by decide +kernel
theorem dX7_get_59 : decode cX7_get 59 = .ok (.iaload, 1) := by decide +kernel
theorem dX7_get_60 : decode cX7_get 60 = .ok (.ireturn, 1) := by decide +kernel
theorem dX7_strike_0 : decode cX7_strike 0 = .ok (.aload_n 0, 1) := by decide +kernel
theorem dX7_strike_1 : decode cX7_strike 1 = .ok (.iload_n 1, 1) := by decide +kernel
theorem dX7_strike_2 : decode cX7_strike 2 = .ok (.iload_n 2, 1) := by decide +kernel
theorem dX7_strike_3 : decode cX7_strike 3 = .ok (.iload_n 3, 1) := by decide +kernel
theorem dX7_strike_4 : decode cX7_strike 4 = .ok (.invokevirtual 253, 3) := by decide +kernel
theorem dX7_strike_7 : decode cX7_strike 7 = .ok (.istore 4, 2) := by decide +kernel
theorem dX7_strike_9 : decode cX7_strike 9 = .ok (.iload 4, 2) := by decide +kernel
theorem dX7_strike_11 : decode cX7_strike 11 = .ok (.sipush (-999), 3) := by decide +kernel
theorem dX7_strike_14 : decode cX7_strike 14 = .ok (.if_icmp .ge 6, 3) := by decide +kernel
theorem dX7_strike_17 : decode cX7_strike 17 = .ok (.iload 4, 2) := by decide +kernel
theorem dX7_strike_19 : decode cX7_strike 19 = .ok (.ireturn, 1) := by decide +kernel
theorem dX7_strike_20 : decode cX7_strike 20 = .ok (.aload_n 0, 1) := by decide +kernel
theorem dX7_strike_21 : decode cX7_strike 21 = .ok (.iload_n 1, 1) := by decide +kernel
theorem dX7_strike_22 : decode cX7_strike 22 = .ok (.iload_n 2, 1) := by decide +kernel
theorem dX7_strike_23 : decode cX7_strike 23 = .ok (.iload_n 3, 1) := by decide +kernel
theorem dX7_strike_24 : decode cX7_strike 24 = .ok (.invokevirtual 247, 3) := by decide +kernel
theorem dX7_strike_27 : decode cX7_strike 27 = .ok (.istore 5, 2) := by decide +kernel
theorem dX7_strike_29 : decode cX7_strike 29 = .ok (.aload_n 0, 1) := by decide +kernel
theorem dX7_strike_30 : decode cX7_strike 30 = .ok (.getfield 35, 3) := by decide +kernel
theorem dX7_strike_33 : decode cX7_strike 33 = .ok (.iload_n 1, 1) := by decide +kernel
theorem dX7_strike_34 : decode cX7_strike 34 = .ok (.dup2, 1) := by decide +kernel
theorem dX7_strike_35 : decode cX7_strike 35 = .ok (.iaload, 1) := by decide +kernel
theorem dX7_strike_36 : decode cX7_strike 36 = .ok (.iconst 1, 1) := by decide +kernel
theorem dX7_strike_37 : decode cX7_strike 37 = .ok (.isub, 1) := by decide +kernel
theorem dX7_strike_38 : decode cX7_strike 38 = .ok (.iastore, 1) := by decide +kernel
theorem dX7_strike_39 : decode cX7_strike 39 = .ok (.iload 5, 2) := by decide +kernel
theorem dX7_strike_41 : decode cX7_strike 41 = .ok (.istore 6, 2) := by decide +kernel
theorem dX7_strike_43 : decode cX7_strike 43 = .ok (.iload 6, 2) := by decide +kernel
theorem dX7_strike_45 : decode cX7_strike 45 = .ok (.bipush 8, 2) := by decide +kernel
theorem dX7_strike_47 : decode cX7_strike 47 = .ok (.iload_n 1, 1) := by decide +kernel
theorem dX7_strike_48 : decode cX7_strike 48 = .ok (.imul, 1) := by decide +kernel
theorem dX7_strike_49 : decode cX7_strike 49 = .ok (.aload_n 0, 1) := by decide +kernel
theorem dX7_strike_50 : decode cX7_strike 50 = .ok (.getfield 35, 3) := by decide +kernel
theorem dX7_strike_53 : decode cX7_strike 53 = .ok (.iload_n 1, 1) := by decide +kernel
theorem dX7_strike_54 : decode cX7_strike 54 = .ok (.iaload, 1) := by decide +kernel
theorem dX7_strike_55 : decode cX7_strike 55 = .ok (.iadd, 1) := by decide +kernel
theorem dX7_strike_56 : decode cX7_strike 56 = .ok (.if_icmp .ge 57, 3) := by decide +kernel
theorem dX7_strike_59 : decode cX7_strike 59 = .ok (.aload_n 0, 1) := by decide +kernel
theorem dX7_strike_60 : decode cX7_strike 60 = .ok (.getfield 38, 3) := by decide +kernel
theorem dX7_strike_63 : decode cX7_strike 63 = .ok (.iload 6, 2) := by decide +kernel
theorem dX7_strike_65 : decode cX7_strike 65 = .ok (.aload_n 0, 1) := by decide +kernel
theorem dX7_strike_66 : decode cX7_strike 66 = .ok (.getfield 38, 3) := by decide +kernel
theorem dX7_strike_69 : decode cX7_strike 69 = .ok (.iload 6, 2) := by decide +kernel
theorem dX7_strike_71 : decode cX7_strike 71 = .ok (.iconst 1, 1) := by decide +kernel
theorem dX7_strike_72 : decode cX7_strike 72 = .ok (.iadd, 1) := by decide +kernel
theorem dX7_strike_73 : decode cX7_strike 73 = .ok (.iaload, 1) := by decide +kernel
theorem dX7_strike_74 : decode cX7_strike 74 = .ok (.iastore, 1) := by decide +kernel
theorem dX7_strike_75 : decode cX7_strike 75 = .ok (.aload_n 0, 1) := by decide +kernel
theorem dX7_strike_76 : decode cX7_strike 76 = .ok (.getfield 41, 3) := by decide +kernel
theorem dX7_strike_79 : decode cX7_strike 79 = .ok (.iload 6, 2) := by decide +kernel
theorem dX7_strike_81 : decode cX7_strike 81 = .ok (.aload_n 0, 1) := by decide +kernel
theorem dX7_strike_82 : decode cX7_strike 82 = .ok (.getfield 41, 3) := by decide +kernel
theorem dX7_strike_85 : decode cX7_strike 85 = .ok (.iload 6, 2) := by decide +kernel
theorem dX7_strike_87 : decode cX7_strike 87 = .ok (.iconst 1, 1) := by decide +kernel
theorem dX7_strike_88 : decode cX7_strike 88 = .ok (.iadd, 1) := by decide +kernel
theorem dX7_strike_89 : decode cX7_strike 89 = .ok (.iaload, 1) := by decide +kernel
theorem dX7_strike_90 : decode cX7_strike 90 = .ok (.iastore, 1) := by decide +kernel
theorem dX7_strike_91 : decode cX7_strike 91 = .ok (.aload_n 0, 1) := by decide +kernel
theorem dX7_strike_92 : decode cX7_strike 92 = .ok (.getfield 44, 3) := by decide +kernel
theorem dX7_strike_95 : decode cX7_strike 95 = .ok (.iload 6, 2) := by decide +kernel
theorem dX7_strike_97 : decode cX7_strike 97 = .ok (.aload_n 0, 1) := by decide +kernel
theorem dX7_strike_98 : decode cX7_strike 98 = .ok (.getfield 44, 3) := by decide +kernel
theorem dX7_strike_101 : decode cX7_strike 101 = .ok (.iload 6, 2) := by decide +kernel
theorem dX7_strike_103 : decode cX7_strike 103 = .ok (.iconst 1, 1) := by decide +kernel
theorem dX7_strike_104 : decode cX7_strike 104 = .ok (.iadd, 1) := by decide +kernel
theorem dX7_strike_105 : decode cX7_strike 105 = .ok (.iaload, 1) := by decide +kernel
theorem dX7_strike_106 : decode cX7_strike 106 = .ok (.iastore, 1) := by decide +kernel
theorem dX7_strike_107 : decode cX7_strike 107 = .ok (.iinc 6 1, 3) := by decide +kernel
theorem dX7_strike_110 : decode cX7_strike 110 = .ok (.goto (-67), 3) := by decide +kernel
theorem dX7_strike_113 : decode cX7_strike 113 = .ok (.iload 4, 2) := by decide +kernel
theorem dX7_strike_115 : decode cX7_strike 115 = .ok (.ireturn, 1) := by decide +kernel
theorem dX7_common_0 : decode cX7_common 0 = .ok (.iload_n 1, 1) := by decide +kernel
theorem dX7_common_1 : decode cX7_common 1 = .ok (.invokestatic 237, 3) := by decide +kernel
theorem dX7_common_4 : decode cX7_common 4 = .ok (.ifCond .eq 10, 3) := by decide +kernel
theorem dX7_common_7 : decode cX7_common 7 = .ok (.iload_n 2, 1) := by decide +kernel
theorem dX7_common_8 : decode cX7_common 8 = .ok (.invokestatic 237, 3) := by decide +kernel
theorem dX7_common_11 : decode cX7_common 11 = .ok (.ifCond .ne 6, 3) := by decide +kernel
theorem dX7_common_14 : decode cX7_common 14 = .ok (.ldc 167, 2) := by decide +kernel
theorem dX7_common_16 : decode cX7_common 16 = .ok (.ireturn, 1) := by decide +kernel
theorem dX7_common_17 : decode cX7_common 17 = .ok (.aload_n 0, 1) := by decide +kernel
theorem dX7_common_18 : decode cX7_common 18 = .ok (.getfield 35, 3) := by decide +kernel
theorem dX7_common_21 : decode cX7_common 21 = .ok (.iload_n 1, 1) := by decide +kernel
theorem dX7_common_22 : decode cX7_common 22 = .ok (.iaload, 1) := by decide +kernel
theorem dX7_common_23 : decode cX7_common 23 = .ok (.ifCond .lt 12, 3) := by decide +kernel
theorem dX7_common_26 : decode cX7_common 26 = .ok (.aload_n 0, 1) := by decide +kernel
theorem dX7_common_27 : decode cX7_common 27 = .ok (.getfield 35, 3) := by decide +kernel
theorem dX7_common_30 : decode cX7_common 30 = .ok (.iload_n 2, 1) := by decide +kernel
theorem dX7_common_31 : decode cX7_common 31 = .ok (.iaload, 1) := by decide +kernel
theorem dX7_common_32 : decode cX7_common 32 = .ok (.ifCond .ge 6, 3) := by decide +kernel
theorem dX7_common_35 : decode cX7_common 35 = .ok (.ldc 246, 2) := by decide +kernel
theorem dX7_common_37 : decode cX7_common 37 = .ok (.ireturn, 1) := by decide +kernel
theorem dX7_common_38 : decode cX7_common 38 = .ok (.iconst 0, 1) := by decide +kernel
theorem dX7_common_39 : decode cX7_common 39 = .ok (.istore_n 3, 1) := by decide +kernel
theorem dX7_common_40 : decode cX7_common 40 = .ok (.bipush 8, 2) := by decide +kernel
theorem dX7_common_42 : decode cX7_common 42 = .ok (.iload_n 1, 1) := by decide +kernel
theorem dX7_common_43 : decode cX7_common 43 = .ok (.imul, 1) := by decide +kernel
theorem dX7_common_44 : decode cX7_common 44 = .ok (.istore 4, 2) := by decide +kernel
theorem dX7_common_46 : decode cX7_common 46 = .ok (.iload 4, 2) := by decide +kernel
theorem dX7_common_48 : decode cX7_common 48 = .ok (.bipush 8, 2) := by decide +kernel
theorem dX7_common_50 : decode cX7_common 50 = .ok (.iload_n 1, 1) := by decide +kernel
theorem dX7_common_51 : decode cX7_common 51 = .ok (.imul, 1) := by decide +kernel
theorem dX7_common_52 : decode cX7_common 52 = .ok (.aload_n 0, 1) := by decide +kernel
theorem dX7_common_53 : decode cX7_common 53 = .ok (.getfield 35, 3) := by decide +kernel
theorem dX7_common_56 : decode cX7_common 56 = .ok (.iload_n 1, 1) := by decide +kernel
theorem dX7_common_57 : decode cX7_common 57 = .ok (.iaload, 1) := by decide +kernel
theorem dX7_common_58 : decode cX7_common 58 = .ok (.iadd, 1) := by decide +kernel
theorem dX7_common_59 : decode cX7_common 59 = .ok (.if_icmp .ge 61, 3) := by decide +kernel
theorem dX7_common_62 : decode cX7_common 62 = .ok (.aload_n 0, 1) := by decide +kernel
theorem dX7_common_63 : decode cX7_common 63 = .ok (.iload_n 2, 1) := by decide +kernel
theorem dX7_common_64 : decode cX7_common 64 = .ok (.aload_n 0, 1) := by decide +kernel
theorem dX7_common_65 : decode cX7_common 65 = .ok (.getfield 38, 3) := by decide +kernel
theorem dX7_common_68 : decode cX7_common 68 = .ok (.iload 4, 2) := by decide +kernel
theorem dX7_common_70 : decode cX7_common 70 = .ok (.iaload, 1) := by decide +kernel
theorem dX7_common_71 : decode cX7_common 71 = .ok (.aload_n 0, 1) := by decide +kernel
theorem dX7_common_72 : decode cX7_common 72 = .ok (.getfield 41, 3) := by decide +kernel
theorem dX7_common_75 : decode cX7_common 75 = .ok (.iload 4, 2) := by decide +kernel
theorem dX7_common_77 : decode cX7_common 77 = .ok (.iaload, 1) := by decide +kernel
theorem dX7_common_78 : decode cX7_common 78 = .ok (.invokevirtual 247, 3) := by decide +kernel
theorem dX7_common_81 : decode cX7_common 81 = .ok (.istore 5, 2) := by decide +kernel
theorem dX7_common_83 : decode cX7_common 83 = .ok (.iload_n 3, 1) := by decide +kernel
theorem dX7_common_84 : decode cX7_common 84 = .ok (.iload 5, 2) := by decide +kernel
theorem dX7_common_86 : decode cX7_common 86 = .ok (.iconst (-1), 1) := by decide +kernel
theorem dX7_common_87 : decode cX7_common 87 = .ok (.if_icmp .eq 24, 3) := by decide +kernel
theorem dX7_common_90 : decode cX7_common 90 = .ok (.aload_n 0, 1) := by decide +kernel
theorem dX7_common_91 : decode cX7_common 91 = .ok (.getfield 44, 3) := by decide +kernel
theorem dX7_common_94 : decode cX7_common 94 = .ok (.iload 5, 2) := by decide +kernel
theorem dX7_common_96 : decode cX7_common 96 = .ok (.iaload, 1) := by decide +kernel
theorem dX7_common_97 : decode cX7_common 97 = .ok (.aload_n 0, 1) := by decide +kernel
theorem dX7_common_98 : decode cX7_common 98 = .ok (.getfield 44, 3) := by decide +kernel
theorem dX7_common_101 : decode cX7_common 101 = .ok (.iload 4, 2) := by decide +kernel
theorem dX7_common_103 : decode cX7_common 103 = .ok (.iaload, 1) := by decide +kernel
theorem dX7_common_104 : decode cX7_common 104 = .ok (.if_icmp .ne 7, 3) := by decide +kernel
theorem dX7_common_107 : decode cX7_common 107 = .ok (.iconst 1, 1) := by decide +kernel
theorem dX7_common_108 : decode cX7_common 108 = .ok (.goto 4, 3) := by decide +kernel
theorem dX7_common_111 : decode cX7_common 111 = .ok (.iconst 0, 1) := by decide +kernel
theorem dX7_common_112 : decode cX7_common 112 = .ok (.iadd, 1) := by decide +kernel
theorem dX7_common_113 : decode cX7_common 113 = .ok (.istore_n 3, 1) := by decide +kernel
theorem dX7_common_114 : decode cX7_common 114 = .ok (.iinc 4 1, 3) := by decide +kernel
theorem dX7_common_117 : decode cX7_common 117 = .ok (.goto (-71), 3) := by decide +kernel
theorem dX7_common_120 : decode cX7_common 120 = .ok (.iload_n 3, 1) := by decide +kernel
theorem dX7_common_121 : decode cX7_common 121 = .ok (.ireturn, 1) := by decide +kernel
theorem dX7_sum_0 : decode cX7_sum 0 = .ok (.iload_n 1, 1) := by decide +kernel
theorem dX7_sum_1 : decode cX7_sum 1 = .ok (.invokestatic 237, 3) := by decide +kernel
theorem dX7_sum_4 : decode cX7_sum 4 = .ok (.ifCond .ne 6, 3) := by decide +kernel
theorem dX7_sum_7 : decode cX7_sum 7 = .ok (.ldc 167, 2) := by decide +kernel
theorem dX7_sum_9 : decode cX7_sum 9 = .ok (.ireturn, 1) := by decide +kernel
theorem dX7_sum_10 : decode cX7_sum 10 = .ok (.iload_n 2, 1) := by decide +kernel
theorem dX7_sum_11 : decode cX7_sum 11 = .ok (.i2l, 1) := by decide +kernel
theorem dX7_sum_12 : decode cX7_sum 12 = .ok (.lconst 0, 1) := by decide +kernel
theorem dX7_sum_13 : decode cX7_sum 13 = .ok (.ldc2_w 191, 3) := by decide +kernel
theorem dX7_sum_16 : decode cX7_sum 16 = .ok (.invokestatic 64, 3) := by decide +kernel
theorem dX7_sum_19 : decode cX7_sum 19 = .ok (.ifCond .ne 6, 3) := by decide +kernel
theorem dX7_sum_22 : decode cX7_sum 22 = .ok (.ldc 68, 2) := by decide +kernel
theorem dX7_sum_24 : decode cX7_sum 24 = .ok (.ireturn, 1) := by decide +kernel
theorem dX7_sum_25 : decode cX7_sum 25 = .ok (.aload_n 0, 1) := by decide +kernel
theorem dX7_sum_26 : decode cX7_sum 26 = .ok (.getfield 35, 3) := by decide +kernel
theorem dX7_sum_29 : decode cX7_sum 29 = .ok (.iload_n 1, 1) := by decide +kernel
theorem dX7_sum_30 : decode cX7_sum 30 = .ok (.iaload, 1) := by decide +kernel
theorem dX7_sum_31 : decode cX7_sum 31 = .ok (.ifCond .ge 6, 3) := by decide +kernel
theorem dX7_sum_34 : decode cX7_sum 34 = .ok (.ldc 246, 2) := by decide +kernel
theorem dX7_sum_36 : decode cX7_sum 36 = .ok (.ireturn, 1) := by decide +kernel
theorem dX7_sum_37 : decode cX7_sum 37 = .ok (.iconst 0, 1) := by decide +kernel
theorem dX7_sum_38 : decode cX7_sum 38 = .ok (.istore_n 3, 1) := by decide +kernel
theorem dX7_sum_39 : decode cX7_sum 39 = .ok (.bipush 8, 2) := by decide +kernel
theorem dX7_sum_41 : decode cX7_sum 41 = .ok (.iload_n 1, 1) := by decide +kernel
theorem dX7_sum_42 : decode cX7_sum 42 = .ok (.imul, 1) := by decide +kernel
theorem dX7_sum_43 : decode cX7_sum 43 = .ok (.istore 4, 2) := by decide +kernel
theorem dX7_sum_45 : decode cX7_sum 45 = .ok (.iload 4, 2) := by decide +kernel
theorem dX7_sum_47 : decode cX7_sum 47 = .ok (.bipush 8, 2) := by decide +kernel
theorem dX7_sum_49 : decode cX7_sum 49 = .ok (.iload_n 1, 1) := by decide +kernel
theorem dX7_sum_50 : decode cX7_sum 50 = .ok (.imul, 1) := by decide +kernel
theorem dX7_sum_51 : decode cX7_sum 51 = .ok (.aload_n 0, 1) := by decide +kernel
theorem dX7_sum_52 : decode cX7_sum 52 = .ok (.getfield 35, 3) := by decide +kernel
theorem dX7_sum_55 : decode cX7_sum 55 = .ok (.iload_n 1, 1) := by decide +kernel
theorem dX7_sum_56 : decode cX7_sum 56 = .ok (.iaload, 1) := by decide +kernel
theorem dX7_sum_57 : decode cX7_sum 57 = .ok (.iadd, 1) := by decide +kernel
theorem dX7_sum_58 : decode cX7_sum 58 = .ok (.if_icmp .ge 42, 3) := by decide +kernel
theorem dX7_sum_61 : decode cX7_sum 61 = .ok (.iload_n 3, 1) := by decide +kernel
theorem dX7_sum_62 : decode cX7_sum 62 = .ok (.iload_n 2, 1) := by decide +kernel
theorem dX7_sum_63 : decode cX7_sum 63 = .ok (.ifCond .ne 13, 3) := by decide +kernel
theorem dX7_sum_66 : decode cX7_sum 66 = .ok (.aload_n 0, 1) := by decide +kernel
theorem dX7_sum_67 : decode cX7_sum 67 = .ok (.getfield 44, 3) := by decide +kernel
theorem dX7_sum_70 : decode cX7_sum 70 = .ok (.iload 4, 2) := by decide +kernel
theorem dX7_sum_72 : decode cX7_sum 72 = .ok (.iaload, 1) := by decide +kernel
theorem dX7_sum_73 : decode cX7_sum 73 = .ok (.goto 19, 3) := by decide +kernel
theorem dX7_sum_76 : decode cX7_sum 76 = .ok (.iload_n 2, 1) := by decide +kernel
theorem dX7_sum_77 : decode cX7_sum 77 = .ok (.iconst 1, 1) := by decide +kernel
theorem dX7_sum_78 : decode cX7_sum 78 = .ok (.if_icmp .ne 7, 3) := by decide +kernel
theorem dX7_sum_81 : decode cX7_sum 81 = .ok (.iconst 1, 1) := by decide +kernel
theorem dX7_sum_82 : decode cX7_sum 82 = .ok (.goto 10, 3) := by decide +kernel
theorem dX7_sum_85 : decode cX7_sum 85 = .ok (.aload_n 0, 1) := by decide +kernel
theorem dX7_sum_86 : decode cX7_sum 86 = .ok (.getfield 41, 3) := by decide +kernel
theorem dX7_sum_89 : decode cX7_sum 89 = .ok (.iload 4, 2) := by decide +kernel
theorem dX7_sum_91 : decode cX7_sum 91 = .ok (.iaload, 1) := by decide +kernel
theorem dX7_sum_92 : decode cX7_sum 92 = .ok (.iadd, 1) := by decide +kernel
theorem dX7_sum_93 : decode cX7_sum 93 = .ok (.istore_n 3, 1) := by decide +kernel
theorem dX7_sum_94 : decode cX7_sum 94 = .ok (.iinc 4 1, 3) := by decide +kernel
theorem dX7_sum_97 : decode cX7_sum 97 = .ok (.goto (-52), 3) := by decide +kernel
theorem dX7_sum_100 : decode cX7_sum 100 = .ok (.iload_n 3, 1) := by decide +kernel
theorem dX7_sum_101 : decode cX7_sum 101 = .ok (.ireturn, 1) := by decide +kernel
theorem dX7_drop_0 : decode cX7_drop 0 = .ok (.iload_n 1, 1) := by decide +kernel
theorem dX7_drop_1 : decode cX7_drop 1 = .ok (.invokestatic 237, 3) := by decide +kernel
theorem dX7_drop_4 : decode cX7_drop 4 = .ok (.ifCond .ne 6, 3) := by decide +kernel
theorem dX7_drop_7 : decode cX7_drop 7 = .ok (.ldc 167, 2) := by decide +kernel
theorem dX7_drop_9 : decode cX7_drop 9 = .ok (.ireturn, 1) := by decide +kernel
theorem dX7_drop_10 : decode cX7_drop 10 = .ok (.aload_n 0, 1) := by decide +kernel
theorem dX7_drop_11 : decode cX7_drop 11 = .ok (.getfield 35, 3) := by decide +kernel
theorem dX7_drop_14 : decode cX7_drop 14 = .ok (.iload_n 1, 1) := by decide +kernel
theorem dX7_drop_15 : decode cX7_drop 15 = .ok (.iaload, 1) := by decide +kernel
theorem dX7_drop_16 : decode cX7_drop 16 = .ok (.istore_n 2, 1) := by decide +kernel
theorem dX7_drop_17 : decode cX7_drop 17 = .ok (.aload_n 0, 1) := by decide +kernel
theorem dX7_drop_18 : decode cX7_drop 18 = .ok (.getfield 35, 3) := by decide +kernel
theorem dX7_drop_21 : decode cX7_drop 21 = .ok (.iload_n 1, 1) := by decide +kernel
theorem dX7_drop_22 : decode cX7_drop 22 = .ok (.iconst (-1), 1) := by decide +kernel
theorem dX7_drop_23 : decode cX7_drop 23 = .ok (.iastore, 1) := by decide +kernel
theorem dX7_drop_24 : decode cX7_drop 24 = .ok (.iload_n 2, 1) := by decide +kernel
theorem dX7_drop_25 : decode cX7_drop 25 = .ok (.ifCond .ge 8, 3) := by decide +kernel
theorem dX7_drop_28 : decode cX7_drop 28 = .ok (.ldc 246, 2) := by decide +kernel
theorem dX7_drop_30 : decode cX7_drop 30 = .ok (.goto 4, 3) := by decide +kernel
theorem dX7_drop_33 : decode cX7_drop 33 = .ok (.iload_n 2, 1) := by decide +kernel
theorem dX7_drop_34 : decode cX7_drop 34 = .ok (.ireturn, 1) := by decide +kernel
theorem dX7_extreme_0 : decode cX7_extreme 0 = .ok (.iconst (-1), 1) := by decide +kernel
theorem dX7_extreme_1 : decode cX7_extreme 1 = .ok (.istore_n 2, 1) := by decide +kernel
theorem dX7_extreme_2 : decode cX7_extreme 2 = .ok (.iconst 0, 1) := by decide +kernel
theorem dX7_extreme_3 : decode cX7_extreme 3 = .ok (.istore_n 3, 1) := by decide +kernel
theorem dX7_extreme_4 : decode cX7_extreme 4 = .ok (.iload_n 3, 1) := by decide +kernel
theorem dX7_extreme_5 : decode cX7_extreme 5 = .ok (.aload_n 0, 1) := by decide +kernel
theorem dX7_extreme_6 : decode cX7_extreme 6 = .ok (.getfield 126, 3) := by decide +kernel
theorem dX7_extreme_9 : decode cX7_extreme 9 = .ok (.if_icmp .ge 91, 3) := by decide +kernel
theorem dX7_extreme_12 : decode cX7_extreme 12 = .ok (.iload_n 2, 1) := by decide +kernel
theorem dX7_extreme_13 : decode cX7_extreme 13 = .ok (.iconst (-1), 1) := by decide +kernel
theorem dX7_extreme_14 : decode cX7_extreme 14 = .ok (.if_icmp .ne 7, 3) := by decide +kernel
theorem dX7_extreme_17 : decode cX7_extreme 17 = .ok (.iconst 0, 1) := by decide +kernel
theorem dX7_extreme_18 : decode cX7_extreme 18 = .ok (.goto 17, 3) := by decide +kernel
theorem dX7_extreme_21 : decode cX7_extreme 21 = .ok (.aload_n 0, 1) := by decide +kernel
theorem dX7_extreme_22 : decode cX7_extreme 22 = .ok (.getfield 7, 3) := by decide +kernel
theorem dX7_extreme_25 : decode cX7_extreme 25 = .ok (.iconst 0, 1) := by decide +kernel
theorem dX7_extreme_26 : decode cX7_extreme 26 = .ok (.iload_n 3, 1) := by decide +kernel
theorem dX7_extreme_27 : decode cX7_extreme 27 = .ok (.iadd, 1) := by decide +kernel
theorem dX7_extreme_28 : decode cX7_extreme 28 = .ok (.iaload, 1) := by decide +kernel
theorem dX7_extreme_29 : decode cX7_extreme 29 = .ok (.aload_n 0, 1) := by decide +kernel
theorem dX7_extreme_30 : decode cX7_extreme 30 = .ok (.iload_n 2, 1) := by decide +kernel
theorem dX7_extreme_31 : decode cX7_extreme 31 = .ok (.invokevirtual 175, 3) := by decide +kernel
theorem dX7_extreme_34 : decode cX7_extreme 34 = .ok (.imul, 1) := by decide +kernel
theorem dX7_extreme_35 : decode cX7_extreme 35 = .ok (.istore 4, 2) := by decide +kernel
theorem dX7_extreme_37 : decode cX7_extreme 37 = .ok (.iload_n 2, 1) := by decide +kernel
theorem dX7_extreme_38 : decode cX7_extreme 38 = .ok (.iconst (-1), 1) := by decide +kernel
theorem dX7_extreme_39 : decode cX7_extreme 39 = .ok (.if_icmp .ne 7, 3) := by decide +kernel
theorem dX7_extreme_42 : decode cX7_extreme 42 = .ok (.iconst 0, 1) := by decide +kernel
theorem dX7_extreme_43 : decode cX7_extreme 43 = .ok (.goto 17, 3) := by decide +kernel
theorem dX7_extreme_46 : decode cX7_extreme 46 = .ok (.aload_n 0, 1) := by decide +kernel
theorem dX7_extreme_47 : decode cX7_extreme 47 = .ok (.getfield 7, 3) := by decide +kernel
theorem dX7_extreme_50 : decode cX7_extreme 50 = .ok (.iconst 0, 1) := by decide +kernel
theorem dX7_extreme_51 : decode cX7_extreme 51 = .ok (.iload_n 2, 1) := by decide +kernel
theorem dX7_extreme_52 : decode cX7_extreme 52 = .ok (.iadd, 1) := by decide +kernel
theorem dX7_extreme_53 : decode cX7_extreme 53 = .ok (.iaload, 1) := by decide +kernel
theorem dX7_extreme_54 : decode cX7_extreme 54 = .ok (.aload_n 0, 1) := by decide +kernel
theorem dX7_extreme_55 : decode cX7_extreme 55 = .ok (.iload_n 3, 1) := by decide +kernel
theorem dX7_extreme_56 : decode cX7_extreme 56 = .ok (.invokevirtual 175, 3) := by decide +kernel
theorem dX7_extreme_59 : decode cX7_extreme 59 = .ok (.imul, 1) := by decide +kernel
theorem dX7_extreme_60 : decode cX7_extreme 60 = .ok (.istore 5, 2) := by decide +kernel
theorem dX7_extreme_62 : decode cX7_extreme 62 = .ok (.iload_n 2, 1) := by decide +kernel
theorem dX7_extreme_63 : decode cX7_extreme 63 = .ok (.iconst (-1), 1) := by decide +kernel
theorem dX7_extreme_64 : decode cX7_extreme 64 = .ok (.if_icmp .eq 24, 3) := by decide +kernel
theorem dX7_extreme_67 : decode cX7_extreme 67 = .ok (.iload_n 1, 1) := by decide +kernel
theorem dX7_extreme_68 : decode cX7_extreme 68 = .ok (.ifCond .eq 13, 3) := by decide +kernel
theorem dX7_extreme_71 : decode cX7_extreme 71 = .ok (.iload 4, 2) := by decide +kernel
theorem dX7_extreme_73 : decode cX7_extreme 73 = .ok (.iload 5, 2) := by decide +kernel
theorem dX7_extreme_75 : decode cX7_extreme 75 = .ok (.if_icmp .le 17, 3) := by decide +kernel
theorem dX7_extreme_78 : decode cX7_extreme 78 = .ok (.goto 10, 3) := by decide +kernel
theorem dX7_extreme_81 : decode cX7_extreme 81 = .ok (.iload 4, 2) := by decide +kernel
theorem dX7_extreme_83 : decode cX7_extreme 83 = .ok (.iload 5, 2) := by decide +kernel
theorem dX7_extreme_85 : decode cX7_extreme 85 = .ok (.if_icmp .ge 7, 3) := by decide +kernel
theorem dX7_extreme_88 : decode cX7_extreme 88 = .ok (.iload_n 3, 1) := by decide +kernel
theorem dX7_extreme_89 : decode cX7_extreme 89 = .ok (.goto 4, 3) := by decide +kernel
theorem dX7_extreme_92 : decode cX7_extreme 92 = .ok (.iload_n 2, 1) := by decide +kernel
theorem dX7_extreme_93 : decode cX7_extreme 93 = .ok (.istore_n 2, 1) := by decide +kernel
theorem dX7_extreme_94 : decode cX7_extreme 94 = .ok (.iinc 3 1, 3) := by decide +kernel
theorem dX7_extreme_97 : decode cX7_extreme 97 = .ok (.goto (-93), 3) := by decide +kernel
theorem dX7_extreme_100 : decode cX7_extreme 100 = .ok (.iload_n 2, 1) := by decide +kernel
theorem dX7_extreme_101 : decode cX7_extreme 101 = .ok (.ireturn, 1) := by decide +kernel
theorem dX7_alike_0 : decode cX7_alike 0 = .ok (.iconst 0, 1) := by decide +kernel
theorem dX7_alike_1 : decode cX7_alike 1 = .ok (.istore_n 1, 1) := by decide +kernel
theorem dX7_alike_2 : decode cX7_alike 2 = .ok (.iconst 0, 1) := by decide +kernel
theorem dX7_alike_3 : decode cX7_alike 3 = .ok (.istore_n 2, 1) := by decide +kernel
theorem dX7_alike_4 : decode cX7_alike 4 = .ok (.iload_n 2, 1) := by decide +kernel
theorem dX7_alike_5 : decode cX7_alike 5 = .ok (.aload_n 0, 1) := by decide +kernel
theorem dX7_alike_6 : decode cX7_alike 6 = .ok (.getfield 126, 3) := by decide +kernel
theorem dX7_alike_9 : decode cX7_alike 9 = .ok (.if_icmp .ge 64, 3) := by decide +kernel
theorem dX7_alike_12 : decode cX7_alike 12 = .ok (.iconst 0, 1) := by decide +kernel
theorem dX7_alike_13 : decode cX7_alike 13 = .ok (.istore_n 3, 1) := by decide +kernel
theorem dX7_alike_14 : decode cX7_alike 14 = .ok (.iload_n 3, 1) := by decide +kernel
theorem dX7_alike_15 : decode cX7_alike 15 = .ok (.iload_n 2, 1) := by decide +kernel
theorem dX7_alike_16 : decode cX7_alike 16 = .ok (.if_icmp .ge 51, 3) := by decide +kernel
theorem dX7_alike_19 : decode cX7_alike 19 = .ok (.iload_n 1, 1) := by decide +kernel
theorem dX7_alike_20 : decode cX7_alike 20 = .ok (.aload_n 0, 1) := by decide +kernel
theorem dX7_alike_21 : decode cX7_alike 21 = .ok (.getfield 25, 3) := by decide +kernel
theorem dX7_alike_24 : decode cX7_alike 24 = .ok (.iload_n 2, 1) := by decide +kernel
theorem dX7_alike_25 : decode cX7_alike 25 = .ok (.iaload, 1) := by decide +kernel
theorem dX7_alike_26 : decode cX7_alike 26 = .ok (.aload_n 0, 1) := by decide +kernel
theorem dX7_alike_27 : decode cX7_alike 27 = .ok (.getfield 25, 3) := by decide +kernel
theorem dX7_alike_30 : decode cX7_alike 30 = .ok (.iload_n 3, 1) := by decide +kernel
theorem dX7_alike_31 : decode cX7_alike 31 = .ok (.iaload, 1) := by decide +kernel
theorem dX7_alike_32 : decode cX7_alike 32 = .ok (.if_icmp .ne 26, 3) := by decide +kernel
theorem dX7_alike_35 : decode cX7_alike 35 = .ok (.aload_n 0, 1) := by decide +kernel
theorem dX7_alike_36 : decode cX7_alike 36 = .ok (.getfield 7, 3) := by decide +kernel
theorem dX7_alike_39 : decode cX7_alike 39 = .ok (.iconst 0, 1) := by decide +kernel
theorem dX7_alike_40 : decode cX7_alike 40 = .ok (.iload_n 2, 1) := by decide +kernel
theorem dX7_alike_41 : decode cX7_alike 41 = .ok (.iadd, 1) := by decide +kernel
theorem dX7_alike_42 : decode cX7_alike 42 = .ok (.iaload, 1) := by decide +kernel
theorem dX7_alike_43 : decode cX7_alike 43 = .ok (.aload_n 0, 1) := by decide +kernel
theorem dX7_alike_44 : decode cX7_alike 44 = .ok (.getfield 7, 3) := by decide +kernel
theorem dX7_alike_47 : decode cX7_alike 47 = .ok (.iconst 0, 1) := by decide +kernel
theorem dX7_alike_48 : decode cX7_alike 48 = .ok (.iload_n 3, 1) := by decide +kernel
theorem dX7_alike_49 : decode cX7_alike 49 = .ok (.iadd, 1) := by decide +kernel
theorem dX7_alike_50 : decode cX7_alike 50 = .ok (.iaload, 1) := by decide +kernel
theorem dX7_alike_51 : decode cX7_alike 51 = .ok (.if_icmp .ne 7, 3) := by decide +kernel
theorem dX7_alike_54 : decode cX7_alike 54 = .ok (.iconst 1, 1) := by decide +kernel
theorem dX7_alike_55 : decode cX7_alike 55 = .ok (.goto 4, 3) := by decide +kernel
theorem dX7_alike_58 : decode cX7_alike 58 = .ok (.iconst 0, 1) := by decide +kernel
theorem dX7_alike_59 : decode cX7_alike 59 = .ok (.iadd, 1) := by decide +kernel
theorem dX7_alike_60 : decode cX7_alike 60 = .ok (.istore_n 1, 1) := by decide +kernel
theorem dX7_alike_61 : decode cX7_alike 61 = .ok (.iinc 3 1, 3) := by decide +kernel
theorem dX7_alike_64 : decode cX7_alike 64 = .ok (.goto (-50), 3) := by decide +kernel
theorem dX7_alike_67 : decode cX7_alike 67 = .ok (.iinc 2 1, 3) := by decide +kernel
theorem dX7_alike_70 : decode cX7_alike 70 = .ok (.goto (-66), 3) := by decide +kernel
theorem dX7_alike_73 : decode cX7_alike 73 = .ok (.iload_n 1, 1) := by decide +kernel
theorem dX7_alike_74 : decode cX7_alike 74 = .ok (.ireturn, 1) := by decide +kernel
theorem dX7_allKeys_0 : decode cX7_allKeys 0 = .ok (.iconst 0, 1) := by decide +kernel
theorem dX7_allKeys_1 : decode cX7_allKeys 1 = .ok (.istore_n 1, 1) := by decide +kernel
theorem dX7_allKeys_2 : decode cX7_allKeys 2 = .ok (.iconst 0, 1) := by decide +kernel
theorem dX7_allKeys_3 : decode cX7_allKeys 3 = .ok (.istore_n 2, 1) := by decide +kernel
theorem dX7_allKeys_4 : decode cX7_allKeys 4 = .ok (.iload_n 2, 1) := by decide +kernel
theorem dX7_allKeys_5 : decode cX7_allKeys 5 = .ok (.iconst 3, 1) := by decide +kernel
theorem dX7_allKeys_6 : decode cX7_allKeys 6 = .ok (.if_icmp .ge 31, 3) := by decide +kernel
theorem dX7_allKeys_9 : decode cX7_allKeys 9 = .ok (.iload_n 1, 1) := by decide +kernel
theorem dX7_allKeys_10 : decode cX7_allKeys 10 = .ok (.aload_n 0, 1) := by decide +kernel
theorem dX7_allKeys_11 : decode cX7_allKeys 11 = .ok (.getfield 35, 3) := by decide +kernel
theorem dX7_allKeys_14 : decode cX7_allKeys 14 = .ok (.iload_n 2, 1) := by decide +kernel
theorem dX7_allKeys_15 : decode cX7_allKeys 15 = .ok (.iaload, 1) := by decide +kernel
theorem dX7_allKeys_16 : decode cX7_allKeys 16 = .ok (.ifCond .ge 7, 3) := by decide +kernel
theorem dX7_allKeys_19 : decode cX7_allKeys 19 = .ok (.iconst 0, 1) := by decide +kernel
theorem dX7_allKeys_20 : decode cX7_allKeys 20 = .ok (.goto 9, 3) := by decide +kernel
theorem dX7_allKeys_23 : decode cX7_allKeys 23 = .ok (.aload_n 0, 1) := by decide +kernel
theorem dX7_allKeys_24 : decode cX7_allKeys 24 = .ok (.getfield 35, 3) := by decide +kernel
theorem dX7_allKeys_27 : decode cX7_allKeys 27 = .ok (.iload_n 2, 1) := by decide +kernel
theorem dX7_allKeys_28 : decode cX7_allKeys 28 = .ok (.iaload, 1) := by decide +kernel
theorem dX7_allKeys_29 : decode cX7_allKeys 29 = .ok (.iadd, 1) := by decide +kernel
theorem dX7_allKeys_30 : decode cX7_allKeys 30 = .ok (.istore_n 1, 1) := by decide +kernel
theorem dX7_allKeys_31 : decode cX7_allKeys 31 = .ok (.iinc 2 1, 3) := by decide +kernel
theorem dX7_allKeys_34 : decode cX7_allKeys 34 = .ok (.goto (-30), 3) := by decide +kernel
theorem dX7_allKeys_37 : decode cX7_allKeys 37 = .ok (.iload_n 1, 1) := by decide +kernel
theorem dX7_allKeys_38 : decode cX7_allKeys 38 = .ok (.ireturn, 1) := by decide +kernel
theorem dX7_count_0 : decode cX7_count 0 = .ok (.iload_n 1, 1) := by decide +kernel
theorem dX7_count_1 : decode cX7_count 1 = .ok (.tableswitch 179 0 15 #[79, 84, 89, 97, 105, 113, 118, 123, 131, 139, 145, 151, 156, 164, 169, 174], 79) := by decide +kernel
theorem dX7_count_80 : decode cX7_count 80 = .ok (.aload_n 0, 1) := by decide +kernel
theorem dX7_count_81 : decode cX7_count 81 = .ok (.getfield 123, 3) := by decide +kernel
theorem dX7_count_84 : decode cX7_count 84 = .ok (.ireturn, 1) := by decide +kernel
theorem dX7_count_85 : decode cX7_count 85 = .ok (.aload_n 0, 1) := by decide +kernel
theorem dX7_count_86 : decode cX7_count 86 = .ok (.getfield 126, 3) := by decide +kernel
theorem dX7_count_89 : decode cX7_count 89 = .ok (.ireturn, 1) := by decide +kernel
theorem dX7_count_90 : decode cX7_count 90 = .ok (.aload_n 0, 1) := by decide +kernel
theorem dX7_count_91 : decode cX7_count 91 = .ok (.getfield 7, 3) := by decide +kernel
theorem dX7_count_94 : decode cX7_count 94 = .ok (.bipush 10, 2) := by decide +kernel
theorem dX7_count_96 : decode cX7_count 96 = .ok (.iaload, 1) := by decide +kernel
theorem dX7_count_97 : decode cX7_count 97 = .ok (.ireturn, 1) := by decide +kernel
theorem dX7_count_98 : decode cX7_count 98 = .ok (.aload_n 0, 1) := by decide +kernel
theorem dX7_count_99 : decode cX7_count 99 = .ok (.getfield 7, 3) := by decide +kernel
theorem dX7_count_102 : decode cX7_count 102 = .ok (.bipush 11, 2) := by decide +kernel
theorem dX7_count_104 : decode cX7_count 104 = .ok (.iaload, 1) := by decide +kernel
theorem dX7_count_105 : decode cX7_count 105 = .ok (.ireturn, 1) := by decide +kernel
theorem dX7_count_106 : decode cX7_count 106 = .ok (.aload_n 0, 1) := by decide +kernel
theorem dX7_count_107 : decode cX7_count 107 = .ok (.getfield 7, 3) := by decide +kernel
theorem dX7_count_110 : decode cX7_count 110 = .ok (.bipush 12, 2) := by decide +kernel
theorem dX7_count_112 : decode cX7_count 112 = .ok (.iaload, 1) := by decide +kernel
theorem dX7_count_113 : decode cX7_count 113 = .ok (.ireturn, 1) := by decide +kernel
theorem dX7_count_114 : decode cX7_count 114 = .ok (.aload_n 0, 1) := by decide +kernel
theorem dX7_count_115 : decode cX7_count 115 = .ok (.invokevirtual 219, 3) := by decide +kernel
theorem dX7_count_118 : decode cX7_count 118 = .ok (.ireturn, 1) := by decide +kernel
theorem dX7_count_119 : decode cX7_count 119 = .ok (.aload_n 0, 1) := by decide +kernel
theorem dX7_count_120 : decode cX7_count 120 = .ok (.invokevirtual 222, 3) := by decide +kernel
theorem dX7_count_123 : decode cX7_count 123 = .ok (.ireturn, 1) := by decide +kernel
theorem dX7_count_124 : decode cX7_count 124 = .ok (.aload_n 0, 1) := by decide +kernel
theorem dX7_count_125 : decode cX7_count 125 = .ok (.getfield 7, 3) := by decide +kernel
theorem dX7_count_128 : decode cX7_count 128 = .ok (.bipush 13, 2) := by decide +kernel
theorem dX7_count_130 : decode cX7_count 130 = .ok (.iaload, 1) := by decide +kernel
theorem dX7_count_131 : decode cX7_count 131 = .ok (.ireturn, 1) := by decide +kernel
theorem dX7_count_132 : decode cX7_count 132 = .ok (.aload_n 0, 1) := by decide +kernel
theorem dX7_count_133 : decode cX7_count 133 = .ok (.getfield 7, 3) := by decide +kernel
theorem dX7_count_136 : decode cX7_count 136 = .ok (.bipush 14, 2) := by decide +kernel
theorem dX7_count_138 : decode cX7_count 138 = .ok (.iaload, 1) := by decide +kernel
theorem dX7_count_139 : decode cX7_count 139 = .ok (.ireturn, 1) := by decide +kernel
theorem dX7_count_140 : decode cX7_count 140 = .ok (.aload_n 0, 1) := by decide +kernel
theorem dX7_count_141 : decode cX7_count 141 = .ok (.iconst 1, 1) := by decide +kernel
theorem dX7_count_142 : decode cX7_count 142 = .ok (.invokevirtual 256, 3) := by decide +kernel
theorem dX7_count_145 : decode cX7_count 145 = .ok (.ireturn, 1) := by decide +kernel
theorem dX7_count_146 : decode cX7_count 146 = .ok (.aload_n 0, 1) := by decide +kernel
theorem dX7_count_147 : decode cX7_count 147 = .ok (.iconst 0, 1) := by decide +kernel
theorem dX7_count_148 : decode cX7_count 148 = .ok (.invokevirtual 256, 3) := by decide +kernel
theorem dX7_count_151 : decode cX7_count 151 = .ok (.ireturn, 1) := by decide +kernel
theorem dX7_count_152 : decode cX7_count 152 = .ok (.aload_n 0, 1) := by decide +kernel
theorem dX7_count_153 : decode cX7_count 153 = .ok (.invokevirtual 260, 3) := by decide +kernel
theorem dX7_count_156 : decode cX7_count 156 = .ok (.ireturn, 1) := by decide +kernel
theorem dX7_count_157 : decode cX7_count 157 = .ok (.aload_n 0, 1) := by decide +kernel
theorem dX7_count_158 : decode cX7_count 158 = .ok (.getfield 7, 3) := by decide +kernel
theorem dX7_count_161 : decode cX7_count 161 = .ok (.bipush 15, 2) := by decide +kernel
theorem dX7_count_163 : decode cX7_count 163 = .ok (.iaload, 1) := by decide +kernel
theorem dX7_count_164 : decode cX7_count 164 = .ok (.ireturn, 1) := by decide +kernel
theorem dX7_count_165 : decode cX7_count 165 = .ok (.aload_n 0, 1) := by decide +kernel
theorem dX7_count_166 : decode cX7_count 166 = .ok (.invokevirtual 263, 3) := by decide +kernel
theorem dX7_count_169 : decode cX7_count 169 = .ok (.ireturn, 1) := by decide +kernel
theorem dX7_count_170 : decode cX7_count 170 = .ok (.aload_n 0, 1) := by decide +kernel
theorem dX7_count_171 : decode cX7_count 171 = .ok (.getfield 157, 3) := by decide +kernel
theorem dX7_count_174 : decode cX7_count 174 = .ok (.ireturn, 1) := by decide +kernel
theorem dX7_count_175 : decode cX7_count 175 = .ok (.aload_n 0, 1) := by decide +kernel
theorem dX7_count_176 : decode cX7_count 176 = .ok (.getfield 69, 3) := by decide +kernel
theorem dX7_count_179 : decode cX7_count 179 = .ok (.ireturn, 1) := by decide +kernel
theorem dX7_count_180 : decode cX7_count 180 = .ok (.ldc 68, 2) := by decide +kernel
theorem dX7_count_182 : decode cX7_count 182 = .ok (.ireturn, 1) := by decide +kernel
theorem dJ6_compare_7cf53_0 : decode cJ6_compare_7cf53 0 = .ok (.iload_n 0, 1) := by decide +kernel
theorem dJ6_compare_7cf53_1 : decode cJ6_compare_7cf53 1 = .ok (.iload_n 1, 1) := by decide +kernel
theorem dJ6_compare_7cf53_2 : decode cJ6_compare_7cf53 2 = .ok (.if_icmp .ge 7, 3) := by decide +kernel
theorem dJ6_compare_7cf53_5 : decode cJ6_compare_7cf53 5 = .ok (.iconst (-1), 1) := by decide +kernel
theorem dJ6_compare_7cf53_6 : decode cJ6_compare_7cf53 6 = .ok (.goto 13, 3) := by decide +kernel
theorem dJ6_compare_7cf53_9 : decode cJ6_compare_7cf53 9 = .ok (.iload_n 0, 1) := by decide +kernel
theorem dJ6_compare_7cf53_10 : decode cJ6_compare_7cf53 10 = .ok (.iload_n 1, 1) := by decide +kernel
theorem dJ6_compare_7cf53_11 : decode cJ6_compare_7cf53 11 = .ok (.if_icmp .ne 7, 3) := by decide +kernel
theorem dJ6_compare_7cf53_14 : decode cJ6_compare_7cf53 14 = .ok (.iconst 0, 1) := by decide +kernel
theorem dJ6_compare_7cf53_15 : decode cJ6_compare_7cf53 15 = .ok (.goto 4, 3) := by decide +kernel
theorem dJ6_compare_7cf53_18 : decode cJ6_compare_7cf53 18 = .ok (.iconst 1, 1) := by decide +kernel
theorem dJ6_compare_7cf53_19 : decode cJ6_compare_7cf53 19 = .ok (.ireturn, 1) := by decide +kernel
theorem dJ9_abs_067f4_0 : decode cJ9_abs_067f4 0 = .ok (.lload_n 0, 1) := by decide +kernel
theorem dJ9_abs_067f4_1 : decode cJ9_abs_067f4 1 = .ok (.lconst 0, 1) := by decide +kernel
theorem dJ9_abs_067f4_2 : decode cJ9_abs_067f4 2 = .ok (.lcmp, 1) := by decide +kernel
theorem dJ9_abs_067f4_3 : decode cJ9_abs_067f4 3 = .ok (.ifCond .ge 8, 3) := by decide +kernel
theorem dJ9_abs_067f4_6 : decode cJ9_abs_067f4 6 = .ok (.lload_n 0, 1) := by decide +kernel
theorem dJ9_abs_067f4_7 : decode cJ9_abs_067f4 7 = .ok (.lneg, 1) := by decide +kernel
theorem dJ9_abs_067f4_8 : decode cJ9_abs_067f4 8 = .ok (.goto 4, 3) := by decide +kernel
theorem dJ9_abs_067f4_11 : decode cJ9_abs_067f4 11 = .ok (.lload_n 0, 1) := by decide +kernel
theorem dJ9_abs_067f4_12 : decode cJ9_abs_067f4 12 = .ok (.lreturn, 1) := by decide +kernel
theorem dJ9_max_f86c9_0 : decode cJ9_max_f86c9 0 = .ok (.lload_n 0, 1) := by decide +kernel
theorem dJ9_max_f86c9_1 : decode cJ9_max_f86c9 1 = .ok (.lload_n 2, 1) := by decide +kernel
theorem dJ9_max_f86c9_2 : decode cJ9_max_f86c9 2 = .ok (.lcmp, 1) := by decide +kernel
theorem dJ9_max_f86c9_3 : decode cJ9_max_f86c9 3 = .ok (.ifCond .lt 7, 3) := by decide +kernel
theorem dJ9_max_f86c9_6 : decode cJ9_max_f86c9 6 = .ok (.lload_n 0, 1) := by decide +kernel
theorem dJ9_max_f86c9_7 : decode cJ9_max_f86c9 7 = .ok (.goto 4, 3) := by decide +kernel
theorem dJ9_max_f86c9_10 : decode cJ9_max_f86c9 10 = .ok (.lload_n 2, 1) := by decide +kernel
theorem dJ9_max_f86c9_11 : decode cJ9_max_f86c9 11 = .ok (.lreturn, 1) := by decide +kernel
theorem dJ9_min_7cf53_0 : decode cJ9_min_7cf53 0 = .ok (.iload_n 0, 1) := by decide +kernel
theorem dJ9_min_7cf53_1 : decode cJ9_min_7cf53 1 = .ok (.iload_n 1, 1) := by decide +kernel
theorem dJ9_min_7cf53_2 : decode cJ9_min_7cf53 2 = .ok (.if_icmp .gt 7, 3) := by decide +kernel
theorem dJ9_min_7cf53_5 : decode cJ9_min_7cf53 5 = .ok (.iload_n 0, 1) := by decide +kernel
theorem dJ9_min_7cf53_6 : decode cJ9_min_7cf53 6 = .ok (.goto 4, 3) := by decide +kernel
theorem dJ9_min_7cf53_9 : decode cJ9_min_7cf53 9 = .ok (.iload_n 1, 1) := by decide +kernel
theorem dJ9_min_7cf53_10 : decode cJ9_min_7cf53 10 = .ok (.ireturn, 1) := by decide +kernel
theorem dJ0_length_8abf5_0 : decode cJ0_length_8abf5 0 = .ok (.aload_n 0, 1) := by decide +kernel
theorem dJ0_length_8abf5_1 : decode cJ0_length_8abf5 1 = .ok (.getfield 9, 3) := by decide +kernel
theorem dJ0_length_8abf5_4 : decode cJ0_length_8abf5 4 = .ok (.arraylength, 1) := by decide +kernel
theorem dJ0_length_8abf5_5 : decode cJ0_length_8abf5 5 = .ok (.aload_n 0, 1) := by decide +kernel
theorem dJ0_length_8abf5_6 : decode cJ0_length_8abf5 6 = .ok (.invokevirtual 335, 3) := by decide +kernel
theorem dJ0_length_8abf5_9 : decode cJ0_length_8abf5 9 = .ok (.ishr, 1) := by decide +kernel
theorem dJ0_length_8abf5_10 : decode cJ0_length_8abf5 10 = .ok (.ireturn, 1) := by decide +kernel
theorem dJ0_charAt_5068e_0 : decode cJ0_charAt_5068e 0 = .ok (.aload_n 0, 1) := by decide +kernel
theorem dJ0_charAt_5068e_1 : decode cJ0_charAt_5068e 1 = .ok (.invokevirtual 492, 3) := by decide +kernel
theorem dJ0_charAt_5068e_4 : decode cJ0_charAt_5068e 4 = .ok (.ifCond .eq 12, 3) := by decide +kernel
theorem dJ0_charAt_5068e_7 : decode cJ0_charAt_5068e 7 = .ok (.aload_n 0, 1) := by decide +kernel
theorem dJ0_charAt_5068e_8 : decode cJ0_charAt_5068e 8 = .ok (.getfield 9, 3) := by decide +kernel
theorem dJ0_charAt_5068e_11 : decode cJ0_charAt_5068e 11 = .ok (.iload_n 1, 1) := by decide +kernel
theorem dJ0_charAt_5068e_12 : decode cJ0_charAt_5068e 12 = .ok (.invokestatic 495, 3) := by decide +kernel
theorem dJ0_charAt_5068e_15 : decode cJ0_charAt_5068e 15 = .ok (.ireturn, 1) := by decide +kernel
theorem dJ0_charAt_5068e_16 : decode cJ0_charAt_5068e 16 = .ok (.aload_n 0, 1) := by decide +kernel
theorem dJ0_charAt_5068e_17 : decode cJ0_charAt_5068e 17 = .ok (.getfield 9, 3) := by decide +kernel
theorem dJ0_charAt_5068e_20 : decode cJ0_charAt_5068e 20 = .ok (.iload_n 1, 1) := by decide +kernel
theorem dJ0_charAt_5068e_21 : decode cJ0_charAt_5068e 21 = .ok (.invokestatic 498, 3) := by decide +kernel
theorem dJ0_charAt_5068e_24 : decode cJ0_charAt_5068e 24 = .ok (.ireturn, 1) := by decide +kernel
theorem dJ0_coder_7d493_0 : decode cJ0_coder_7d493 0 = .ok (.getstatic 38, 3) := by decide +kernel
theorem dJ0_coder_7d493_3 : decode cJ0_coder_7d493 3 = .ok (.ifCond .eq 10, 3) := by decide +kernel
theorem dJ0_coder_7d493_6 : decode cJ0_coder_7d493 6 = .ok (.aload_n 0, 1) := by decide +kernel
theorem dJ0_coder_7d493_7 : decode cJ0_coder_7d493 7 = .ok (.getfield 15, 3) := by decide +kernel
theorem dJ0_coder_7d493_10 : decode cJ0_coder_7d493 10 = .ok (.goto 4, 3) := by decide +kernel
theorem dJ0_coder_7d493_13 : decode cJ0_coder_7d493 13 = .ok (.iconst 1, 1) := by decide +kernel
theorem dJ0_coder_7d493_14 : decode cJ0_coder_7d493 14 = .ok (.ireturn, 1) := by decide +kernel
theorem dJ0_isLatin1_aae02_0 : decode cJ0_isLatin1_aae02 0 = .ok (.getstatic 38, 3) := by decide +kernel
theorem dJ0_isLatin1_aae02_3 : decode cJ0_isLatin1_aae02 3 = .ok (.ifCond .eq 14, 3) := by decide +kernel
theorem dJ0_isLatin1_aae02_6 : decode cJ0_isLatin1_aae02 6 = .ok (.aload_n 0, 1) := by decide +kernel
theorem dJ0_isLatin1_aae02_7 : decode cJ0_isLatin1_aae02 7 = .ok (.getfield 15, 3) := by decide +kernel
theorem dJ0_isLatin1_aae02_10 : decode cJ0_isLatin1_aae02 10 = .ok (.ifCond .ne 7, 3) := by decide +kernel
theorem dJ0_isLatin1_aae02_13 : decode cJ0_isLatin1_aae02 13 = .ok (.iconst 1, 1) := by decide +kernel
theorem dJ0_isLatin1_aae02_14 : decode cJ0_isLatin1_aae02 14 = .ok (.goto 4, 3) := by decide +kernel
theorem dJ0_isLatin1_aae02_17 : decode cJ0_isLatin1_aae02 17 = .ok (.iconst 0, 1) := by decide +kernel
theorem dJ0_isLatin1_aae02_18 : decode cJ0_isLatin1_aae02 18 = .ok (.ireturn, 1) := by decide +kernel
theorem dJ0_checkIndex_df160_0 : decode cJ0_checkIndex_df160 0 = .ok (.iload_n 0, 1) := by decide +kernel
theorem dJ0_checkIndex_df160_1 : decode cJ0_checkIndex_df160 1 = .ok (.iload_n 1, 1) := by decide +kernel
theorem dJ0_checkIndex_df160_2 : decode cJ0_checkIndex_df160 2 = .ok (.getstatic 1053, 3) := by decide +kernel
theorem dJ0_checkIndex_df160_5 : decode cJ0_checkIndex_df160 5 = .ok (.invokestatic 1059, 3) := by decide +kernel
theorem dJ0_checkIndex_df160_8 : decode cJ0_checkIndex_df160 8 = .ok (.pop, 1) := by decide +kernel
theorem dJ0_checkIndex_df160_9 : decode cJ0_checkIndex_df160 9 = .ok (.return_, 1) := by decide +kernel
theorem dJ1_charAt_3b067_0 : decode cJ1_charAt_3b067 0 = .ok (.iload_n 1, 1) := by decide +kernel
theorem dJ1_charAt_3b067_1 : decode cJ1_charAt_3b067 1 = .ok (.aload_n 0, 1) := by decide +kernel
theorem dJ1_charAt_3b067_2 : decode cJ1_charAt_3b067 2 = .ok (.arraylength, 1) := by decide +kernel
theorem dJ1_charAt_3b067_3 : decode cJ1_charAt_3b067 3 = .ok (.invokestatic 9, 3) := by decide +kernel
theorem dJ1_charAt_3b067_6 : decode cJ1_charAt_3b067 6 = .ok (.aload_n 0, 1) := by decide +kernel
theorem dJ1_charAt_3b067_7 : decode cJ1_charAt_3b067 7 = .ok (.iload_n 1, 1) := by decide +kernel
theorem dJ1_charAt_3b067_8 : decode cJ1_charAt_3b067 8 = .ok (.baload, 1) := by decide +kernel
theorem dJ1_charAt_3b067_9 : decode cJ1_charAt_3b067 9 = .ok (.sipush 255, 3) := by decide +kernel
theorem dJ1_charAt_3b067_12 : decode cJ1_charAt_3b067 12 = .ok (.iand, 1) := by decide +kernel
theorem dJ1_charAt_3b067_13 : decode cJ1_charAt_3b067 13 = .ok (.i2c, 1) := by decide +kernel
theorem dJ1_charAt_3b067_14 : decode cJ1_charAt_3b067 14 = .ok (.ireturn, 1) := by decide +kernel
theorem dJ2_getChar_3b067_0 : decode cJ2_getChar_3b067 0 = .ok (.getstatic 44, 3) := by decide +kernel
theorem dJ2_getChar_3b067_3 : decode cJ2_getChar_3b067 3 = .ok (.ifCond .ne 25, 3) := by decide +kernel
theorem dJ2_getChar_3b067_6 : decode cJ2_getChar_3b067 6 = .ok (.iload_n 1, 1) := by decide +kernel
theorem dJ2_getChar_3b067_7 : decode cJ2_getChar_3b067 7 = .ok (.ifCond .lt 11, 3) := by decide +kernel
theorem dJ2_getChar_3b067_10 : decode cJ2_getChar_3b067 10 = .ok (.iload_n 1, 1) := by decide +kernel
theorem dJ2_getChar_3b067_11 : decode cJ2_getChar_3b067 11 = .ok (.aload_n 0, 1) := by decide +kernel
theorem dJ2_getChar_3b067_12 : decode cJ2_getChar_3b067 12 = .ok (.invokestatic 48, 3) := by decide +kernel
theorem dJ2_getChar_3b067_15 : decode cJ2_getChar_3b067 15 = .ok (.if_icmp .lt 13, 3) := by decide +kernel
theorem dJ2_getChar_3b067_18 : decode cJ2_getChar_3b067 18 = .ok (.new 52, 3) := by decide +kernel
theorem dJ2_getChar_3b067_21 : decode cJ2_getChar_3b067 21 = .ok (.dup, 1) := by decide +kernel
theorem dJ2_getChar_3b067_22 : decode cJ2_getChar_3b067 22 = .ok (.ldc 54, 2) := by decide +kernel
theorem dJ2_getChar_3b067_24 : decode cJ2_getChar_3b067 24 = .ok (.invokespecial 56, 3) := by decide +kernel
theorem dJ2_getChar_3b067_27 : decode cJ2_getChar_3b067 27 = .ok (.athrow, 1) := by decide +kernel
theorem dJ2_getChar_3b067_28 : decode cJ2_getChar_3b067 28 = .ok (.iload_n 1, 1) := by decide +kernel
theorem dJ2_getChar_3b067_29 : decode cJ2_getChar_3b067 29 = .ok (.iconst 1, 1) := by decide +kernel
theorem dJ2_getChar_3b067_30 : decode cJ2_getChar_3b067 30 = .ok (.ishl, 1) := by decide +kernel
theorem dJ2_getChar_3b067_31 : decode cJ2_getChar_3b067 31 = .ok (.istore_n 1, 1) := by decide +kernel
theorem dJ2_getChar_3b067_32 : decode cJ2_getChar_3b067 32 = .ok (.aload_n 0, 1) := by decide +kernel
theorem dJ2_getChar_3b067_33 : decode cJ2_getChar_3b067 33 = .ok (.iload_n 1, 1) := by decide +kernel
theorem dJ2_getChar_3b067_34 : decode cJ2_getChar_3b067 34 = .ok (.iinc 1 1, 3) := by decide +kernel
theorem dJ2_getChar_3b067_37 : decode cJ2_getChar_3b067 37 = .ok (.baload, 1) := by decide +kernel
theorem dJ2_getChar_3b067_38 : decode cJ2_getChar_3b067 38 = .ok (.sipush 255, 3) := by decide +kernel
theorem dJ2_getChar_3b067_41 : decode cJ2_getChar_3b067 41 = .ok (.iand, 1) := by decide +kernel
theorem dJ2_getChar_3b067_42 : decode cJ2_getChar_3b067 42 = .ok (.getstatic 59, 3) := by decide +kernel
theorem dJ2_getChar_3b067_45 : decode cJ2_getChar_3b067 45 = .ok (.ishl, 1) := by decide +kernel
theorem dJ2_getChar_3b067_46 : decode cJ2_getChar_3b067 46 = .ok (.aload_n 0, 1) := by decide +kernel
theorem dJ2_getChar_3b067_47 : decode cJ2_getChar_3b067 47 = .ok (.iload_n 1, 1) := by decide +kernel
theorem dJ2_getChar_3b067_48 : decode cJ2_getChar_3b067 48 = .ok (.baload, 1) := by decide +kernel
theorem dJ2_getChar_3b067_49 : decode cJ2_getChar_3b067 49 = .ok (.sipush 255, 3) := by decide +kernel
theorem dJ2_getChar_3b067_52 : decode cJ2_getChar_3b067 52 = .ok (.iand, 1) := by decide +kernel
theorem dJ2_getChar_3b067_53 : decode cJ2_getChar_3b067 53 = .ok (.getstatic 63, 3) := by decide +kernel
theorem dJ2_getChar_3b067_56 : decode cJ2_getChar_3b067 56 = .ok (.ishl, 1) := by decide +kernel
theorem dJ2_getChar_3b067_57 : decode cJ2_getChar_3b067 57 = .ok (.ior, 1) := by decide +kernel
theorem dJ2_getChar_3b067_58 : decode cJ2_getChar_3b067 58 = .ok (.i2c, 1) := by decide +kernel
theorem dJ2_getChar_3b067_59 : decode cJ2_getChar_3b067 59 = .ok (.ireturn, 1) := by decide +kernel
theorem dJ2_length_9d52b_0 : decode cJ2_length_9d52b 0 = .ok (.aload_n 0, 1) := by decide +kernel
theorem dJ2_length_9d52b_1 : decode cJ2_length_9d52b 1 = .ok (.arraylength, 1) := by decide +kernel
theorem dJ2_length_9d52b_2 : decode cJ2_length_9d52b 2 = .ok (.iconst 1, 1) := by decide +kernel
theorem dJ2_length_9d52b_3 : decode cJ2_length_9d52b 3 = .ok (.ishr, 1) := by decide +kernel
theorem dJ2_length_9d52b_4 : decode cJ2_length_9d52b 4 = .ok (.ireturn, 1) := by decide +kernel
theorem dJ2_charAt_3b067_0 : decode cJ2_charAt_3b067 0 = .ok (.iload_n 1, 1) := by decide +kernel
theorem dJ2_charAt_3b067_1 : decode cJ2_charAt_3b067 1 = .ok (.aload_n 0, 1) := by decide +kernel
theorem dJ2_charAt_3b067_2 : decode cJ2_charAt_3b067 2 = .ok (.invokestatic 67, 3) := by decide +kernel
theorem dJ2_charAt_3b067_5 : decode cJ2_charAt_3b067 5 = .ok (.aload_n 0, 1) := by decide +kernel
theorem dJ2_charAt_3b067_6 : decode cJ2_charAt_3b067 6 = .ok (.iload_n 1, 1) := by decide +kernel
theorem dJ2_charAt_3b067_7 : decode cJ2_charAt_3b067 7 = .ok (.invokestatic 71, 3) := by decide +kernel
theorem dJ2_charAt_3b067_10 : decode cJ2_charAt_3b067 10 = .ok (.ireturn, 1) := by decide +kernel
theorem dJ2_checkIndex_2214a_0 : decode cJ2_checkIndex_2214a 0 = .ok (.iload_n 0, 1) := by decide +kernel
theorem dJ2_checkIndex_2214a_1 : decode cJ2_checkIndex_2214a 1 = .ok (.aload_n 1, 1) := by decide +kernel
theorem dJ2_checkIndex_2214a_2 : decode cJ2_checkIndex_2214a 2 = .ok (.invokestatic 48, 3) := by decide +kernel
theorem dJ2_checkIndex_2214a_5 : decode cJ2_checkIndex_2214a 5 = .ok (.invokestatic 414, 3) := by decide +kernel
theorem dJ2_checkIndex_2214a_8 : decode cJ2_checkIndex_2214a 8 = .ok (.return_, 1) := by decide +kernel
theorem dJ3_checkIndex_8e157_0 : decode cJ3_checkIndex_8e157 0 = .ok (.iload_n 0, 1) := by decide +kernel
theorem dJ3_checkIndex_8e157_1 : decode cJ3_checkIndex_8e157 1 = .ok (.ifCond .lt 8, 3) := by decide +kernel
theorem dJ3_checkIndex_8e157_4 : decode cJ3_checkIndex_8e157 4 = .ok (.iload_n 0, 1) := by decide +kernel
theorem dJ3_checkIndex_8e157_5 : decode cJ3_checkIndex_8e157 5 = .ok (.iload_n 1, 1) := by decide +kernel
theorem dJ3_checkIndex_8e157_6 : decode cJ3_checkIndex_8e157 6 = .ok (.if_icmp .lt 10, 3) := by decide +kernel
theorem dJ3_checkIndex_8e157_9 : decode cJ3_checkIndex_8e157 9 = .ok (.aload_n 2, 1) := by decide +kernel
theorem dJ3_checkIndex_8e157_10 : decode cJ3_checkIndex_8e157 10 = .ok (.iload_n 0, 1) := by decide +kernel
theorem dJ3_checkIndex_8e157_11 : decode cJ3_checkIndex_8e157 11 = .ok (.iload_n 1, 1) := by decide +kernel
theorem dJ3_checkIndex_8e157_12 : decode cJ3_checkIndex_8e157 12 = .ok (.invokestatic 95, 3) := by decide +kernel
theorem dJ3_checkIndex_8e157_15 : decode cJ3_checkIndex_8e157 15 = .ok (.athrow, 1) := by decide +kernel
theorem dJ3_checkIndex_8e157_16 : decode cJ3_checkIndex_8e157 16 = .ok (.iload_n 0, 1) := by decide +kernel
theorem dJ3_checkIndex_8e157_17 : decode cJ3_checkIndex_8e157 17 = .ok (.ireturn, 1) := by decide +kernel
theorem dL_law_0 : decode cL_law 0 = .ok (.new 7, 3) := by decide +kernel
theorem dL_law_3 : decode cL_law 3 = .ok (.dup, 1) := by decide +kernel
theorem dL_law_4 : decode cL_law 4 = .ok (.invokespecial 9, 3) := by decide +kernel
theorem dL_law_7 : decode cL_law 7 = .ok (.astore_n 1, 1) := by decide +kernel
theorem dL_law_8 : decode cL_law 8 = .ok (.new 10, 3) := by decide +kernel
theorem dL_law_11 : decode cL_law 11 = .ok (.dup, 1) := by decide +kernel
theorem dL_law_12 : decode cL_law 12 = .ok (.invokespecial 12, 3) := by decide +kernel
theorem dL_law_15 : decode cL_law 15 = .ok (.astore_n 2, 1) := by decide +kernel
theorem dL_law_16 : decode cL_law 16 = .ok (.iconst 0, 1) := by decide +kernel
theorem dL_law_17 : decode cL_law 17 = .ok (.istore_n 3, 1) := by decide +kernel
theorem dL_law_18 : decode cL_law 18 = .ok (.iload_n 3, 1) := by decide +kernel
theorem dL_law_19 : decode cL_law 19 = .ok (.aload_n 0, 1) := by decide +kernel
theorem dL_law_20 : decode cL_law 20 = .ok (.arraylength, 1) := by decide +kernel
theorem dL_law_21 : decode cL_law 21 = .ok (.iconst 5, 1) := by decide +kernel
theorem dL_law_22 : decode cL_law 22 = .ok (.isub, 1) := by decide +kernel
theorem dL_law_23 : decode cL_law 23 = .ok (.if_icmp .gt 908, 3) := by decide +kernel
theorem dL_law_26 : decode cL_law 26 = .ok (.aload_n 0, 1) := by decide +kernel
theorem dL_law_27 : decode cL_law 27 = .ok (.iload_n 3, 1) := by decide +kernel
theorem dL_law_28 : decode cL_law 28 = .ok (.iaload, 1) := by decide +kernel
theorem dL_law_29 : decode cL_law 29 = .ok (.bipush 31, 2) := by decide +kernel
theorem dL_law_31 : decode cL_law 31 = .ok (.iand, 1) := by decide +kernel
theorem dL_law_32 : decode cL_law 32 = .ok (.tableswitch 893 0 27 #[128, 151, 164, 177, 190, 203, 236, 269, 303, 326, 359, 392, 415, 428, 451, 474, 497, 530, 553, 596, 619, 642, 695, 738, 781, 814, 847, 870], 128) := by decide +kernel
theorem dL_law_160 : decode cL_law 160 = .ok (.aload_n 1, 1) := by decide +kernel
theorem dL_law_161 : decode cL_law 161 = .ok (.aload_n 0, 1) := by decide +kernel
theorem dL_law_162 : decode cL_law 162 = .ok (.iload_n 3, 1) := by decide +kernel
theorem dL_law_163 : decode cL_law 163 = .ok (.iconst 1, 1) := by decide +kernel
theorem dL_law_164 : decode cL_law 164 = .ok (.iadd, 1) := by decide +kernel
theorem dL_law_165 : decode cL_law 165 = .ok (.iaload, 1) := by decide +kernel
theorem dL_law_166 : decode cL_law 166 = .ok (.invokevirtual 13, 3) := by decide +kernel
theorem dL_law_169 : decode cL_law 169 = .ok (.aload_n 2, 1) := by decide +kernel
theorem dL_law_170 : decode cL_law 170 = .ok (.aload_n 0, 1) := by decide +kernel
theorem dL_law_171 : decode cL_law 171 = .ok (.iload_n 3, 1) := by decide +kernel
theorem dL_law_172 : decode cL_law 172 = .ok (.iconst 1, 1) := by decide +kernel
theorem dL_law_173 : decode cL_law 173 = .ok (.iadd, 1) := by decide +kernel
theorem dL_law_174 : decode cL_law 174 = .ok (.iaload, 1) := by decide +kernel
theorem dL_law_175 : decode cL_law 175 = .ok (.invokevirtual 17, 3) := by decide +kernel
theorem dL_law_178 : decode cL_law 178 = .ok (.if_icmp .eq 747, 3) := by decide +kernel
theorem dL_law_181 : decode cL_law 181 = .ok (.iconst 0, 1) := by decide +kernel
theorem dL_law_182 : decode cL_law 182 = .ok (.ireturn, 1) := by decide +kernel
theorem dL_law_183 : decode cL_law 183 = .ok (.aload_n 1, 1) := by decide +kernel
theorem dL_law_184 : decode cL_law 184 = .ok (.invokevirtual 18, 3) := by decide +kernel
theorem dL_law_187 : decode cL_law 187 = .ok (.aload_n 2, 1) := by decide +kernel
theorem dL_law_188 : decode cL_law 188 = .ok (.invokevirtual 22, 3) := by decide +kernel
theorem dL_law_191 : decode cL_law 191 = .ok (.if_icmp .eq 734, 3) := by decide +kernel
theorem dL_law_194 : decode cL_law 194 = .ok (.iconst 0, 1) := by decide +kernel
theorem dL_law_195 : decode cL_law 195 = .ok (.ireturn, 1) := by decide +kernel
theorem dL_law_196 : decode cL_law 196 = .ok (.aload_n 1, 1) := by decide +kernel
theorem dL_law_197 : decode cL_law 197 = .ok (.invokevirtual 23, 3) := by decide +kernel
theorem dL_law_200 : decode cL_law 200 = .ok (.aload_n 2, 1) := by decide +kernel
theorem dL_law_201 : decode cL_law 201 = .ok (.invokevirtual 26, 3) := by decide +kernel
theorem dL_law_204 : decode cL_law 204 = .ok (.if_icmp .eq 721, 3) := by decide +kernel
theorem dL_law_207 : decode cL_law 207 = .ok (.iconst 0, 1) := by decide +kernel
theorem dL_law_208 : decode cL_law 208 = .ok (.ireturn, 1) := by decide +kernel
theorem dL_law_209 : decode cL_law 209 = .ok (.aload_n 1, 1) := by decide +kernel
theorem dL_law_210 : decode cL_law 210 = .ok (.invokevirtual 27, 3) := by decide +kernel
theorem dL_law_213 : decode cL_law 213 = .ok (.aload_n 2, 1) := by decide +kernel
theorem dL_law_214 : decode cL_law 214 = .ok (.invokevirtual 30, 3) := by decide +kernel
theorem dL_law_217 : decode cL_law 217 = .ok (.if_icmp .eq 708, 3) := by decide +kernel
theorem dL_law_220 : decode cL_law 220 = .ok (.iconst 0, 1) := by decide +kernel
theorem dL_law_221 : decode cL_law 221 = .ok (.ireturn, 1) := by decide +kernel
theorem dL_law_222 : decode cL_law 222 = .ok (.aload_n 1, 1) := by decide +kernel
theorem dL_law_223 : decode cL_law 223 = .ok (.invokevirtual 31, 3) := by decide +kernel
theorem dL_law_226 : decode cL_law 226 = .ok (.aload_n 2, 1) := by decide +kernel
theorem dL_law_227 : decode cL_law 227 = .ok (.invokevirtual 34, 3) := by decide +kernel
theorem dL_law_230 : decode cL_law 230 = .ok (.if_icmp .eq 695, 3) := by decide +kernel
theorem dL_law_233 : decode cL_law 233 = .ok (.iconst 0, 1) := by decide +kernel
theorem dL_law_234 : decode cL_law 234 = .ok (.ireturn, 1) := by decide +kernel
theorem dL_law_235 : decode cL_law 235 = .ok (.aload_n 1, 1) := by decide +kernel
theorem dL_law_236 : decode cL_law 236 = .ok (.aload_n 0, 1) := by decide +kernel
theorem dL_law_237 : decode cL_law 237 = .ok (.iload_n 3, 1) := by decide +kernel
theorem dL_law_238 : decode cL_law 238 = .ok (.iconst 1, 1) := by decide +kernel
theorem dL_law_239 : decode cL_law 239 = .ok (.iadd, 1) := by decide +kernel
theorem dL_law_240 : decode cL_law 240 = .ok (.iaload, 1) := by decide +kernel
theorem dL_law_241 : decode cL_law 241 = .ok (.aload_n 0, 1) := by decide +kernel
theorem dL_law_242 : decode cL_law 242 = .ok (.iload_n 3, 1) := by decide +kernel
theorem dL_law_243 : decode cL_law 243 = .ok (.iconst 2, 1) := by decide +kernel
theorem dL_law_244 : decode cL_law 244 = .ok (.iadd, 1) := by decide +kernel
theorem dL_law_245 : decode cL_law 245 = .ok (.iaload, 1) := by decide +kernel
theorem dL_law_246 : decode cL_law 246 = .ok (.invokevirtual 35, 3) := by decide +kernel
theorem dL_law_249 : decode cL_law 249 = .ok (.aload_n 2, 1) := by decide +kernel
theorem dL_law_250 : decode cL_law 250 = .ok (.aload_n 0, 1) := by decide +kernel
theorem dL_law_251 : decode cL_law 251 = .ok (.iload_n 3, 1) := by decide +kernel
theorem dL_law_252 : decode cL_law 252 = .ok (.iconst 1, 1) := by decide +kernel
theorem dL_law_253 : decode cL_law 253 = .ok (.iadd, 1) := by decide +kernel
theorem dL_law_254 : decode cL_law 254 = .ok (.iaload, 1) := by decide +kernel
theorem dL_law_255 : decode cL_law 255 = .ok (.aload_n 0, 1) := by decide +kernel
theorem dL_law_256 : decode cL_law 256 = .ok (.iload_n 3, 1) := by decide +kernel
theorem dL_law_257 : decode cL_law 257 = .ok (.iconst 2, 1) := by decide +kernel
theorem dL_law_258 : decode cL_law 258 = .ok (.iadd, 1) := by decide +kernel
theorem dL_law_259 : decode cL_law 259 = .ok (.iaload, 1) := by decide +kernel
theorem dL_law_260 : decode cL_law 260 = .ok (.invokevirtual 39, 3) := by decide +kernel
theorem dL_law_263 : decode cL_law 263 = .ok (.if_icmp .eq 662, 3) := by decide +kernel
theorem dL_law_266 : decode cL_law 266 = .ok (.iconst 0, 1) := by decide +kernel
theorem dL_law_267 : decode cL_law 267 = .ok (.ireturn, 1) := by decide +kernel
theorem dL_law_268 : decode cL_law 268 = .ok (.aload_n 1, 1) := by decide +kernel
theorem dL_law_269 : decode cL_law 269 = .ok (.aload_n 0, 1) := by decide +kernel
theorem dL_law_270 : decode cL_law 270 = .ok (.iload_n 3, 1) := by decide +kernel
theorem dL_law_271 : decode cL_law 271 = .ok (.iconst 1, 1) := by decide +kernel
theorem dL_law_272 : decode cL_law 272 = .ok (.iadd, 1) := by decide +kernel
theorem dL_law_273 : decode cL_law 273 = .ok (.iaload, 1) := by decide +kernel
theorem dL_law_274 : decode cL_law 274 = .ok (.aload_n 0, 1) := by decide +kernel
theorem dL_law_275 : decode cL_law 275 = .ok (.iload_n 3, 1) := by decide +kernel
theorem dL_law_276 : decode cL_law 276 = .ok (.iconst 2, 1) := by decide +kernel
theorem dL_law_277 : decode cL_law 277 = .ok (.iadd, 1) := by decide +kernel
theorem dL_law_278 : decode cL_law 278 = .ok (.iaload, 1) := by decide +kernel
theorem dL_law_279 : decode cL_law 279 = .ok (.invokevirtual 40, 3) := by decide +kernel
theorem dL_law_282 : decode cL_law 282 = .ok (.aload_n 2, 1) := by decide +kernel
theorem dL_law_283 : decode cL_law 283 = .ok (.aload_n 0, 1) := by decide +kernel
theorem dL_law_284 : decode cL_law 284 = .ok (.iload_n 3, 1) := by decide +kernel
theorem dL_law_285 : decode cL_law 285 = .ok (.iconst 1, 1) := by decide +kernel
theorem dL_law_286 : decode cL_law 286 = .ok (.iadd, 1) := by decide +kernel
theorem dL_law_287 : decode cL_law 287 = .ok (.iaload, 1) := by decide +kernel
theorem dL_law_288 : decode cL_law 288 = .ok (.aload_n 0, 1) := by decide +kernel
theorem dL_law_289 : decode cL_law 289 = .ok (.iload_n 3, 1) := by decide +kernel
theorem dL_law_290 : decode cL_law 290 = .ok (.iconst 2, 1) := by decide +kernel
theorem dL_law_291 : decode cL_law 291 = .ok (.iadd, 1) := by decide +kernel
theorem dL_law_292 : decode cL_law 292 = .ok (.iaload, 1) := by decide +kernel
theorem dL_law_293 : decode cL_law 293 = .ok (.invokevirtual 43, 3) := by decide +kernel
theorem dL_law_296 : decode cL_law 296 = .ok (.if_icmp .eq 629, 3) := by decide +kernel
theorem dL_law_299 : decode cL_law 299 = .ok (.iconst 0, 1) := by decide +kernel
theorem dL_law_300 : decode cL_law 300 = .ok (.ireturn, 1) := by decide +kernel
theorem dL_law_301 : decode cL_law 301 = .ok (.aload_n 1, 1) := by decide +kernel
theorem dL_law_302 : decode cL_law 302 = .ok (.aload_n 0, 1) := by decide +kernel
theorem dL_law_303 : decode cL_law 303 = .ok (.iload_n 3, 1) := by decide +kernel
theorem dL_law_304 : decode cL_law 304 = .ok (.iconst 1, 1) := by decide +kernel
theorem dL_law_305 : decode cL_law 305 = .ok (.iadd, 1) := by decide +kernel
theorem dL_law_306 : decode cL_law 306 = .ok (.iaload, 1) := by decide +kernel
theorem dL_law_307 : decode cL_law 307 = .ok (.aload_n 0, 1) := by decide +kernel
theorem dL_law_308 : decode cL_law 308 = .ok (.iload_n 3, 1) := by decide +kernel
theorem dL_law_309 : decode cL_law 309 = .ok (.iconst 2, 1) := by decide +kernel
theorem dL_law_310 : decode cL_law 310 = .ok (.iadd, 1) := by decide +kernel
theorem dL_law_311 : decode cL_law 311 = .ok (.iaload, 1) := by decide +kernel
theorem dL_law_312 : decode cL_law 312 = .ok (.invokevirtual 44, 3) := by decide +kernel
theorem dL_law_315 : decode cL_law 315 = .ok (.aload_n 2, 1) := by decide +kernel
theorem dL_law_316 : decode cL_law 316 = .ok (.aload_n 0, 1) := by decide +kernel
theorem dL_law_317 : decode cL_law 317 = .ok (.iload_n 3, 1) := by decide +kernel
theorem dL_law_318 : decode cL_law 318 = .ok (.iconst 1, 1) := by decide +kernel
theorem dL_law_319 : decode cL_law 319 = .ok (.iadd, 1) := by decide +kernel
theorem dL_law_320 : decode cL_law 320 = .ok (.iaload, 1) := by decide +kernel
theorem dL_law_321 : decode cL_law 321 = .ok (.aload_n 0, 1) := by decide +kernel
theorem dL_law_322 : decode cL_law 322 = .ok (.iload_n 3, 1) := by decide +kernel
theorem dL_law_323 : decode cL_law 323 = .ok (.iconst 2, 1) := by decide +kernel
theorem dL_law_324 : decode cL_law 324 = .ok (.iadd, 1) := by decide +kernel
theorem dL_law_325 : decode cL_law 325 = .ok (.iaload, 1) := by decide +kernel
theorem dL_law_326 : decode cL_law 326 = .ok (.invokevirtual 48, 3) := by decide +kernel
theorem dL_law_329 : decode cL_law 329 = .ok (.lcmp, 1) := by decide +kernel
theorem dL_law_330 : decode cL_law 330 = .ok (.ifCond .eq 595, 3) := by decide +kernel
theorem dL_law_333 : decode cL_law 333 = .ok (.iconst 0, 1) := by decide +kernel
theorem dL_law_334 : decode cL_law 334 = .ok (.ireturn, 1) := by decide +kernel
theorem dL_law_335 : decode cL_law 335 = .ok (.aload_n 1, 1) := by decide +kernel
theorem dL_law_336 : decode cL_law 336 = .ok (.aload_n 0, 1) := by decide +kernel
theorem dL_law_337 : decode cL_law 337 = .ok (.iload_n 3, 1) := by decide +kernel
theorem dL_law_338 : decode cL_law 338 = .ok (.iconst 1, 1) := by decide +kernel
theorem dL_law_339 : decode cL_law 339 = .ok (.iadd, 1) := by decide +kernel
theorem dL_law_340 : decode cL_law 340 = .ok (.iaload, 1) := by decide +kernel
theorem dL_law_341 : decode cL_law 341 = .ok (.invokevirtual 49, 3) := by decide +kernel
theorem dL_law_344 : decode cL_law 344 = .ok (.aload_n 2, 1) := by decide +kernel
theorem dL_law_345 : decode cL_law 345 = .ok (.aload_n 0, 1) := by decide +kernel
theorem dL_law_346 : decode cL_law 346 = .ok (.iload_n 3, 1) := by decide +kernel
theorem dL_law_347 : decode cL_law 347 = .ok (.iconst 1, 1) := by decide +kernel
theorem dL_law_348 : decode cL_law 348 = .ok (.iadd, 1) := by decide +kernel
theorem dL_law_349 : decode cL_law 349 = .ok (.iaload, 1) := by decide +kernel
theorem dL_law_350 : decode cL_law 350 = .ok (.invokevirtual 52, 3) := by decide +kernel
theorem dL_law_353 : decode cL_law 353 = .ok (.if_icmp .eq 572, 3) := by decide +kernel
theorem dL_law_356 : decode cL_law 356 = .ok (.iconst 0, 1) := by decide +kernel
theorem dL_law_357 : decode cL_law 357 = .ok (.ireturn, 1) := by decide +kernel
theorem dL_law_358 : decode cL_law 358 = .ok (.aload_n 1, 1) := by decide +kernel
theorem dL_law_359 : decode cL_law 359 = .ok (.aload_n 0, 1) := by decide +kernel
theorem dL_law_360 : decode cL_law 360 = .ok (.iload_n 3, 1) := by decide +kernel
theorem dL_law_361 : decode cL_law 361 = .ok (.iconst 1, 1) := by decide +kernel
theorem dL_law_362 : decode cL_law 362 = .ok (.iadd, 1) := by decide +kernel
theorem dL_law_363 : decode cL_law 363 = .ok (.iaload, 1) := by decide +kernel
theorem dL_law_364 : decode cL_law 364 = .ok (.aload_n 0, 1) := by decide +kernel
theorem dL_law_365 : decode cL_law 365 = .ok (.iload_n 3, 1) := by decide +kernel
theorem dL_law_366 : decode cL_law 366 = .ok (.iconst 2, 1) := by decide +kernel
theorem dL_law_367 : decode cL_law 367 = .ok (.iadd, 1) := by decide +kernel
theorem dL_law_368 : decode cL_law 368 = .ok (.iaload, 1) := by decide +kernel
theorem dL_law_369 : decode cL_law 369 = .ok (.invokevirtual 53, 3) := by decide +kernel
theorem dL_law_372 : decode cL_law 372 = .ok (.aload_n 2, 1) := by decide +kernel
theorem dL_law_373 : decode cL_law 373 = .ok (.aload_n 0, 1) := by decide +kernel
theorem dL_law_374 : decode cL_law 374 = .ok (.iload_n 3, 1) := by decide +kernel
theorem dL_law_375 : decode cL_law 375 = .ok (.iconst 1, 1) := by decide +kernel
theorem dL_law_376 : decode cL_law 376 = .ok (.iadd, 1) := by decide +kernel
theorem dL_law_377 : decode cL_law 377 = .ok (.iaload, 1) := by decide +kernel
theorem dL_law_378 : decode cL_law 378 = .ok (.aload_n 0, 1) := by decide +kernel
theorem dL_law_379 : decode cL_law 379 = .ok (.iload_n 3, 1) := by decide +kernel
theorem dL_law_380 : decode cL_law 380 = .ok (.iconst 2, 1) := by decide +kernel
theorem dL_law_381 : decode cL_law 381 = .ok (.iadd, 1) := by decide +kernel
theorem dL_law_382 : decode cL_law 382 = .ok (.iaload, 1) := by decide +kernel
theorem dL_law_383 : decode cL_law 383 = .ok (.invokevirtual 56, 3) := by decide +kernel
theorem dL_law_386 : decode cL_law 386 = .ok (.if_icmp .eq 539, 3) := by decide +kernel
theorem dL_law_389 : decode cL_law 389 = .ok (.iconst 0, 1) := by decide +kernel
theorem dL_law_390 : decode cL_law 390 = .ok (.ireturn, 1) := by decide +kernel
theorem dL_law_391 : decode cL_law 391 = .ok (.aload_n 1, 1) := by decide +kernel
theorem dL_law_392 : decode cL_law 392 = .ok (.aload_n 0, 1) := by decide +kernel
theorem dL_law_393 : decode cL_law 393 = .ok (.iload_n 3, 1) := by decide +kernel
theorem dL_law_394 : decode cL_law 394 = .ok (.iconst 1, 1) := by decide +kernel
theorem dL_law_395 : decode cL_law 395 = .ok (.iadd, 1) := by decide +kernel
theorem dL_law_396 : decode cL_law 396 = .ok (.iaload, 1) := by decide +kernel
theorem dL_law_397 : decode cL_law 397 = .ok (.aload_n 0, 1) := by decide +kernel
theorem dL_law_398 : decode cL_law 398 = .ok (.iload_n 3, 1) := by decide +kernel
theorem dL_law_399 : decode cL_law 399 = .ok (.iconst 2, 1) := by decide +kernel
theorem dL_law_400 : decode cL_law 400 = .ok (.iadd, 1) := by decide +kernel
theorem dL_law_401 : decode cL_law 401 = .ok (.iaload, 1) := by decide +kernel
theorem dL_law_402 : decode cL_law 402 = .ok (.invokevirtual 57, 3) := by decide +kernel
theorem dL_law_405 : decode cL_law 405 = .ok (.aload_n 2, 1) := by decide +kernel
theorem dL_law_406 : decode cL_law 406 = .ok (.aload_n 0, 1) := by decide +kernel
theorem dL_law_407 : decode cL_law 407 = .ok (.iload_n 3, 1) := by decide +kernel
theorem dL_law_408 : decode cL_law 408 = .ok (.iconst 1, 1) := by decide +kernel
theorem dL_law_409 : decode cL_law 409 = .ok (.iadd, 1) := by decide +kernel
theorem dL_law_410 : decode cL_law 410 = .ok (.iaload, 1) := by decide +kernel
theorem dL_law_411 : decode cL_law 411 = .ok (.aload_n 0, 1) := by decide +kernel
theorem dL_law_412 : decode cL_law 412 = .ok (.iload_n 3, 1) := by decide +kernel
theorem dL_law_413 : decode cL_law 413 = .ok (.iconst 2, 1) := by decide +kernel
theorem dL_law_414 : decode cL_law 414 = .ok (.iadd, 1) := by decide +kernel
theorem dL_law_415 : decode cL_law 415 = .ok (.iaload, 1) := by decide +kernel
theorem dL_law_416 : decode cL_law 416 = .ok (.invokevirtual 60, 3) := by decide +kernel
theorem dL_law_419 : decode cL_law 419 = .ok (.if_icmp .eq 506, 3) := by decide +kernel
theorem dL_law_422 : decode cL_law 422 = .ok (.iconst 0, 1) := by decide +kernel
theorem dL_law_423 : decode cL_law 423 = .ok (.ireturn, 1) := by decide +kernel
theorem dL_law_424 : decode cL_law 424 = .ok (.aload_n 1, 1) := by decide +kernel
theorem dL_law_425 : decode cL_law 425 = .ok (.aload_n 0, 1) := by decide +kernel
theorem dL_law_426 : decode cL_law 426 = .ok (.iload_n 3, 1) := by decide +kernel
theorem dL_law_427 : decode cL_law 427 = .ok (.iconst 1, 1) := by decide +kernel
theorem dL_law_428 : decode cL_law 428 = .ok (.iadd, 1) := by decide +kernel
theorem dL_law_429 : decode cL_law 429 = .ok (.iaload, 1) := by decide +kernel
theorem dL_law_430 : decode cL_law 430 = .ok (.invokevirtual 61, 3) := by decide +kernel
theorem dL_law_433 : decode cL_law 433 = .ok (.aload_n 2, 1) := by decide +kernel
theorem dL_law_434 : decode cL_law 434 = .ok (.aload_n 0, 1) := by decide +kernel
theorem dL_law_435 : decode cL_law 435 = .ok (.iload_n 3, 1) := by decide +kernel
theorem dL_law_436 : decode cL_law 436 = .ok (.iconst 1, 1) := by decide +kernel
theorem dL_law_437 : decode cL_law 437 = .ok (.iadd, 1) := by decide +kernel
theorem dL_law_438 : decode cL_law 438 = .ok (.iaload, 1) := by decide +kernel
theorem dL_law_439 : decode cL_law 439 = .ok (.invokevirtual 64, 3) := by decide +kernel
theorem dL_law_442 : decode cL_law 442 = .ok (.if_icmp .eq 483, 3) := by decide +kernel
theorem dL_law_445 : decode cL_law 445 = .ok (.iconst 0, 1) := by decide +kernel
theorem dL_law_446 : decode cL_law 446 = .ok (.ireturn, 1) := by decide +kernel
theorem dL_law_447 : decode cL_law 447 = .ok (.aload_n 1, 1) := by decide +kernel
theorem dL_law_448 : decode cL_law 448 = .ok (.invokevirtual 65, 3) := by decide +kernel
theorem dL_law_451 : decode cL_law 451 = .ok (.aload_n 2, 1) := by decide +kernel
theorem dL_law_452 : decode cL_law 452 = .ok (.invokevirtual 68, 3) := by decide +kernel
theorem dL_law_455 : decode cL_law 455 = .ok (.if_icmp .eq 470, 3) := by decide +kernel
theorem dL_law_458 : decode cL_law 458 = .ok (.iconst 0, 1) := by decide +kernel
theorem dL_law_459 : decode cL_law 459 = .ok (.ireturn, 1) := by decide +kernel
theorem dL_law_460 : decode cL_law 460 = .ok (.aload_n 1, 1) := by decide +kernel
theorem dL_law_461 : decode cL_law 461 = .ok (.aload_n 0, 1) := by decide +kernel
theorem dL_law_462 : decode cL_law 462 = .ok (.iload_n 3, 1) := by decide +kernel
theorem dL_law_463 : decode cL_law 463 = .ok (.iconst 1, 1) := by decide +kernel
theorem dL_law_464 : decode cL_law 464 = .ok (.iadd, 1) := by decide +kernel
theorem dL_law_465 : decode cL_law 465 = .ok (.iaload, 1) := by decide +kernel
theorem dL_law_466 : decode cL_law 466 = .ok (.invokevirtual 69, 3) := by decide +kernel
theorem dL_law_469 : decode cL_law 469 = .ok (.aload_n 2, 1) := by decide +kernel
theorem dL_law_470 : decode cL_law 470 = .ok (.aload_n 0, 1) := by decide +kernel
theorem dL_law_471 : decode cL_law 471 = .ok (.iload_n 3, 1) := by decide +kernel
theorem dL_law_472 : decode cL_law 472 = .ok (.iconst 1, 1) := by decide +kernel
theorem dL_law_473 : decode cL_law 473 = .ok (.iadd, 1) := by decide +kernel
theorem dL_law_474 : decode cL_law 474 = .ok (.iaload, 1) := by decide +kernel
theorem dL_law_475 : decode cL_law 475 = .ok (.invokevirtual 72, 3) := by decide +kernel
theorem dL_law_478 : decode cL_law 478 = .ok (.if_icmp .eq 447, 3) := by decide +kernel
theorem dL_law_481 : decode cL_law 481 = .ok (.iconst 0, 1) := by decide +kernel
theorem dL_law_482 : decode cL_law 482 = .ok (.ireturn, 1) := by decide +kernel
theorem dL_law_483 : decode cL_law 483 = .ok (.aload_n 1, 1) := by decide +kernel
theorem dL_law_484 : decode cL_law 484 = .ok (.aload_n 0, 1) := by decide +kernel
theorem dL_law_485 : decode cL_law 485 = .ok (.iload_n 3, 1) := by decide +kernel
theorem dL_law_486 : decode cL_law 486 = .ok (.iconst 1, 1) := by decide +kernel
theorem dL_law_487 : decode cL_law 487 = .ok (.iadd, 1) := by decide +kernel
theorem dL_law_488 : decode cL_law 488 = .ok (.iaload, 1) := by decide +kernel
theorem dL_law_489 : decode cL_law 489 = .ok (.invokevirtual 73, 3) := by decide +kernel
theorem dL_law_492 : decode cL_law 492 = .ok (.aload_n 2, 1) := by decide +kernel
theorem dL_law_493 : decode cL_law 493 = .ok (.aload_n 0, 1) := by decide +kernel
theorem dL_law_494 : decode cL_law 494 = .ok (.iload_n 3, 1) := by decide +kernel
theorem dL_law_495 : decode cL_law 495 = .ok (.iconst 1, 1) := by decide +kernel
theorem dL_law_496 : decode cL_law 496 = .ok (.iadd, 1) := by decide +kernel
theorem dL_law_497 : decode cL_law 497 = .ok (.iaload, 1) := by decide +kernel
theorem dL_law_498 : decode cL_law 498 = .ok (.invokevirtual 76, 3) := by decide +kernel
theorem dL_law_501 : decode cL_law 501 = .ok (.if_icmp .eq 424, 3) := by decide +kernel
theorem dL_law_504 : decode cL_law 504 = .ok (.iconst 0, 1) := by decide +kernel
theorem dL_law_505 : decode cL_law 505 = .ok (.ireturn, 1) := by decide +kernel
theorem dL_law_506 : decode cL_law 506 = .ok (.aload_n 1, 1) := by decide +kernel
theorem dL_law_507 : decode cL_law 507 = .ok (.aload_n 0, 1) := by decide +kernel
theorem dL_law_508 : decode cL_law 508 = .ok (.iload_n 3, 1) := by decide +kernel
theorem dL_law_509 : decode cL_law 509 = .ok (.iconst 1, 1) := by decide +kernel
theorem dL_law_510 : decode cL_law 510 = .ok (.iadd, 1) := by decide +kernel
theorem dL_law_511 : decode cL_law 511 = .ok (.iaload, 1) := by decide +kernel
theorem dL_law_512 : decode cL_law 512 = .ok (.invokevirtual 77, 3) := by decide +kernel
theorem dL_law_515 : decode cL_law 515 = .ok (.aload_n 2, 1) := by decide +kernel
theorem dL_law_516 : decode cL_law 516 = .ok (.aload_n 0, 1) := by decide +kernel
theorem dL_law_517 : decode cL_law 517 = .ok (.iload_n 3, 1) := by decide +kernel
theorem dL_law_518 : decode cL_law 518 = .ok (.iconst 1, 1) := by decide +kernel
theorem dL_law_519 : decode cL_law 519 = .ok (.iadd, 1) := by decide +kernel
theorem dL_law_520 : decode cL_law 520 = .ok (.iaload, 1) := by decide +kernel
theorem dL_law_521 : decode cL_law 521 = .ok (.invokevirtual 80, 3) := by decide +kernel
theorem dL_law_524 : decode cL_law 524 = .ok (.if_icmp .eq 401, 3) := by decide +kernel
theorem dL_law_527 : decode cL_law 527 = .ok (.iconst 0, 1) := by decide +kernel
theorem dL_law_528 : decode cL_law 528 = .ok (.ireturn, 1) := by decide +kernel
theorem dL_law_529 : decode cL_law 529 = .ok (.aload_n 1, 1) := by decide +kernel
theorem dL_law_530 : decode cL_law 530 = .ok (.aload_n 0, 1) := by decide +kernel
theorem dL_law_531 : decode cL_law 531 = .ok (.iload_n 3, 1) := by decide +kernel
theorem dL_law_532 : decode cL_law 532 = .ok (.iconst 1, 1) := by decide +kernel
theorem dL_law_533 : decode cL_law 533 = .ok (.iadd, 1) := by decide +kernel
theorem dL_law_534 : decode cL_law 534 = .ok (.iaload, 1) := by decide +kernel
theorem dL_law_535 : decode cL_law 535 = .ok (.aload_n 0, 1) := by decide +kernel
theorem dL_law_536 : decode cL_law 536 = .ok (.iload_n 3, 1) := by decide +kernel
theorem dL_law_537 : decode cL_law 537 = .ok (.iconst 2, 1) := by decide +kernel
theorem dL_law_538 : decode cL_law 538 = .ok (.iadd, 1) := by decide +kernel
theorem dL_law_539 : decode cL_law 539 = .ok (.iaload, 1) := by decide +kernel
theorem dL_law_540 : decode cL_law 540 = .ok (.invokevirtual 81, 3) := by decide +kernel
theorem dL_law_543 : decode cL_law 543 = .ok (.aload_n 2, 1) := by decide +kernel
theorem dL_law_544 : decode cL_law 544 = .ok (.aload_n 0, 1) := by decide +kernel
theorem dL_law_545 : decode cL_law 545 = .ok (.iload_n 3, 1) := by decide +kernel
theorem dL_law_546 : decode cL_law 546 = .ok (.iconst 1, 1) := by decide +kernel
theorem dL_law_547 : decode cL_law 547 = .ok (.iadd, 1) := by decide +kernel
theorem dL_law_548 : decode cL_law 548 = .ok (.iaload, 1) := by decide +kernel
theorem dL_law_549 : decode cL_law 549 = .ok (.aload_n 0, 1) := by decide +kernel
theorem dL_law_550 : decode cL_law 550 = .ok (.iload_n 3, 1) := by decide +kernel
theorem dL_law_551 : decode cL_law 551 = .ok (.iconst 2, 1) := by decide +kernel
theorem dL_law_552 : decode cL_law 552 = .ok (.iadd, 1) := by decide +kernel
theorem dL_law_553 : decode cL_law 553 = .ok (.iaload, 1) := by decide +kernel
theorem dL_law_554 : decode cL_law 554 = .ok (.invokevirtual 84, 3) := by decide +kernel
theorem dL_law_557 : decode cL_law 557 = .ok (.if_icmp .eq 368, 3) := by decide +kernel
theorem dL_law_560 : decode cL_law 560 = .ok (.iconst 0, 1) := by decide +kernel
theorem dL_law_561 : decode cL_law 561 = .ok (.ireturn, 1) := by decide +kernel
theorem dL_law_562 : decode cL_law 562 = .ok (.aload_n 1, 1) := by decide +kernel
theorem dL_law_563 : decode cL_law 563 = .ok (.aload_n 0, 1) := by decide +kernel
theorem dL_law_564 : decode cL_law 564 = .ok (.iload_n 3, 1) := by decide +kernel
theorem dL_law_565 : decode cL_law 565 = .ok (.iconst 1, 1) := by decide +kernel
theorem dL_law_566 : decode cL_law 566 = .ok (.iadd, 1) := by decide +kernel
theorem dL_law_567 : decode cL_law 567 = .ok (.iaload, 1) := by decide +kernel
theorem dL_law_568 : decode cL_law 568 = .ok (.invokevirtual 85, 3) := by decide +kernel
theorem dL_law_571 : decode cL_law 571 = .ok (.aload_n 2, 1) := by decide +kernel
theorem dL_law_572 : decode cL_law 572 = .ok (.aload_n 0, 1) := by decide +kernel
theorem dL_law_573 : decode cL_law 573 = .ok (.iload_n 3, 1) := by decide +kernel
theorem dL_law_574 : decode cL_law 574 = .ok (.iconst 1, 1) := by decide +kernel
theorem dL_law_575 : decode cL_law 575 = .ok (.iadd, 1) := by decide +kernel
theorem dL_law_576 : decode cL_law 576 = .ok (.iaload, 1) := by decide +kernel
theorem dL_law_577 : decode cL_law 577 = .ok (.invokevirtual 88, 3) := by decide +kernel
theorem dL_law_580 : decode cL_law 580 = .ok (.if_icmp .eq 345, 3) := by decide +kernel
theorem dL_law_583 : decode cL_law 583 = .ok (.iconst 0, 1) := by decide +kernel
theorem dL_law_584 : decode cL_law 584 = .ok (.ireturn, 1) := by decide +kernel
theorem dL_law_585 : decode cL_law 585 = .ok (.aload_n 1, 1) := by decide +kernel
theorem dL_law_586 : decode cL_law 586 = .ok (.aload_n 0, 1) := by decide +kernel
theorem dL_law_587 : decode cL_law 587 = .ok (.iload_n 3, 1) := by decide +kernel
theorem dL_law_588 : decode cL_law 588 = .ok (.iconst 1, 1) := by decide +kernel
theorem dL_law_589 : decode cL_law 589 = .ok (.iadd, 1) := by decide +kernel
theorem dL_law_590 : decode cL_law 590 = .ok (.iaload, 1) := by decide +kernel
theorem dL_law_591 : decode cL_law 591 = .ok (.aload_n 0, 1) := by decide +kernel
theorem dL_law_592 : decode cL_law 592 = .ok (.iload_n 3, 1) := by decide +kernel
theorem dL_law_593 : decode cL_law 593 = .ok (.iconst 2, 1) := by decide +kernel
theorem dL_law_594 : decode cL_law 594 = .ok (.iadd, 1) := by decide +kernel
theorem dL_law_595 : decode cL_law 595 = .ok (.iaload, 1) := by decide +kernel
theorem dL_law_596 : decode cL_law 596 = .ok (.aload_n 0, 1) := by decide +kernel
theorem dL_law_597 : decode cL_law 597 = .ok (.iload_n 3, 1) := by decide +kernel
theorem dL_law_598 : decode cL_law 598 = .ok (.iconst 3, 1) := by decide +kernel
theorem dL_law_599 : decode cL_law 599 = .ok (.iadd, 1) := by decide +kernel
theorem dL_law_600 : decode cL_law 600 = .ok (.iaload, 1) := by decide +kernel
theorem dL_law_601 : decode cL_law 601 = .ok (.invokevirtual 89, 3) := by decide +kernel
theorem dL_law_604 : decode cL_law 604 = .ok (.aload_n 2, 1) := by decide +kernel
theorem dL_law_605 : decode cL_law 605 = .ok (.aload_n 0, 1) := by decide +kernel
theorem dL_law_606 : decode cL_law 606 = .ok (.iload_n 3, 1) := by decide +kernel
theorem dL_law_607 : decode cL_law 607 = .ok (.iconst 1, 1) := by decide +kernel
theorem dL_law_608 : decode cL_law 608 = .ok (.iadd, 1) := by decide +kernel
theorem dL_law_609 : decode cL_law 609 = .ok (.iaload, 1) := by decide +kernel
theorem dL_law_610 : decode cL_law 610 = .ok (.aload_n 0, 1) := by decide +kernel
theorem dL_law_611 : decode cL_law 611 = .ok (.iload_n 3, 1) := by decide +kernel
theorem dL_law_612 : decode cL_law 612 = .ok (.iconst 2, 1) := by decide +kernel
theorem dL_law_613 : decode cL_law 613 = .ok (.iadd, 1) := by decide +kernel
theorem dL_law_614 : decode cL_law 614 = .ok (.iaload, 1) := by decide +kernel
theorem dL_law_615 : decode cL_law 615 = .ok (.aload_n 0, 1) := by decide +kernel
theorem dL_law_616 : decode cL_law 616 = .ok (.iload_n 3, 1) := by decide +kernel
theorem dL_law_617 : decode cL_law 617 = .ok (.iconst 3, 1) := by decide +kernel
theorem dL_law_618 : decode cL_law 618 = .ok (.iadd, 1) := by decide +kernel
theorem dL_law_619 : decode cL_law 619 = .ok (.iaload, 1) := by decide +kernel
theorem dL_law_620 : decode cL_law 620 = .ok (.invokevirtual 93, 3) := by decide +kernel
theorem dL_law_623 : decode cL_law 623 = .ok (.if_icmp .eq 302, 3) := by decide +kernel
theorem dL_law_626 : decode cL_law 626 = .ok (.iconst 0, 1) := by decide +kernel
theorem dL_law_627 : decode cL_law 627 = .ok (.ireturn, 1) := by decide +kernel
theorem dL_law_628 : decode cL_law 628 = .ok (.aload_n 1, 1) := by decide +kernel
theorem dL_law_629 : decode cL_law 629 = .ok (.aload_n 0, 1) := by decide +kernel
theorem dL_law_630 : decode cL_law 630 = .ok (.iload_n 3, 1) := by decide +kernel
theorem dL_law_631 : decode cL_law 631 = .ok (.iconst 1, 1) := by decide +kernel
theorem dL_law_632 : decode cL_law 632 = .ok (.iadd, 1) := by decide +kernel
theorem dL_law_633 : decode cL_law 633 = .ok (.iaload, 1) := by decide +kernel
theorem dL_law_634 : decode cL_law 634 = .ok (.invokevirtual 94, 3) := by decide +kernel
theorem dL_law_637 : decode cL_law 637 = .ok (.aload_n 2, 1) := by decide +kernel
theorem dL_law_638 : decode cL_law 638 = .ok (.aload_n 0, 1) := by decide +kernel
theorem dL_law_639 : decode cL_law 639 = .ok (.iload_n 3, 1) := by decide +kernel
theorem dL_law_640 : decode cL_law 640 = .ok (.iconst 1, 1) := by decide +kernel
theorem dL_law_641 : decode cL_law 641 = .ok (.iadd, 1) := by decide +kernel
theorem dL_law_642 : decode cL_law 642 = .ok (.iaload, 1) := by decide +kernel
theorem dL_law_643 : decode cL_law 643 = .ok (.invokevirtual 97, 3) := by decide +kernel
theorem dL_law_646 : decode cL_law 646 = .ok (.if_icmp .eq 279, 3) := by decide +kernel
theorem dL_law_649 : decode cL_law 649 = .ok (.iconst 0, 1) := by decide +kernel
theorem dL_law_650 : decode cL_law 650 = .ok (.ireturn, 1) := by decide +kernel
theorem dL_law_651 : decode cL_law 651 = .ok (.aload_n 1, 1) := by decide +kernel
theorem dL_law_652 : decode cL_law 652 = .ok (.aload_n 0, 1) := by decide +kernel
theorem dL_law_653 : decode cL_law 653 = .ok (.iload_n 3, 1) := by decide +kernel
theorem dL_law_654 : decode cL_law 654 = .ok (.iconst 1, 1) := by decide +kernel
theorem dL_law_655 : decode cL_law 655 = .ok (.iadd, 1) := by decide +kernel
theorem dL_law_656 : decode cL_law 656 = .ok (.iaload, 1) := by decide +kernel
theorem dL_law_657 : decode cL_law 657 = .ok (.invokevirtual 98, 3) := by decide +kernel
theorem dL_law_660 : decode cL_law 660 = .ok (.aload_n 2, 1) := by decide +kernel
theorem dL_law_661 : decode cL_law 661 = .ok (.aload_n 0, 1) := by decide +kernel
theorem dL_law_662 : decode cL_law 662 = .ok (.iload_n 3, 1) := by decide +kernel
theorem dL_law_663 : decode cL_law 663 = .ok (.iconst 1, 1) := by decide +kernel
theorem dL_law_664 : decode cL_law 664 = .ok (.iadd, 1) := by decide +kernel
theorem dL_law_665 : decode cL_law 665 = .ok (.iaload, 1) := by decide +kernel
theorem dL_law_666 : decode cL_law 666 = .ok (.invokevirtual 101, 3) := by decide +kernel
theorem dL_law_669 : decode cL_law 669 = .ok (.if_icmp .eq 256, 3) := by decide +kernel
theorem dL_law_672 : decode cL_law 672 = .ok (.iconst 0, 1) := by decide +kernel
theorem dL_law_673 : decode cL_law 673 = .ok (.ireturn, 1) := by decide +kernel
theorem dL_law_674 : decode cL_law 674 = .ok (.aload_n 1, 1) := by decide +kernel
theorem dL_law_675 : decode cL_law 675 = .ok (.aload_n 0, 1) := by decide +kernel
theorem dL_law_676 : decode cL_law 676 = .ok (.iload_n 3, 1) := by decide +kernel
theorem dL_law_677 : decode cL_law 677 = .ok (.iconst 1, 1) := by decide +kernel
theorem dL_law_678 : decode cL_law 678 = .ok (.iadd, 1) := by decide +kernel
theorem dL_law_679 : decode cL_law 679 = .ok (.iaload, 1) := by decide +kernel
theorem dL_law_680 : decode cL_law 680 = .ok (.aload_n 0, 1) := by decide +kernel
theorem dL_law_681 : decode cL_law 681 = .ok (.iload_n 3, 1) := by decide +kernel
theorem dL_law_682 : decode cL_law 682 = .ok (.iconst 2, 1) := by decide +kernel
theorem dL_law_683 : decode cL_law 683 = .ok (.iadd, 1) := by decide +kernel
theorem dL_law_684 : decode cL_law 684 = .ok (.iaload, 1) := by decide +kernel
theorem dL_law_685 : decode cL_law 685 = .ok (.aload_n 0, 1) := by decide +kernel
theorem dL_law_686 : decode cL_law 686 = .ok (.iload_n 3, 1) := by decide +kernel
theorem dL_law_687 : decode cL_law 687 = .ok (.iconst 3, 1) := by decide +kernel
theorem dL_law_688 : decode cL_law 688 = .ok (.iadd, 1) := by decide +kernel
theorem dL_law_689 : decode cL_law 689 = .ok (.iaload, 1) := by decide +kernel
theorem dL_law_690 : decode cL_law 690 = .ok (.aload_n 0, 1) := by decide +kernel
theorem dL_law_691 : decode cL_law 691 = .ok (.iload_n 3, 1) := by decide +kernel
theorem dL_law_692 : decode cL_law 692 = .ok (.iconst 4, 1) := by decide +kernel
theorem dL_law_693 : decode cL_law 693 = .ok (.iadd, 1) := by decide +kernel
theorem dL_law_694 : decode cL_law 694 = .ok (.iaload, 1) := by decide +kernel
theorem dL_law_695 : decode cL_law 695 = .ok (.invokevirtual 102, 3) := by decide +kernel
theorem dL_law_698 : decode cL_law 698 = .ok (.aload_n 2, 1) := by decide +kernel
theorem dL_law_699 : decode cL_law 699 = .ok (.aload_n 0, 1) := by decide +kernel
theorem dL_law_700 : decode cL_law 700 = .ok (.iload_n 3, 1) := by decide +kernel
theorem dL_law_701 : decode cL_law 701 = .ok (.iconst 1, 1) := by decide +kernel
theorem dL_law_702 : decode cL_law 702 = .ok (.iadd, 1) := by decide +kernel
theorem dL_law_703 : decode cL_law 703 = .ok (.iaload, 1) := by decide +kernel
theorem dL_law_704 : decode cL_law 704 = .ok (.aload_n 0, 1) := by decide +kernel
theorem dL_law_705 : decode cL_law 705 = .ok (.iload_n 3, 1) := by decide +kernel
theorem dL_law_706 : decode cL_law 706 = .ok (.iconst 2, 1) := by decide +kernel
theorem dL_law_707 : decode cL_law 707 = .ok (.iadd, 1) := by decide +kernel
theorem dL_law_708 : decode cL_law 708 = .ok (.iaload, 1) := by decide +kernel
theorem dL_law_709 : decode cL_law 709 = .ok (.aload_n 0, 1) := by decide +kernel
theorem dL_law_710 : decode cL_law 710 = .ok (.iload_n 3, 1) := by decide +kernel
theorem dL_law_711 : decode cL_law 711 = .ok (.iconst 3, 1) := by decide +kernel
theorem dL_law_712 : decode cL_law 712 = .ok (.iadd, 1) := by decide +kernel
theorem dL_law_713 : decode cL_law 713 = .ok (.iaload, 1) := by decide +kernel
theorem dL_law_714 : decode cL_law 714 = .ok (.aload_n 0, 1) := by decide +kernel
theorem dL_law_715 : decode cL_law 715 = .ok (.iload_n 3, 1) := by decide +kernel
theorem dL_law_716 : decode cL_law 716 = .ok (.iconst 4, 1) := by decide +kernel
theorem dL_law_717 : decode cL_law 717 = .ok (.iadd, 1) := by decide +kernel
theorem dL_law_718 : decode cL_law 718 = .ok (.iaload, 1) := by decide +kernel
theorem dL_law_719 : decode cL_law 719 = .ok (.invokevirtual 106, 3) := by decide +kernel
theorem dL_law_722 : decode cL_law 722 = .ok (.if_icmp .eq 203, 3) := by decide +kernel
theorem dL_law_725 : decode cL_law 725 = .ok (.iconst 0, 1) := by decide +kernel
theorem dL_law_726 : decode cL_law 726 = .ok (.ireturn, 1) := by decide +kernel
theorem dL_law_727 : decode cL_law 727 = .ok (.aload_n 1, 1) := by decide +kernel
theorem dL_law_728 : decode cL_law 728 = .ok (.aload_n 0, 1) := by decide +kernel
theorem dL_law_729 : decode cL_law 729 = .ok (.iload_n 3, 1) := by decide +kernel
theorem dL_law_730 : decode cL_law 730 = .ok (.iconst 1, 1) := by decide +kernel
theorem dL_law_731 : decode cL_law 731 = .ok (.iadd, 1) := by decide +kernel
theorem dL_law_732 : decode cL_law 732 = .ok (.iaload, 1) := by decide +kernel
theorem dL_law_733 : decode cL_law 733 = .ok (.aload_n 0, 1) := by decide +kernel
theorem dL_law_734 : decode cL_law 734 = .ok (.iload_n 3, 1) := by decide +kernel
theorem dL_law_735 : decode cL_law 735 = .ok (.iconst 2, 1) := by decide +kernel
theorem dL_law_736 : decode cL_law 736 = .ok (.iadd, 1) := by decide +kernel
theorem dL_law_737 : decode cL_law 737 = .ok (.iaload, 1) := by decide +kernel
theorem dL_law_738 : decode cL_law 738 = .ok (.aload_n 0, 1) := by decide +kernel
theorem dL_law_739 : decode cL_law 739 = .ok (.iload_n 3, 1) := by decide +kernel
theorem dL_law_740 : decode cL_law 740 = .ok (.iconst 3, 1) := by decide +kernel
theorem dL_law_741 : decode cL_law 741 = .ok (.iadd, 1) := by decide +kernel
theorem dL_law_742 : decode cL_law 742 = .ok (.iaload, 1) := by decide +kernel
theorem dL_law_743 : decode cL_law 743 = .ok (.invokevirtual 107, 3) := by decide +kernel
theorem dL_law_746 : decode cL_law 746 = .ok (.aload_n 2, 1) := by decide +kernel
theorem dL_law_747 : decode cL_law 747 = .ok (.aload_n 0, 1) := by decide +kernel
theorem dL_law_748 : decode cL_law 748 = .ok (.iload_n 3, 1) := by decide +kernel
theorem dL_law_749 : decode cL_law 749 = .ok (.iconst 1, 1) := by decide +kernel
theorem dL_law_750 : decode cL_law 750 = .ok (.iadd, 1) := by decide +kernel
theorem dL_law_751 : decode cL_law 751 = .ok (.iaload, 1) := by decide +kernel
theorem dL_law_752 : decode cL_law 752 = .ok (.aload_n 0, 1) := by decide +kernel
theorem dL_law_753 : decode cL_law 753 = .ok (.iload_n 3, 1) := by decide +kernel
theorem dL_law_754 : decode cL_law 754 = .ok (.iconst 2, 1) := by decide +kernel
theorem dL_law_755 : decode cL_law 755 = .ok (.iadd, 1) := by decide +kernel
theorem dL_law_756 : decode cL_law 756 = .ok (.iaload, 1) := by decide +kernel
theorem dL_law_757 : decode cL_law 757 = .ok (.aload_n 0, 1) := by decide +kernel
theorem dL_law_758 : decode cL_law 758 = .ok (.iload_n 3, 1) := by decide +kernel
theorem dL_law_759 : decode cL_law 759 = .ok (.iconst 3, 1) := by decide +kernel
theorem dL_law_760 : decode cL_law 760 = .ok (.iadd, 1) := by decide +kernel
theorem dL_law_761 : decode cL_law 761 = .ok (.iaload, 1) := by decide +kernel
theorem dL_law_762 : decode cL_law 762 = .ok (.invokevirtual 110, 3) := by decide +kernel
theorem dL_law_765 : decode cL_law 765 = .ok (.if_icmp .eq 160, 3) := by decide +kernel
theorem dL_law_768 : decode cL_law 768 = .ok (.iconst 0, 1) := by decide +kernel
theorem dL_law_769 : decode cL_law 769 = .ok (.ireturn, 1) := by decide +kernel
theorem dL_law_770 : decode cL_law 770 = .ok (.aload_n 1, 1) := by decide +kernel
theorem dL_law_771 : decode cL_law 771 = .ok (.aload_n 0, 1) := by decide +kernel
theorem dL_law_772 : decode cL_law 772 = .ok (.iload_n 3, 1) := by decide +kernel
theorem dL_law_773 : decode cL_law 773 = .ok (.iconst 1, 1) := by decide +kernel
theorem dL_law_774 : decode cL_law 774 = .ok (.iadd, 1) := by decide +kernel
theorem dL_law_775 : decode cL_law 775 = .ok (.iaload, 1) := by decide +kernel
theorem dL_law_776 : decode cL_law 776 = .ok (.aload_n 0, 1) := by decide +kernel
theorem dL_law_777 : decode cL_law 777 = .ok (.iload_n 3, 1) := by decide +kernel
theorem dL_law_778 : decode cL_law 778 = .ok (.iconst 2, 1) := by decide +kernel
theorem dL_law_779 : decode cL_law 779 = .ok (.iadd, 1) := by decide +kernel
theorem dL_law_780 : decode cL_law 780 = .ok (.iaload, 1) := by decide +kernel
theorem dL_law_781 : decode cL_law 781 = .ok (.aload_n 0, 1) := by decide +kernel
theorem dL_law_782 : decode cL_law 782 = .ok (.iload_n 3, 1) := by decide +kernel
theorem dL_law_783 : decode cL_law 783 = .ok (.iconst 3, 1) := by decide +kernel
theorem dL_law_784 : decode cL_law 784 = .ok (.iadd, 1) := by decide +kernel
theorem dL_law_785 : decode cL_law 785 = .ok (.iaload, 1) := by decide +kernel
theorem dL_law_786 : decode cL_law 786 = .ok (.invokevirtual 111, 3) := by decide +kernel
theorem dL_law_789 : decode cL_law 789 = .ok (.aload_n 2, 1) := by decide +kernel
theorem dL_law_790 : decode cL_law 790 = .ok (.aload_n 0, 1) := by decide +kernel
theorem dL_law_791 : decode cL_law 791 = .ok (.iload_n 3, 1) := by decide +kernel
theorem dL_law_792 : decode cL_law 792 = .ok (.iconst 1, 1) := by decide +kernel
theorem dL_law_793 : decode cL_law 793 = .ok (.iadd, 1) := by decide +kernel
theorem dL_law_794 : decode cL_law 794 = .ok (.iaload, 1) := by decide +kernel
theorem dL_law_795 : decode cL_law 795 = .ok (.aload_n 0, 1) := by decide +kernel
theorem dL_law_796 : decode cL_law 796 = .ok (.iload_n 3, 1) := by decide +kernel
theorem dL_law_797 : decode cL_law 797 = .ok (.iconst 2, 1) := by decide +kernel
theorem dL_law_798 : decode cL_law 798 = .ok (.iadd, 1) := by decide +kernel
theorem dL_law_799 : decode cL_law 799 = .ok (.iaload, 1) := by decide +kernel
theorem dL_law_800 : decode cL_law 800 = .ok (.aload_n 0, 1) := by decide +kernel
theorem dL_law_801 : decode cL_law 801 = .ok (.iload_n 3, 1) := by decide +kernel
theorem dL_law_802 : decode cL_law 802 = .ok (.iconst 3, 1) := by decide +kernel
theorem dL_law_803 : decode cL_law 803 = .ok (.iadd, 1) := by decide +kernel
theorem dL_law_804 : decode cL_law 804 = .ok (.iaload, 1) := by decide +kernel
theorem dL_law_805 : decode cL_law 805 = .ok (.invokevirtual 114, 3) := by decide +kernel
theorem dL_law_808 : decode cL_law 808 = .ok (.if_icmp .eq 117, 3) := by decide +kernel
theorem dL_law_811 : decode cL_law 811 = .ok (.iconst 0, 1) := by decide +kernel
theorem dL_law_812 : decode cL_law 812 = .ok (.ireturn, 1) := by decide +kernel
theorem dL_law_813 : decode cL_law 813 = .ok (.aload_n 1, 1) := by decide +kernel
theorem dL_law_814 : decode cL_law 814 = .ok (.aload_n 0, 1) := by decide +kernel
theorem dL_law_815 : decode cL_law 815 = .ok (.iload_n 3, 1) := by decide +kernel
theorem dL_law_816 : decode cL_law 816 = .ok (.iconst 1, 1) := by decide +kernel
theorem dL_law_817 : decode cL_law 817 = .ok (.iadd, 1) := by decide +kernel
theorem dL_law_818 : decode cL_law 818 = .ok (.iaload, 1) := by decide +kernel
theorem dL_law_819 : decode cL_law 819 = .ok (.aload_n 0, 1) := by decide +kernel
theorem dL_law_820 : decode cL_law 820 = .ok (.iload_n 3, 1) := by decide +kernel
theorem dL_law_821 : decode cL_law 821 = .ok (.iconst 2, 1) := by decide +kernel
theorem dL_law_822 : decode cL_law 822 = .ok (.iadd, 1) := by decide +kernel
theorem dL_law_823 : decode cL_law 823 = .ok (.iaload, 1) := by decide +kernel
theorem dL_law_824 : decode cL_law 824 = .ok (.invokevirtual 115, 3) := by decide +kernel
theorem dL_law_827 : decode cL_law 827 = .ok (.aload_n 2, 1) := by decide +kernel
theorem dL_law_828 : decode cL_law 828 = .ok (.aload_n 0, 1) := by decide +kernel
theorem dL_law_829 : decode cL_law 829 = .ok (.iload_n 3, 1) := by decide +kernel
theorem dL_law_830 : decode cL_law 830 = .ok (.iconst 1, 1) := by decide +kernel
theorem dL_law_831 : decode cL_law 831 = .ok (.iadd, 1) := by decide +kernel
theorem dL_law_832 : decode cL_law 832 = .ok (.iaload, 1) := by decide +kernel
theorem dL_law_833 : decode cL_law 833 = .ok (.aload_n 0, 1) := by decide +kernel
theorem dL_law_834 : decode cL_law 834 = .ok (.iload_n 3, 1) := by decide +kernel
theorem dL_law_835 : decode cL_law 835 = .ok (.iconst 2, 1) := by decide +kernel
theorem dL_law_836 : decode cL_law 836 = .ok (.iadd, 1) := by decide +kernel
theorem dL_law_837 : decode cL_law 837 = .ok (.iaload, 1) := by decide +kernel
theorem dL_law_838 : decode cL_law 838 = .ok (.invokevirtual 118, 3) := by decide +kernel
theorem dL_law_841 : decode cL_law 841 = .ok (.if_icmp .eq 84, 3) := by decide +kernel
theorem dL_law_844 : decode cL_law 844 = .ok (.iconst 0, 1) := by decide +kernel
theorem dL_law_845 : decode cL_law 845 = .ok (.ireturn, 1) := by decide +kernel
theorem dL_law_846 : decode cL_law 846 = .ok (.aload_n 1, 1) := by decide +kernel
theorem dL_law_847 : decode cL_law 847 = .ok (.aload_n 0, 1) := by decide +kernel
theorem dL_law_848 : decode cL_law 848 = .ok (.iload_n 3, 1) := by decide +kernel
theorem dL_law_849 : decode cL_law 849 = .ok (.iconst 1, 1) := by decide +kernel
theorem dL_law_850 : decode cL_law 850 = .ok (.iadd, 1) := by decide +kernel
theorem dL_law_851 : decode cL_law 851 = .ok (.iaload, 1) := by decide +kernel
theorem dL_law_852 : decode cL_law 852 = .ok (.aload_n 0, 1) := by decide +kernel
theorem dL_law_853 : decode cL_law 853 = .ok (.iload_n 3, 1) := by decide +kernel
theorem dL_law_854 : decode cL_law 854 = .ok (.iconst 2, 1) := by decide +kernel
theorem dL_law_855 : decode cL_law 855 = .ok (.iadd, 1) := by decide +kernel
theorem dL_law_856 : decode cL_law 856 = .ok (.iaload, 1) := by decide +kernel
theorem dL_law_857 : decode cL_law 857 = .ok (.invokevirtual 119, 3) := by decide +kernel
theorem dL_law_860 : decode cL_law 860 = .ok (.aload_n 2, 1) := by decide +kernel
theorem dL_law_861 : decode cL_law 861 = .ok (.aload_n 0, 1) := by decide +kernel
theorem dL_law_862 : decode cL_law 862 = .ok (.iload_n 3, 1) := by decide +kernel
theorem dL_law_863 : decode cL_law 863 = .ok (.iconst 1, 1) := by decide +kernel
theorem dL_law_864 : decode cL_law 864 = .ok (.iadd, 1) := by decide +kernel
theorem dL_law_865 : decode cL_law 865 = .ok (.iaload, 1) := by decide +kernel
theorem dL_law_866 : decode cL_law 866 = .ok (.aload_n 0, 1) := by decide +kernel
theorem dL_law_867 : decode cL_law 867 = .ok (.iload_n 3, 1) := by decide +kernel
theorem dL_law_868 : decode cL_law 868 = .ok (.iconst 2, 1) := by decide +kernel
theorem dL_law_869 : decode cL_law 869 = .ok (.iadd, 1) := by decide +kernel
theorem dL_law_870 : decode cL_law 870 = .ok (.iaload, 1) := by decide +kernel
theorem dL_law_871 : decode cL_law 871 = .ok (.invokevirtual 122, 3) := by decide +kernel
theorem dL_law_874 : decode cL_law 874 = .ok (.if_icmp .eq 51, 3) := by decide +kernel
theorem dL_law_877 : decode cL_law 877 = .ok (.iconst 0, 1) := by decide +kernel
theorem dL_law_878 : decode cL_law 878 = .ok (.ireturn, 1) := by decide +kernel
theorem dL_law_879 : decode cL_law 879 = .ok (.aload_n 1, 1) := by decide +kernel
theorem dL_law_880 : decode cL_law 880 = .ok (.aload_n 0, 1) := by decide +kernel
theorem dL_law_881 : decode cL_law 881 = .ok (.iload_n 3, 1) := by decide +kernel
theorem dL_law_882 : decode cL_law 882 = .ok (.iconst 1, 1) := by decide +kernel
theorem dL_law_883 : decode cL_law 883 = .ok (.iadd, 1) := by decide +kernel
theorem dL_law_884 : decode cL_law 884 = .ok (.iaload, 1) := by decide +kernel
theorem dL_law_885 : decode cL_law 885 = .ok (.invokevirtual 123, 3) := by decide +kernel
theorem dL_law_888 : decode cL_law 888 = .ok (.aload_n 2, 1) := by decide +kernel
theorem dL_law_889 : decode cL_law 889 = .ok (.aload_n 0, 1) := by decide +kernel
theorem dL_law_890 : decode cL_law 890 = .ok (.iload_n 3, 1) := by decide +kernel
theorem dL_law_891 : decode cL_law 891 = .ok (.iconst 1, 1) := by decide +kernel
theorem dL_law_892 : decode cL_law 892 = .ok (.iadd, 1) := by decide +kernel
theorem dL_law_893 : decode cL_law 893 = .ok (.iaload, 1) := by decide +kernel
theorem dL_law_894 : decode cL_law 894 = .ok (.invokevirtual 126, 3) := by decide +kernel
theorem dL_law_897 : decode cL_law 897 = .ok (.if_icmp .eq 28, 3) := by decide +kernel
theorem dL_law_900 : decode cL_law 900 = .ok (.iconst 0, 1) := by decide +kernel
theorem dL_law_901 : decode cL_law 901 = .ok (.ireturn, 1) := by decide +kernel
theorem dL_law_902 : decode cL_law 902 = .ok (.aload_n 1, 1) := by decide +kernel
theorem dL_law_903 : decode cL_law 903 = .ok (.aload_n 0, 1) := by decide +kernel
theorem dL_law_904 : decode cL_law 904 = .ok (.iload_n 3, 1) := by decide +kernel
theorem dL_law_905 : decode cL_law 905 = .ok (.iconst 1, 1) := by decide +kernel
theorem dL_law_906 : decode cL_law 906 = .ok (.iadd, 1) := by decide +kernel
theorem dL_law_907 : decode cL_law 907 = .ok (.iaload, 1) := by decide +kernel
theorem dL_law_908 : decode cL_law 908 = .ok (.invokevirtual 127, 3) := by decide +kernel
theorem dL_law_911 : decode cL_law 911 = .ok (.aload_n 2, 1) := by decide +kernel
theorem dL_law_912 : decode cL_law 912 = .ok (.aload_n 0, 1) := by decide +kernel
theorem dL_law_913 : decode cL_law 913 = .ok (.iload_n 3, 1) := by decide +kernel
theorem dL_law_914 : decode cL_law 914 = .ok (.iconst 1, 1) := by decide +kernel
theorem dL_law_915 : decode cL_law 915 = .ok (.iadd, 1) := by decide +kernel
theorem dL_law_916 : decode cL_law 916 = .ok (.iaload, 1) := by decide +kernel
theorem dL_law_917 : decode cL_law 917 = .ok (.invokevirtual 130, 3) := by decide +kernel
theorem dL_law_920 : decode cL_law 920 = .ok (.if_icmp .eq 5, 3) := by decide +kernel
theorem dL_law_923 : decode cL_law 923 = .ok (.iconst 0, 1) := by decide +kernel
theorem dL_law_924 : decode cL_law 924 = .ok (.ireturn, 1) := by decide +kernel
theorem dL_law_925 : decode cL_law 925 = .ok (.iinc 3 5, 3) := by decide +kernel
theorem dL_law_928 : decode cL_law 928 = .ok (.goto (-910), 3) := by decide +kernel
theorem dL_law_931 : decode cL_law 931 = .ok (.iconst 1, 1) := by decide +kernel
theorem dL_law_932 : decode cL_law 932 = .ok (.ireturn, 1) := by decide +kernel

/-! DECODE rows -/
theorem d_LW_widen_0 : decode b_LW_widen 0 = .ok (.aload_n 0, 1) := by decide +kernel
theorem d_LW_widen_1 : decode b_LW_widen 1 = .ok (.iload_n 1, 1) := by decide +kernel
theorem d_LW_widen_2 : decode b_LW_widen 2 = .ok (.invokevirtual 7, 3) := by decide +kernel
theorem d_LW_widen_5 : decode b_LW_widen 5 = .ok (.goto 9, 3) := by decide +kernel
theorem d_LW_widen_8 : decode b_LW_widen 8 = .ok (.astore_n 2, 1) := by decide +kernel
theorem d_LW_widen_9 : decode b_LW_widen 9 = .ok (.iconst 1, 1) := by decide +kernel
theorem d_LW_widen_10 : decode b_LW_widen 10 = .ok (.ireturn, 1) := by decide +kernel
theorem d_LW_widen_11 : decode b_LW_widen 11 = .ok (.astore_n 2, 1) := by decide +kernel
theorem d_LW_widen_12 : decode b_LW_widen 12 = .ok (.iconst 2, 1) := by decide +kernel
theorem d_LW_widen_13 : decode b_LW_widen 13 = .ok (.ireturn, 1) := by decide +kernel
theorem d_LW_widen_14 : decode b_LW_widen 14 = .ok (.iconst 0, 1) := by decide +kernel
theorem d_LW_widen_15 : decode b_LW_widen 15 = .ok (.ireturn, 1) := by decide +kernel
theorem d_LW_plug_0 : decode b_LW_plug 0 = .ok (.aload_n 0, 1) := by decide +kernel
theorem d_LW_plug_1 : decode b_LW_plug 1 = .ok (.iload_n 1, 1) := by decide +kernel
theorem d_LW_plug_2 : decode b_LW_plug 2 = .ok (.iload_n 2, 1) := by decide +kernel
theorem d_LW_plug_3 : decode b_LW_plug 3 = .ok (.iload_n 3, 1) := by decide +kernel
theorem d_LW_plug_4 : decode b_LW_plug 4 = .ok (.iload 4, 2) := by decide +kernel
theorem d_LW_plug_6 : decode b_LW_plug 6 = .ok (.invokevirtual 17, 3) := by decide +kernel
theorem d_LW_plug_9 : decode b_LW_plug 9 = .ok (.goto 11, 3) := by decide +kernel
theorem d_LW_plug_12 : decode b_LW_plug 12 = .ok (.astore 5, 2) := by decide +kernel
theorem d_LW_plug_14 : decode b_LW_plug 14 = .ok (.iconst 1, 1) := by decide +kernel
theorem d_LW_plug_15 : decode b_LW_plug 15 = .ok (.ireturn, 1) := by decide +kernel
theorem d_LW_plug_16 : decode b_LW_plug 16 = .ok (.astore 5, 2) := by decide +kernel
theorem d_LW_plug_18 : decode b_LW_plug 18 = .ok (.iconst 2, 1) := by decide +kernel
theorem d_LW_plug_19 : decode b_LW_plug 19 = .ok (.ireturn, 1) := by decide +kernel
theorem d_LW_plug_20 : decode b_LW_plug 20 = .ok (.iconst 0, 1) := by decide +kernel
theorem d_LW_plug_21 : decode b_LW_plug 21 = .ok (.ireturn, 1) := by decide +kernel
theorem d_LW_read_0 : decode b_LW_read 0 = .ok (.aload_n 2, 1) := by decide +kernel
theorem d_LW_read_1 : decode b_LW_read 1 = .ok (.iconst 0, 1) := by decide +kernel
theorem d_LW_read_2 : decode b_LW_read 2 = .ok (.aload_n 0, 1) := by decide +kernel
theorem d_LW_read_3 : decode b_LW_read 3 = .ok (.iload_n 1, 1) := by decide +kernel
theorem d_LW_read_4 : decode b_LW_read 4 = .ok (.invokevirtual 21, 3) := by decide +kernel
theorem d_LW_read_7 : decode b_LW_read 7 = .ok (.i2l, 1) := by decide +kernel
theorem d_LW_read_8 : decode b_LW_read 8 = .ok (.lastore, 1) := by decide +kernel
theorem d_LW_read_9 : decode b_LW_read 9 = .ok (.goto 6, 3) := by decide +kernel
theorem d_LW_read_12 : decode b_LW_read 12 = .ok (.astore_n 3, 1) := by decide +kernel
theorem d_LW_read_13 : decode b_LW_read 13 = .ok (.iconst 1, 1) := by decide +kernel
theorem d_LW_read_14 : decode b_LW_read 14 = .ok (.ireturn, 1) := by decide +kernel
theorem d_LW_read_15 : decode b_LW_read 15 = .ok (.iconst 0, 1) := by decide +kernel
theorem d_LW_read_16 : decode b_LW_read 16 = .ok (.ireturn, 1) := by decide +kernel
theorem d_LW_write_0 : decode b_LW_write 0 = .ok (.aload_n 0, 1) := by decide +kernel
theorem d_LW_write_1 : decode b_LW_write 1 = .ok (.iload_n 1, 1) := by decide +kernel
theorem d_LW_write_2 : decode b_LW_write 2 = .ok (.iload_n 2, 1) := by decide +kernel
theorem d_LW_write_3 : decode b_LW_write 3 = .ok (.invokevirtual 25, 3) := by decide +kernel
theorem d_LW_write_6 : decode b_LW_write 6 = .ok (.goto 6, 3) := by decide +kernel
theorem d_LW_write_9 : decode b_LW_write 9 = .ok (.astore_n 3, 1) := by decide +kernel
theorem d_LW_write_10 : decode b_LW_write 10 = .ok (.iconst 1, 1) := by decide +kernel
theorem d_LW_write_11 : decode b_LW_write 11 = .ok (.ireturn, 1) := by decide +kernel
theorem d_LW_write_12 : decode b_LW_write 12 = .ok (.iconst 0, 1) := by decide +kernel
theorem d_LW_write_13 : decode b_LW_write 13 = .ok (.ireturn, 1) := by decide +kernel
theorem d_LW_far_0 : decode b_LW_far 0 = .ok (.aload 4, 2) := by decide +kernel
theorem d_LW_far_2 : decode b_LW_far 2 = .ok (.iconst 0, 1) := by decide +kernel
theorem d_LW_far_3 : decode b_LW_far 3 = .ok (.aload_n 0, 1) := by decide +kernel
theorem d_LW_far_4 : decode b_LW_far 4 = .ok (.iload_n 1, 1) := by decide +kernel
theorem d_LW_far_5 : decode b_LW_far 5 = .ok (.iload_n 2, 1) := by decide +kernel
theorem d_LW_far_6 : decode b_LW_far 6 = .ok (.iload_n 3, 1) := by decide +kernel
theorem d_LW_far_7 : decode b_LW_far 7 = .ok (.invokevirtual 29, 3) := by decide +kernel
theorem d_LW_far_10 : decode b_LW_far 10 = .ok (.i2l, 1) := by decide +kernel
theorem d_LW_far_11 : decode b_LW_far 11 = .ok (.lastore, 1) := by decide +kernel
theorem d_LW_far_12 : decode b_LW_far 12 = .ok (.goto 7, 3) := by decide +kernel
theorem d_LW_far_15 : decode b_LW_far 15 = .ok (.astore 5, 2) := by decide +kernel
theorem d_LW_far_17 : decode b_LW_far 17 = .ok (.iconst 1, 1) := by decide +kernel
theorem d_LW_far_18 : decode b_LW_far 18 = .ok (.ireturn, 1) := by decide +kernel
theorem d_LW_far_19 : decode b_LW_far 19 = .ok (.iconst 0, 1) := by decide +kernel
theorem d_LW_far_20 : decode b_LW_far 20 = .ok (.ireturn, 1) := by decide +kernel
theorem d_LW_law_0 : decode code 0 = .ok (.new 8, 3) := by decide +kernel
theorem d_LW_law_3 : decode code 3 = .ok (.dup, 1) := by decide +kernel
theorem d_LW_law_4 : decode code 4 = .ok (.invokespecial 33, 3) := by decide +kernel
theorem d_LW_law_7 : decode code 7 = .ok (.astore_n 1, 1) := by decide +kernel
theorem d_LW_law_8 : decode code 8 = .ok (.new 34, 3) := by decide +kernel
theorem d_LW_law_11 : decode code 11 = .ok (.dup, 1) := by decide +kernel
theorem d_LW_law_12 : decode code 12 = .ok (.invokespecial 36, 3) := by decide +kernel
theorem d_LW_law_15 : decode code 15 = .ok (.astore_n 2, 1) := by decide +kernel
theorem d_LW_law_16 : decode code 16 = .ok (.iconst 1, 1) := by decide +kernel
theorem d_LW_law_17 : decode code 17 = .ok (.newarray .long, 2) := by decide +kernel
theorem d_LW_law_19 : decode code 19 = .ok (.astore_n 3, 1) := by decide +kernel
theorem d_LW_law_20 : decode code 20 = .ok (.iconst 0, 1) := by decide +kernel
theorem d_LW_law_21 : decode code 21 = .ok (.istore 4, 2) := by decide +kernel
theorem d_LW_law_23 : decode code 23 = .ok (.iload 4, 2) := by decide +kernel
theorem d_LW_law_25 : decode code 25 = .ok (.aload_n 0, 1) := by decide +kernel
theorem d_LW_law_26 : decode code 26 = .ok (.arraylength, 1) := by decide +kernel
theorem d_LW_law_27 : decode code 27 = .ok (.iconst 5, 1) := by decide +kernel
theorem d_LW_law_28 : decode code 28 = .ok (.isub, 1) := by decide +kernel
theorem d_LW_law_29 : decode code 29 = .ok (.if_icmp .gt 638, 3) := by decide +kernel
theorem d_LW_law_32 : decode code 32 = .ok (.aload_n 0, 1) := by decide +kernel
theorem d_LW_law_33 : decode code 33 = .ok (.iload 4, 2) := by decide +kernel
theorem d_LW_law_35 : decode code 35 = .ok (.iaload, 1) := by decide +kernel
theorem d_LW_law_36 : decode code 36 = .ok (.bipush 15, 2) := by decide +kernel
theorem d_LW_law_38 : decode code 38 = .ok (.iand, 1) := by decide +kernel
theorem d_LW_law_39 : decode code 39 = .ok (.tableswitch 622 0 13 #[69, 105, 177, 238, 294, 342, 422, 447, 484, 497, 534, 559, 584, 609], 69) := by decide +kernel
theorem d_LW_law_108 : decode code 108 = .ok (.aload_n 1, 1) := by decide +kernel
theorem d_LW_law_109 : decode code 109 = .ok (.aload_n 0, 1) := by decide +kernel
theorem d_LW_law_110 : decode code 110 = .ok (.iload 4, 2) := by decide +kernel
theorem d_LW_law_112 : decode code 112 = .ok (.iconst 1, 1) := by decide +kernel
theorem d_LW_law_113 : decode code 113 = .ok (.iadd, 1) := by decide +kernel
theorem d_LW_law_114 : decode code 114 = .ok (.iaload, 1) := by decide +kernel
theorem d_LW_law_115 : decode code 115 = .ok (.invokestatic 37, 3) := by decide +kernel
theorem d_LW_law_118 : decode code 118 = .ok (.istore 5, 2) := by decide +kernel
theorem d_LW_law_120 : decode code 120 = .ok (.aload_n 2, 1) := by decide +kernel
theorem d_LW_law_121 : decode code 121 = .ok (.aload_n 0, 1) := by decide +kernel
theorem d_LW_law_122 : decode code 122 = .ok (.iload 4, 2) := by decide +kernel
theorem d_LW_law_124 : decode code 124 = .ok (.iconst 1, 1) := by decide +kernel
theorem d_LW_law_125 : decode code 125 = .ok (.iadd, 1) := by decide +kernel
theorem d_LW_law_126 : decode code 126 = .ok (.iaload, 1) := by decide +kernel
theorem d_LW_law_127 : decode code 127 = .ok (.invokevirtual 42, 3) := by decide +kernel
theorem d_LW_law_130 : decode code 130 = .ok (.aload_n 2, 1) := by decide +kernel
theorem d_LW_law_131 : decode code 131 = .ok (.invokevirtual 43, 3) := by decide +kernel
theorem d_LW_law_134 : decode code 134 = .ok (.iload 5, 2) := by decide +kernel
theorem d_LW_law_136 : decode code 136 = .ok (.if_icmp .eq 5, 3) := by decide +kernel
theorem d_LW_law_139 : decode code 139 = .ok (.iconst 0, 1) := by decide +kernel
theorem d_LW_law_140 : decode code 140 = .ok (.ireturn, 1) := by decide +kernel
theorem d_LW_law_141 : decode code 141 = .ok (.goto 520, 3) := by decide +kernel
theorem d_LW_law_144 : decode code 144 = .ok (.aload_n 1, 1) := by decide +kernel
theorem d_LW_law_145 : decode code 145 = .ok (.aload_n 0, 1) := by decide +kernel
theorem d_LW_law_146 : decode code 146 = .ok (.iload 4, 2) := by decide +kernel
theorem d_LW_law_148 : decode code 148 = .ok (.iconst 1, 1) := by decide +kernel
theorem d_LW_law_149 : decode code 149 = .ok (.iadd, 1) := by decide +kernel
theorem d_LW_law_150 : decode code 150 = .ok (.iaload, 1) := by decide +kernel
theorem d_LW_law_151 : decode code 151 = .ok (.aload_n 0, 1) := by decide +kernel
theorem d_LW_law_152 : decode code 152 = .ok (.iload 4, 2) := by decide +kernel
theorem d_LW_law_154 : decode code 154 = .ok (.iconst 2, 1) := by decide +kernel
theorem d_LW_law_155 : decode code 155 = .ok (.iadd, 1) := by decide +kernel
theorem d_LW_law_156 : decode code 156 = .ok (.iaload, 1) := by decide +kernel
theorem d_LW_law_157 : decode code 157 = .ok (.aload_n 0, 1) := by decide +kernel
theorem d_LW_law_158 : decode code 158 = .ok (.iload 4, 2) := by decide +kernel
theorem d_LW_law_160 : decode code 160 = .ok (.iconst 3, 1) := by decide +kernel
theorem d_LW_law_161 : decode code 161 = .ok (.iadd, 1) := by decide +kernel
theorem d_LW_law_162 : decode code 162 = .ok (.iaload, 1) := by decide +kernel
theorem d_LW_law_163 : decode code 163 = .ok (.aload_n 0, 1) := by decide +kernel
theorem d_LW_law_164 : decode code 164 = .ok (.iload 4, 2) := by decide +kernel
theorem d_LW_law_166 : decode code 166 = .ok (.iconst 4, 1) := by decide +kernel
theorem d_LW_law_167 : decode code 167 = .ok (.iadd, 1) := by decide +kernel
theorem d_LW_law_168 : decode code 168 = .ok (.iaload, 1) := by decide +kernel
theorem d_LW_law_169 : decode code 169 = .ok (.invokestatic 47, 3) := by decide +kernel
theorem d_LW_law_172 : decode code 172 = .ok (.istore 5, 2) := by decide +kernel
theorem d_LW_law_174 : decode code 174 = .ok (.aload_n 2, 1) := by decide +kernel
theorem d_LW_law_175 : decode code 175 = .ok (.aload_n 0, 1) := by decide +kernel
theorem d_LW_law_176 : decode code 176 = .ok (.iload 4, 2) := by decide +kernel
theorem d_LW_law_178 : decode code 178 = .ok (.iconst 1, 1) := by decide +kernel
theorem d_LW_law_179 : decode code 179 = .ok (.iadd, 1) := by decide +kernel
theorem d_LW_law_180 : decode code 180 = .ok (.iaload, 1) := by decide +kernel
theorem d_LW_law_181 : decode code 181 = .ok (.aload_n 0, 1) := by decide +kernel
theorem d_LW_law_182 : decode code 182 = .ok (.iload 4, 2) := by decide +kernel
theorem d_LW_law_184 : decode code 184 = .ok (.iconst 2, 1) := by decide +kernel
theorem d_LW_law_185 : decode code 185 = .ok (.iadd, 1) := by decide +kernel
theorem d_LW_law_186 : decode code 186 = .ok (.iaload, 1) := by decide +kernel
theorem d_LW_law_187 : decode code 187 = .ok (.aload_n 0, 1) := by decide +kernel
theorem d_LW_law_188 : decode code 188 = .ok (.iload 4, 2) := by decide +kernel
theorem d_LW_law_190 : decode code 190 = .ok (.iconst 3, 1) := by decide +kernel
theorem d_LW_law_191 : decode code 191 = .ok (.iadd, 1) := by decide +kernel
theorem d_LW_law_192 : decode code 192 = .ok (.iaload, 1) := by decide +kernel
theorem d_LW_law_193 : decode code 193 = .ok (.aload_n 0, 1) := by decide +kernel
theorem d_LW_law_194 : decode code 194 = .ok (.iload 4, 2) := by decide +kernel
theorem d_LW_law_196 : decode code 196 = .ok (.iconst 4, 1) := by decide +kernel
theorem d_LW_law_197 : decode code 197 = .ok (.iadd, 1) := by decide +kernel
theorem d_LW_law_198 : decode code 198 = .ok (.iaload, 1) := by decide +kernel
theorem d_LW_law_199 : decode code 199 = .ok (.invokevirtual 50, 3) := by decide +kernel
theorem d_LW_law_202 : decode code 202 = .ok (.aload_n 2, 1) := by decide +kernel
theorem d_LW_law_203 : decode code 203 = .ok (.invokevirtual 43, 3) := by decide +kernel
theorem d_LW_law_206 : decode code 206 = .ok (.iload 5, 2) := by decide +kernel
theorem d_LW_law_208 : decode code 208 = .ok (.if_icmp .eq 5, 3) := by decide +kernel
theorem d_LW_law_211 : decode code 211 = .ok (.iconst 0, 1) := by decide +kernel
theorem d_LW_law_212 : decode code 212 = .ok (.ireturn, 1) := by decide +kernel
theorem d_LW_law_213 : decode code 213 = .ok (.goto 448, 3) := by decide +kernel
theorem d_LW_law_216 : decode code 216 = .ok (.aload_n 1, 1) := by decide +kernel
theorem d_LW_law_217 : decode code 217 = .ok (.aload_n 0, 1) := by decide +kernel
theorem d_LW_law_218 : decode code 218 = .ok (.iload 4, 2) := by decide +kernel
theorem d_LW_law_220 : decode code 220 = .ok (.iconst 1, 1) := by decide +kernel
theorem d_LW_law_221 : decode code 221 = .ok (.iadd, 1) := by decide +kernel
theorem d_LW_law_222 : decode code 222 = .ok (.iaload, 1) := by decide +kernel
theorem d_LW_law_223 : decode code 223 = .ok (.aload_n 0, 1) := by decide +kernel
theorem d_LW_law_224 : decode code 224 = .ok (.iload 4, 2) := by decide +kernel
theorem d_LW_law_226 : decode code 226 = .ok (.iconst 2, 1) := by decide +kernel
theorem d_LW_law_227 : decode code 227 = .ok (.iadd, 1) := by decide +kernel
theorem d_LW_law_228 : decode code 228 = .ok (.iaload, 1) := by decide +kernel
theorem d_LW_law_229 : decode code 229 = .ok (.aload_n 0, 1) := by decide +kernel
theorem d_LW_law_230 : decode code 230 = .ok (.iload 4, 2) := by decide +kernel
theorem d_LW_law_232 : decode code 232 = .ok (.iconst 3, 1) := by decide +kernel
theorem d_LW_law_233 : decode code 233 = .ok (.iadd, 1) := by decide +kernel
theorem d_LW_law_234 : decode code 234 = .ok (.iaload, 1) := by decide +kernel
theorem d_LW_law_235 : decode code 235 = .ok (.aload_n 0, 1) := by decide +kernel
theorem d_LW_law_236 : decode code 236 = .ok (.iload 4, 2) := by decide +kernel
theorem d_LW_law_238 : decode code 238 = .ok (.iconst 4, 1) := by decide +kernel
theorem d_LW_law_239 : decode code 239 = .ok (.iadd, 1) := by decide +kernel
theorem d_LW_law_240 : decode code 240 = .ok (.iaload, 1) := by decide +kernel
theorem d_LW_law_241 : decode code 241 = .ok (.invokevirtual 51, 3) := by decide +kernel
theorem d_LW_law_244 : decode code 244 = .ok (.aload_n 2, 1) := by decide +kernel
theorem d_LW_law_245 : decode code 245 = .ok (.aload_n 0, 1) := by decide +kernel
theorem d_LW_law_246 : decode code 246 = .ok (.iload 4, 2) := by decide +kernel
theorem d_LW_law_248 : decode code 248 = .ok (.iconst 1, 1) := by decide +kernel
theorem d_LW_law_249 : decode code 249 = .ok (.iadd, 1) := by decide +kernel
theorem d_LW_law_250 : decode code 250 = .ok (.iaload, 1) := by decide +kernel
theorem d_LW_law_251 : decode code 251 = .ok (.aload_n 0, 1) := by decide +kernel
theorem d_LW_law_252 : decode code 252 = .ok (.iload 4, 2) := by decide +kernel
theorem d_LW_law_254 : decode code 254 = .ok (.iconst 2, 1) := by decide +kernel
theorem d_LW_law_255 : decode code 255 = .ok (.iadd, 1) := by decide +kernel
theorem d_LW_law_256 : decode code 256 = .ok (.iaload, 1) := by decide +kernel
theorem d_LW_law_257 : decode code 257 = .ok (.aload_n 0, 1) := by decide +kernel
theorem d_LW_law_258 : decode code 258 = .ok (.iload 4, 2) := by decide +kernel
theorem d_LW_law_260 : decode code 260 = .ok (.iconst 3, 1) := by decide +kernel
theorem d_LW_law_261 : decode code 261 = .ok (.iadd, 1) := by decide +kernel
theorem d_LW_law_262 : decode code 262 = .ok (.iaload, 1) := by decide +kernel
theorem d_LW_law_263 : decode code 263 = .ok (.aload_n 0, 1) := by decide +kernel
theorem d_LW_law_264 : decode code 264 = .ok (.iload 4, 2) := by decide +kernel
theorem d_LW_law_266 : decode code 266 = .ok (.iconst 4, 1) := by decide +kernel
theorem d_LW_law_267 : decode code 267 = .ok (.iadd, 1) := by decide +kernel
theorem d_LW_law_268 : decode code 268 = .ok (.iaload, 1) := by decide +kernel
theorem d_LW_law_269 : decode code 269 = .ok (.invokevirtual 55, 3) := by decide +kernel
theorem d_LW_law_272 : decode code 272 = .ok (.if_icmp .eq 389, 3) := by decide +kernel
theorem d_LW_law_275 : decode code 275 = .ok (.iconst 0, 1) := by decide +kernel
theorem d_LW_law_276 : decode code 276 = .ok (.ireturn, 1) := by decide +kernel
theorem d_LW_law_277 : decode code 277 = .ok (.aload_n 1, 1) := by decide +kernel
theorem d_LW_law_278 : decode code 278 = .ok (.aload_n 0, 1) := by decide +kernel
theorem d_LW_law_279 : decode code 279 = .ok (.iload 4, 2) := by decide +kernel
theorem d_LW_law_281 : decode code 281 = .ok (.iconst 1, 1) := by decide +kernel
theorem d_LW_law_282 : decode code 282 = .ok (.iadd, 1) := by decide +kernel
theorem d_LW_law_283 : decode code 283 = .ok (.iaload, 1) := by decide +kernel
theorem d_LW_law_284 : decode code 284 = .ok (.aload_n 3, 1) := by decide +kernel
theorem d_LW_law_285 : decode code 285 = .ok (.invokestatic 56, 3) := by decide +kernel
theorem d_LW_law_288 : decode code 288 = .ok (.istore 5, 2) := by decide +kernel
theorem d_LW_law_290 : decode code 290 = .ok (.aload_n 2, 1) := by decide +kernel
theorem d_LW_law_291 : decode code 291 = .ok (.aload_n 0, 1) := by decide +kernel
theorem d_LW_law_292 : decode code 292 = .ok (.iload 4, 2) := by decide +kernel
theorem d_LW_law_294 : decode code 294 = .ok (.iconst 1, 1) := by decide +kernel
theorem d_LW_law_295 : decode code 295 = .ok (.iadd, 1) := by decide +kernel
theorem d_LW_law_296 : decode code 296 = .ok (.iaload, 1) := by decide +kernel
theorem d_LW_law_297 : decode code 297 = .ok (.invokevirtual 59, 3) := by decide +kernel
theorem d_LW_law_300 : decode code 300 = .ok (.istore 6, 2) := by decide +kernel
theorem d_LW_law_302 : decode code 302 = .ok (.aload_n 2, 1) := by decide +kernel
theorem d_LW_law_303 : decode code 303 = .ok (.invokevirtual 43, 3) := by decide +kernel
theorem d_LW_law_306 : decode code 306 = .ok (.iload 5, 2) := by decide +kernel
theorem d_LW_law_308 : decode code 308 = .ok (.if_icmp .eq 5, 3) := by decide +kernel
theorem d_LW_law_311 : decode code 311 = .ok (.iconst 0, 1) := by decide +kernel
theorem d_LW_law_312 : decode code 312 = .ok (.ireturn, 1) := by decide +kernel
theorem d_LW_law_313 : decode code 313 = .ok (.iload 5, 2) := by decide +kernel
theorem d_LW_law_315 : decode code 315 = .ok (.ifCond .ne 15, 3) := by decide +kernel
theorem d_LW_law_318 : decode code 318 = .ok (.aload_n 3, 1) := by decide +kernel
theorem d_LW_law_319 : decode code 319 = .ok (.iconst 0, 1) := by decide +kernel
theorem d_LW_law_320 : decode code 320 = .ok (.laload, 1) := by decide +kernel
theorem d_LW_law_321 : decode code 321 = .ok (.iload 6, 2) := by decide +kernel
theorem d_LW_law_323 : decode code 323 = .ok (.i2l, 1) := by decide +kernel
theorem d_LW_law_324 : decode code 324 = .ok (.lcmp, 1) := by decide +kernel
theorem d_LW_law_325 : decode code 325 = .ok (.ifCond .eq 5, 3) := by decide +kernel
theorem d_LW_law_328 : decode code 328 = .ok (.iconst 0, 1) := by decide +kernel
theorem d_LW_law_329 : decode code 329 = .ok (.ireturn, 1) := by decide +kernel
theorem d_LW_law_330 : decode code 330 = .ok (.goto 331, 3) := by decide +kernel
theorem d_LW_law_333 : decode code 333 = .ok (.aload_n 1, 1) := by decide +kernel
theorem d_LW_law_334 : decode code 334 = .ok (.aload_n 0, 1) := by decide +kernel
theorem d_LW_law_335 : decode code 335 = .ok (.iload 4, 2) := by decide +kernel
theorem d_LW_law_337 : decode code 337 = .ok (.iconst 1, 1) := by decide +kernel
theorem d_LW_law_338 : decode code 338 = .ok (.iadd, 1) := by decide +kernel
theorem d_LW_law_339 : decode code 339 = .ok (.iaload, 1) := by decide +kernel
theorem d_LW_law_340 : decode code 340 = .ok (.aload_n 0, 1) := by decide +kernel
theorem d_LW_law_341 : decode code 341 = .ok (.iload 4, 2) := by decide +kernel
theorem d_LW_law_343 : decode code 343 = .ok (.iconst 2, 1) := by decide +kernel
theorem d_LW_law_344 : decode code 344 = .ok (.iadd, 1) := by decide +kernel
theorem d_LW_law_345 : decode code 345 = .ok (.iaload, 1) := by decide +kernel
theorem d_LW_law_346 : decode code 346 = .ok (.invokestatic 60, 3) := by decide +kernel
theorem d_LW_law_349 : decode code 349 = .ok (.istore 5, 2) := by decide +kernel
theorem d_LW_law_351 : decode code 351 = .ok (.aload_n 2, 1) := by decide +kernel
theorem d_LW_law_352 : decode code 352 = .ok (.aload_n 0, 1) := by decide +kernel
theorem d_LW_law_353 : decode code 353 = .ok (.iload 4, 2) := by decide +kernel
theorem d_LW_law_355 : decode code 355 = .ok (.iconst 1, 1) := by decide +kernel
theorem d_LW_law_356 : decode code 356 = .ok (.iadd, 1) := by decide +kernel
theorem d_LW_law_357 : decode code 357 = .ok (.iaload, 1) := by decide +kernel
theorem d_LW_law_358 : decode code 358 = .ok (.aload_n 0, 1) := by decide +kernel
theorem d_LW_law_359 : decode code 359 = .ok (.iload 4, 2) := by decide +kernel
theorem d_LW_law_361 : decode code 361 = .ok (.iconst 2, 1) := by decide +kernel
theorem d_LW_law_362 : decode code 362 = .ok (.iadd, 1) := by decide +kernel
theorem d_LW_law_363 : decode code 363 = .ok (.iaload, 1) := by decide +kernel
theorem d_LW_law_364 : decode code 364 = .ok (.invokevirtual 63, 3) := by decide +kernel
theorem d_LW_law_367 : decode code 367 = .ok (.aload_n 2, 1) := by decide +kernel
theorem d_LW_law_368 : decode code 368 = .ok (.invokevirtual 43, 3) := by decide +kernel
theorem d_LW_law_371 : decode code 371 = .ok (.iload 5, 2) := by decide +kernel
theorem d_LW_law_373 : decode code 373 = .ok (.if_icmp .eq 5, 3) := by decide +kernel
theorem d_LW_law_376 : decode code 376 = .ok (.iconst 0, 1) := by decide +kernel
theorem d_LW_law_377 : decode code 377 = .ok (.ireturn, 1) := by decide +kernel
theorem d_LW_law_378 : decode code 378 = .ok (.goto 283, 3) := by decide +kernel
theorem d_LW_law_381 : decode code 381 = .ok (.aload_n 1, 1) := by decide +kernel
theorem d_LW_law_382 : decode code 382 = .ok (.aload_n 0, 1) := by decide +kernel
theorem d_LW_law_383 : decode code 383 = .ok (.iload 4, 2) := by decide +kernel
theorem d_LW_law_385 : decode code 385 = .ok (.iconst 1, 1) := by decide +kernel
theorem d_LW_law_386 : decode code 386 = .ok (.iadd, 1) := by decide +kernel
theorem d_LW_law_387 : decode code 387 = .ok (.iaload, 1) := by decide +kernel
theorem d_LW_law_388 : decode code 388 = .ok (.aload_n 0, 1) := by decide +kernel
theorem d_LW_law_389 : decode code 389 = .ok (.iload 4, 2) := by decide +kernel
theorem d_LW_law_391 : decode code 391 = .ok (.iconst 2, 1) := by decide +kernel
theorem d_LW_law_392 : decode code 392 = .ok (.iadd, 1) := by decide +kernel
theorem d_LW_law_393 : decode code 393 = .ok (.iaload, 1) := by decide +kernel
theorem d_LW_law_394 : decode code 394 = .ok (.aload_n 0, 1) := by decide +kernel
theorem d_LW_law_395 : decode code 395 = .ok (.iload 4, 2) := by decide +kernel
theorem d_LW_law_397 : decode code 397 = .ok (.iconst 3, 1) := by decide +kernel
theorem d_LW_law_398 : decode code 398 = .ok (.iadd, 1) := by decide +kernel
theorem d_LW_law_399 : decode code 399 = .ok (.iaload, 1) := by decide +kernel
theorem d_LW_law_400 : decode code 400 = .ok (.aload_n 3, 1) := by decide +kernel
theorem d_LW_law_401 : decode code 401 = .ok (.invokestatic 64, 3) := by decide +kernel
theorem d_LW_law_404 : decode code 404 = .ok (.istore 5, 2) := by decide +kernel
theorem d_LW_law_406 : decode code 406 = .ok (.aload_n 2, 1) := by decide +kernel
theorem d_LW_law_407 : decode code 407 = .ok (.aload_n 0, 1) := by decide +kernel
theorem d_LW_law_408 : decode code 408 = .ok (.iload 4, 2) := by decide +kernel
theorem d_LW_law_410 : decode code 410 = .ok (.iconst 1, 1) := by decide +kernel
theorem d_LW_law_411 : decode code 411 = .ok (.iadd, 1) := by decide +kernel
theorem d_LW_law_412 : decode code 412 = .ok (.iaload, 1) := by decide +kernel
theorem d_LW_law_413 : decode code 413 = .ok (.aload_n 0, 1) := by decide +kernel
theorem d_LW_law_414 : decode code 414 = .ok (.iload 4, 2) := by decide +kernel
theorem d_LW_law_416 : decode code 416 = .ok (.iconst 2, 1) := by decide +kernel
theorem d_LW_law_417 : decode code 417 = .ok (.iadd, 1) := by decide +kernel
theorem d_LW_law_418 : decode code 418 = .ok (.iaload, 1) := by decide +kernel
theorem d_LW_law_419 : decode code 419 = .ok (.aload_n 0, 1) := by decide +kernel
theorem d_LW_law_420 : decode code 420 = .ok (.iload 4, 2) := by decide +kernel
theorem d_LW_law_422 : decode code 422 = .ok (.iconst 3, 1) := by decide +kernel
theorem d_LW_law_423 : decode code 423 = .ok (.iadd, 1) := by decide +kernel
theorem d_LW_law_424 : decode code 424 = .ok (.iaload, 1) := by decide +kernel
theorem d_LW_law_425 : decode code 425 = .ok (.invokevirtual 67, 3) := by decide +kernel
theorem d_LW_law_428 : decode code 428 = .ok (.istore 6, 2) := by decide +kernel
theorem d_LW_law_430 : decode code 430 = .ok (.aload_n 2, 1) := by decide +kernel
theorem d_LW_law_431 : decode code 431 = .ok (.invokevirtual 43, 3) := by decide +kernel
theorem d_LW_law_434 : decode code 434 = .ok (.iload 5, 2) := by decide +kernel
theorem d_LW_law_436 : decode code 436 = .ok (.if_icmp .eq 5, 3) := by decide +kernel
theorem d_LW_law_439 : decode code 439 = .ok (.iconst 0, 1) := by decide +kernel
theorem d_LW_law_440 : decode code 440 = .ok (.ireturn, 1) := by decide +kernel
theorem d_LW_law_441 : decode code 441 = .ok (.iload 5, 2) := by decide +kernel
theorem d_LW_law_443 : decode code 443 = .ok (.ifCond .ne 15, 3) := by decide +kernel
theorem d_LW_law_446 : decode code 446 = .ok (.aload_n 3, 1) := by decide +kernel
theorem d_LW_law_447 : decode code 447 = .ok (.iconst 0, 1) := by decide +kernel
theorem d_LW_law_448 : decode code 448 = .ok (.laload, 1) := by decide +kernel
theorem d_LW_law_449 : decode code 449 = .ok (.iload 6, 2) := by decide +kernel
theorem d_LW_law_451 : decode code 451 = .ok (.i2l, 1) := by decide +kernel
theorem d_LW_law_452 : decode code 452 = .ok (.lcmp, 1) := by decide +kernel
theorem d_LW_law_453 : decode code 453 = .ok (.ifCond .eq 5, 3) := by decide +kernel
theorem d_LW_law_456 : decode code 456 = .ok (.iconst 0, 1) := by decide +kernel
theorem d_LW_law_457 : decode code 457 = .ok (.ireturn, 1) := by decide +kernel
theorem d_LW_law_458 : decode code 458 = .ok (.goto 203, 3) := by decide +kernel
theorem d_LW_law_461 : decode code 461 = .ok (.aload_n 1, 1) := by decide +kernel
theorem d_LW_law_462 : decode code 462 = .ok (.aload_n 0, 1) := by decide +kernel
theorem d_LW_law_463 : decode code 463 = .ok (.iload 4, 2) := by decide +kernel
theorem d_LW_law_465 : decode code 465 = .ok (.iconst 1, 1) := by decide +kernel
theorem d_LW_law_466 : decode code 466 = .ok (.iadd, 1) := by decide +kernel
theorem d_LW_law_467 : decode code 467 = .ok (.iaload, 1) := by decide +kernel
theorem d_LW_law_468 : decode code 468 = .ok (.invokevirtual 68, 3) := by decide +kernel
theorem d_LW_law_471 : decode code 471 = .ok (.aload_n 2, 1) := by decide +kernel
theorem d_LW_law_472 : decode code 472 = .ok (.aload_n 0, 1) := by decide +kernel
theorem d_LW_law_473 : decode code 473 = .ok (.iload 4, 2) := by decide +kernel
theorem d_LW_law_475 : decode code 475 = .ok (.iconst 1, 1) := by decide +kernel
theorem d_LW_law_476 : decode code 476 = .ok (.iadd, 1) := by decide +kernel
theorem d_LW_law_477 : decode code 477 = .ok (.iaload, 1) := by decide +kernel
theorem d_LW_law_478 : decode code 478 = .ok (.invokevirtual 71, 3) := by decide +kernel
theorem d_LW_law_481 : decode code 481 = .ok (.if_icmp .eq 180, 3) := by decide +kernel
theorem d_LW_law_484 : decode code 484 = .ok (.iconst 0, 1) := by decide +kernel
theorem d_LW_law_485 : decode code 485 = .ok (.ireturn, 1) := by decide +kernel
theorem d_LW_law_486 : decode code 486 = .ok (.aload_n 1, 1) := by decide +kernel
theorem d_LW_law_487 : decode code 487 = .ok (.aload_n 0, 1) := by decide +kernel
theorem d_LW_law_488 : decode code 488 = .ok (.iload 4, 2) := by decide +kernel
theorem d_LW_law_490 : decode code 490 = .ok (.iconst 1, 1) := by decide +kernel
theorem d_LW_law_491 : decode code 491 = .ok (.iadd, 1) := by decide +kernel
theorem d_LW_law_492 : decode code 492 = .ok (.iaload, 1) := by decide +kernel
theorem d_LW_law_493 : decode code 493 = .ok (.aload_n 0, 1) := by decide +kernel
theorem d_LW_law_494 : decode code 494 = .ok (.iload 4, 2) := by decide +kernel
theorem d_LW_law_496 : decode code 496 = .ok (.iconst 2, 1) := by decide +kernel
theorem d_LW_law_497 : decode code 497 = .ok (.iadd, 1) := by decide +kernel
theorem d_LW_law_498 : decode code 498 = .ok (.iaload, 1) := by decide +kernel
theorem d_LW_law_499 : decode code 499 = .ok (.invokevirtual 72, 3) := by decide +kernel
theorem d_LW_law_502 : decode code 502 = .ok (.aload_n 2, 1) := by decide +kernel
theorem d_LW_law_503 : decode code 503 = .ok (.aload_n 0, 1) := by decide +kernel
theorem d_LW_law_504 : decode code 504 = .ok (.iload 4, 2) := by decide +kernel
theorem d_LW_law_506 : decode code 506 = .ok (.iconst 1, 1) := by decide +kernel
theorem d_LW_law_507 : decode code 507 = .ok (.iadd, 1) := by decide +kernel
theorem d_LW_law_508 : decode code 508 = .ok (.iaload, 1) := by decide +kernel
theorem d_LW_law_509 : decode code 509 = .ok (.aload_n 0, 1) := by decide +kernel
theorem d_LW_law_510 : decode code 510 = .ok (.iload 4, 2) := by decide +kernel
theorem d_LW_law_512 : decode code 512 = .ok (.iconst 2, 1) := by decide +kernel
theorem d_LW_law_513 : decode code 513 = .ok (.iadd, 1) := by decide +kernel
theorem d_LW_law_514 : decode code 514 = .ok (.iaload, 1) := by decide +kernel
theorem d_LW_law_515 : decode code 515 = .ok (.invokevirtual 76, 3) := by decide +kernel
theorem d_LW_law_518 : decode code 518 = .ok (.if_icmp .eq 143, 3) := by decide +kernel
theorem d_LW_law_521 : decode code 521 = .ok (.iconst 0, 1) := by decide +kernel
theorem d_LW_law_522 : decode code 522 = .ok (.ireturn, 1) := by decide +kernel
theorem d_LW_law_523 : decode code 523 = .ok (.aload_n 1, 1) := by decide +kernel
theorem d_LW_law_524 : decode code 524 = .ok (.invokevirtual 77, 3) := by decide +kernel
theorem d_LW_law_527 : decode code 527 = .ok (.aload_n 2, 1) := by decide +kernel
theorem d_LW_law_528 : decode code 528 = .ok (.invokevirtual 80, 3) := by decide +kernel
theorem d_LW_law_531 : decode code 531 = .ok (.if_icmp .eq 130, 3) := by decide +kernel
theorem d_LW_law_534 : decode code 534 = .ok (.iconst 0, 1) := by decide +kernel
theorem d_LW_law_535 : decode code 535 = .ok (.ireturn, 1) := by decide +kernel
theorem d_LW_law_536 : decode code 536 = .ok (.aload_n 1, 1) := by decide +kernel
theorem d_LW_law_537 : decode code 537 = .ok (.aload_n 0, 1) := by decide +kernel
theorem d_LW_law_538 : decode code 538 = .ok (.iload 4, 2) := by decide +kernel
theorem d_LW_law_540 : decode code 540 = .ok (.iconst 1, 1) := by decide +kernel
theorem d_LW_law_541 : decode code 541 = .ok (.iadd, 1) := by decide +kernel
theorem d_LW_law_542 : decode code 542 = .ok (.iaload, 1) := by decide +kernel
theorem d_LW_law_543 : decode code 543 = .ok (.aload_n 0, 1) := by decide +kernel
theorem d_LW_law_544 : decode code 544 = .ok (.iload 4, 2) := by decide +kernel
theorem d_LW_law_546 : decode code 546 = .ok (.iconst 2, 1) := by decide +kernel
theorem d_LW_law_547 : decode code 547 = .ok (.iadd, 1) := by decide +kernel
theorem d_LW_law_548 : decode code 548 = .ok (.iaload, 1) := by decide +kernel
theorem d_LW_law_549 : decode code 549 = .ok (.invokevirtual 81, 3) := by decide +kernel
theorem d_LW_law_552 : decode code 552 = .ok (.aload_n 2, 1) := by decide +kernel
theorem d_LW_law_553 : decode code 553 = .ok (.aload_n 0, 1) := by decide +kernel
theorem d_LW_law_554 : decode code 554 = .ok (.iload 4, 2) := by decide +kernel
theorem d_LW_law_556 : decode code 556 = .ok (.iconst 1, 1) := by decide +kernel
theorem d_LW_law_557 : decode code 557 = .ok (.iadd, 1) := by decide +kernel
theorem d_LW_law_558 : decode code 558 = .ok (.iaload, 1) := by decide +kernel
theorem d_LW_law_559 : decode code 559 = .ok (.aload_n 0, 1) := by decide +kernel
theorem d_LW_law_560 : decode code 560 = .ok (.iload 4, 2) := by decide +kernel
theorem d_LW_law_562 : decode code 562 = .ok (.iconst 2, 1) := by decide +kernel
theorem d_LW_law_563 : decode code 563 = .ok (.iadd, 1) := by decide +kernel
theorem d_LW_law_564 : decode code 564 = .ok (.iaload, 1) := by decide +kernel
theorem d_LW_law_565 : decode code 565 = .ok (.invokevirtual 85, 3) := by decide +kernel
theorem d_LW_law_568 : decode code 568 = .ok (.if_icmp .eq 93, 3) := by decide +kernel
theorem d_LW_law_571 : decode code 571 = .ok (.iconst 0, 1) := by decide +kernel
theorem d_LW_law_572 : decode code 572 = .ok (.ireturn, 1) := by decide +kernel
theorem d_LW_law_573 : decode code 573 = .ok (.aload_n 1, 1) := by decide +kernel
theorem d_LW_law_574 : decode code 574 = .ok (.aload_n 0, 1) := by decide +kernel
theorem d_LW_law_575 : decode code 575 = .ok (.iload 4, 2) := by decide +kernel
theorem d_LW_law_577 : decode code 577 = .ok (.iconst 1, 1) := by decide +kernel
theorem d_LW_law_578 : decode code 578 = .ok (.iadd, 1) := by decide +kernel
theorem d_LW_law_579 : decode code 579 = .ok (.iaload, 1) := by decide +kernel
theorem d_LW_law_580 : decode code 580 = .ok (.invokevirtual 86, 3) := by decide +kernel
theorem d_LW_law_583 : decode code 583 = .ok (.aload_n 2, 1) := by decide +kernel
theorem d_LW_law_584 : decode code 584 = .ok (.aload_n 0, 1) := by decide +kernel
theorem d_LW_law_585 : decode code 585 = .ok (.iload 4, 2) := by decide +kernel
theorem d_LW_law_587 : decode code 587 = .ok (.iconst 1, 1) := by decide +kernel
theorem d_LW_law_588 : decode code 588 = .ok (.iadd, 1) := by decide +kernel
theorem d_LW_law_589 : decode code 589 = .ok (.iaload, 1) := by decide +kernel
theorem d_LW_law_590 : decode code 590 = .ok (.invokevirtual 89, 3) := by decide +kernel
theorem d_LW_law_593 : decode code 593 = .ok (.if_icmp .eq 68, 3) := by decide +kernel
theorem d_LW_law_596 : decode code 596 = .ok (.iconst 0, 1) := by decide +kernel
theorem d_LW_law_597 : decode code 597 = .ok (.ireturn, 1) := by decide +kernel
theorem d_LW_law_598 : decode code 598 = .ok (.aload_n 1, 1) := by decide +kernel
theorem d_LW_law_599 : decode code 599 = .ok (.aload_n 0, 1) := by decide +kernel
theorem d_LW_law_600 : decode code 600 = .ok (.iload 4, 2) := by decide +kernel
theorem d_LW_law_602 : decode code 602 = .ok (.iconst 1, 1) := by decide +kernel
theorem d_LW_law_603 : decode code 603 = .ok (.iadd, 1) := by decide +kernel
theorem d_LW_law_604 : decode code 604 = .ok (.iaload, 1) := by decide +kernel
theorem d_LW_law_605 : decode code 605 = .ok (.invokevirtual 90, 3) := by decide +kernel
theorem d_LW_law_608 : decode code 608 = .ok (.aload_n 2, 1) := by decide +kernel
theorem d_LW_law_609 : decode code 609 = .ok (.aload_n 0, 1) := by decide +kernel
theorem d_LW_law_610 : decode code 610 = .ok (.iload 4, 2) := by decide +kernel
theorem d_LW_law_612 : decode code 612 = .ok (.iconst 1, 1) := by decide +kernel
theorem d_LW_law_613 : decode code 613 = .ok (.iadd, 1) := by decide +kernel
theorem d_LW_law_614 : decode code 614 = .ok (.iaload, 1) := by decide +kernel
theorem d_LW_law_615 : decode code 615 = .ok (.invokevirtual 93, 3) := by decide +kernel
theorem d_LW_law_618 : decode code 618 = .ok (.if_icmp .eq 43, 3) := by decide +kernel
theorem d_LW_law_621 : decode code 621 = .ok (.iconst 0, 1) := by decide +kernel
theorem d_LW_law_622 : decode code 622 = .ok (.ireturn, 1) := by decide +kernel
theorem d_LW_law_623 : decode code 623 = .ok (.aload_n 1, 1) := by decide +kernel
theorem d_LW_law_624 : decode code 624 = .ok (.aload_n 0, 1) := by decide +kernel
theorem d_LW_law_625 : decode code 625 = .ok (.iload 4, 2) := by decide +kernel
theorem d_LW_law_627 : decode code 627 = .ok (.iconst 1, 1) := by decide +kernel
theorem d_LW_law_628 : decode code 628 = .ok (.iadd, 1) := by decide +kernel
theorem d_LW_law_629 : decode code 629 = .ok (.iaload, 1) := by decide +kernel
theorem d_LW_law_630 : decode code 630 = .ok (.invokevirtual 94, 3) := by decide +kernel
theorem d_LW_law_633 : decode code 633 = .ok (.aload_n 2, 1) := by decide +kernel
theorem d_LW_law_634 : decode code 634 = .ok (.aload_n 0, 1) := by decide +kernel
theorem d_LW_law_635 : decode code 635 = .ok (.iload 4, 2) := by decide +kernel
theorem d_LW_law_637 : decode code 637 = .ok (.iconst 1, 1) := by decide +kernel
theorem d_LW_law_638 : decode code 638 = .ok (.iadd, 1) := by decide +kernel
theorem d_LW_law_639 : decode code 639 = .ok (.iaload, 1) := by decide +kernel
theorem d_LW_law_640 : decode code 640 = .ok (.invokevirtual 97, 3) := by decide +kernel
theorem d_LW_law_643 : decode code 643 = .ok (.if_icmp .eq 18, 3) := by decide +kernel
theorem d_LW_law_646 : decode code 646 = .ok (.iconst 0, 1) := by decide +kernel
theorem d_LW_law_647 : decode code 647 = .ok (.ireturn, 1) := by decide +kernel
theorem d_LW_law_648 : decode code 648 = .ok (.aload_n 1, 1) := by decide +kernel
theorem d_LW_law_649 : decode code 649 = .ok (.invokevirtual 98, 3) := by decide +kernel
theorem d_LW_law_652 : decode code 652 = .ok (.aload_n 2, 1) := by decide +kernel
theorem d_LW_law_653 : decode code 653 = .ok (.invokevirtual 102, 3) := by decide +kernel
theorem d_LW_law_656 : decode code 656 = .ok (.if_icmp .eq 5, 3) := by decide +kernel
theorem d_LW_law_659 : decode code 659 = .ok (.iconst 0, 1) := by decide +kernel
theorem d_LW_law_660 : decode code 660 = .ok (.ireturn, 1) := by decide +kernel
theorem d_LW_law_661 : decode code 661 = .ok (.iinc 4 5, 3) := by decide +kernel
theorem d_LW_law_664 : decode code 664 = .ok (.goto (-641), 3) := by decide +kernel
theorem d_LW_law_667 : decode code 667 = .ok (.iconst 1, 1) := by decide +kernel
theorem d_LW_law_668 : decode code 668 = .ok (.ireturn, 1) := by decide +kernel

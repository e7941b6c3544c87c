abbrev c_Lw_law : ByteArray := code
theorem d_Lw_law_0 : decode c_Lw_law 0 = .ok (.new 8, 3) := by decide +kernel
theorem d_Lw_law_3 : decode c_Lw_law 3 = .ok (.dup, 1) := by decide +kernel
theorem d_Lw_law_4 : decode c_Lw_law 4 = .ok (.aload_n 0, 1) := by decide +kernel
theorem d_Lw_law_5 : decode c_Lw_law 5 = .ok (.iconst 0, 1) := by decide +kernel
theorem d_Lw_law_6 : decode c_Lw_law 6 = .ok (.invokestatic 15, 3) := by decide +kernel
theorem d_Lw_law_9 : decode c_Lw_law 9 = .ok (.invokespecial 21, 3) := by decide +kernel
theorem d_Lw_law_12 : decode c_Lw_law 12 = .ok (.astore_n 1, 1) := by decide +kernel
theorem d_Lw_law_13 : decode c_Lw_law 13 = .ok (.new 24, 3) := by decide +kernel
theorem d_Lw_law_16 : decode c_Lw_law 16 = .ok (.dup, 1) := by decide +kernel
theorem d_Lw_law_17 : decode c_Lw_law 17 = .ok (.aload_n 0, 1) := by decide +kernel
theorem d_Lw_law_18 : decode c_Lw_law 18 = .ok (.iconst 0, 1) := by decide +kernel
theorem d_Lw_law_19 : decode c_Lw_law 19 = .ok (.invokestatic 15, 3) := by decide +kernel
theorem d_Lw_law_22 : decode c_Lw_law 22 = .ok (.invokespecial 26, 3) := by decide +kernel
theorem d_Lw_law_25 : decode c_Lw_law 25 = .ok (.astore_n 2, 1) := by decide +kernel
theorem d_Lw_law_26 : decode c_Lw_law 26 = .ok (.iconst 1, 1) := by decide +kernel
theorem d_Lw_law_27 : decode c_Lw_law 27 = .ok (.newarray .long, 2) := by decide +kernel
theorem d_Lw_law_29 : decode c_Lw_law 29 = .ok (.astore_n 3, 1) := by decide +kernel
theorem d_Lw_law_30 : decode c_Lw_law 30 = .ok (.iconst 1, 1) := by decide +kernel
theorem d_Lw_law_31 : decode c_Lw_law 31 = .ok (.istore 4, 2) := by decide +kernel
theorem d_Lw_law_33 : decode c_Lw_law 33 = .ok (.iload 4, 2) := by decide +kernel
theorem d_Lw_law_35 : decode c_Lw_law 35 = .ok (.aload_n 0, 1) := by decide +kernel
theorem d_Lw_law_36 : decode c_Lw_law 36 = .ok (.arraylength, 1) := by decide +kernel
theorem d_Lw_law_37 : decode c_Lw_law 37 = .ok (.iconst 4, 1) := by decide +kernel
theorem d_Lw_law_38 : decode c_Lw_law 38 = .ok (.isub, 1) := by decide +kernel
theorem d_Lw_law_39 : decode c_Lw_law 39 = .ok (.if_icmp .gt 558, 3) := by decide +kernel
theorem d_Lw_law_42 : decode c_Lw_law 42 = .ok (.aload_n 0, 1) := by decide +kernel
theorem d_Lw_law_43 : decode c_Lw_law 43 = .ok (.iload 4, 2) := by decide +kernel
theorem d_Lw_law_45 : decode c_Lw_law 45 = .ok (.iaload, 1) := by decide +kernel
theorem d_Lw_law_46 : decode c_Lw_law 46 = .ok (.bipush 15, 2) := by decide +kernel
theorem d_Lw_law_48 : decode c_Lw_law 48 = .ok (.iand, 1) := by decide +kernel
theorem d_Lw_law_49 : decode c_Lw_law 49 = .ok (.tableswitch 542 0 10 #[59, 128, 177, 226, 291, 317, 386, 411, 437, 504, 529], 59) := by decide +kernel
theorem d_Lw_law_108 : decode c_Lw_law 108 = .ok (.aload_n 1, 1) := by decide +kernel
theorem d_Lw_law_109 : decode c_Lw_law 109 = .ok (.aload_n 0, 1) := by decide +kernel
theorem d_Lw_law_110 : decode c_Lw_law 110 = .ok (.iload 4, 2) := by decide +kernel
theorem d_Lw_law_112 : decode c_Lw_law 112 = .ok (.iconst 1, 1) := by decide +kernel
theorem d_Lw_law_113 : decode c_Lw_law 113 = .ok (.iadd, 1) := by decide +kernel
theorem d_Lw_law_114 : decode c_Lw_law 114 = .ok (.iaload, 1) := by decide +kernel
theorem d_Lw_law_115 : decode c_Lw_law 115 = .ok (.i2l, 1) := by decide +kernel
theorem d_Lw_law_116 : decode c_Lw_law 116 = .ok (.bipush 32, 2) := by decide +kernel
theorem d_Lw_law_118 : decode c_Lw_law 118 = .ok (.lshl, 1) := by decide +kernel
theorem d_Lw_law_119 : decode c_Lw_law 119 = .ok (.aload_n 0, 1) := by decide +kernel
theorem d_Lw_law_120 : decode c_Lw_law 120 = .ok (.iload 4, 2) := by decide +kernel
theorem d_Lw_law_122 : decode c_Lw_law 122 = .ok (.iconst 2, 1) := by decide +kernel
theorem d_Lw_law_123 : decode c_Lw_law 123 = .ok (.iadd, 1) := by decide +kernel
theorem d_Lw_law_124 : decode c_Lw_law 124 = .ok (.iaload, 1) := by decide +kernel
theorem d_Lw_law_125 : decode c_Lw_law 125 = .ok (.i2l, 1) := by decide +kernel
theorem d_Lw_law_126 : decode c_Lw_law 126 = .ok (.ldc2_w 27, 3) := by decide +kernel
theorem d_Lw_law_129 : decode c_Lw_law 129 = .ok (.land, 1) := by decide +kernel
theorem d_Lw_law_130 : decode c_Lw_law 130 = .ok (.lor, 1) := by decide +kernel
theorem d_Lw_law_131 : decode c_Lw_law 131 = .ok (.aload_n 0, 1) := by decide +kernel
theorem d_Lw_law_132 : decode c_Lw_law 132 = .ok (.iload 4, 2) := by decide +kernel
theorem d_Lw_law_134 : decode c_Lw_law 134 = .ok (.iconst 3, 1) := by decide +kernel
theorem d_Lw_law_135 : decode c_Lw_law 135 = .ok (.iadd, 1) := by decide +kernel
theorem d_Lw_law_136 : decode c_Lw_law 136 = .ok (.iaload, 1) := by decide +kernel
theorem d_Lw_law_137 : decode c_Lw_law 137 = .ok (.invokevirtual 29, 3) := by decide +kernel
theorem d_Lw_law_140 : decode c_Lw_law 140 = .ok (.aload_n 2, 1) := by decide +kernel
theorem d_Lw_law_141 : decode c_Lw_law 141 = .ok (.aload_n 0, 1) := by decide +kernel
theorem d_Lw_law_142 : decode c_Lw_law 142 = .ok (.iload 4, 2) := by decide +kernel
theorem d_Lw_law_144 : decode c_Lw_law 144 = .ok (.iconst 1, 1) := by decide +kernel
theorem d_Lw_law_145 : decode c_Lw_law 145 = .ok (.iadd, 1) := by decide +kernel
theorem d_Lw_law_146 : decode c_Lw_law 146 = .ok (.iaload, 1) := by decide +kernel
theorem d_Lw_law_147 : decode c_Lw_law 147 = .ok (.i2l, 1) := by decide +kernel
theorem d_Lw_law_148 : decode c_Lw_law 148 = .ok (.bipush 32, 2) := by decide +kernel
theorem d_Lw_law_150 : decode c_Lw_law 150 = .ok (.lshl, 1) := by decide +kernel
theorem d_Lw_law_151 : decode c_Lw_law 151 = .ok (.aload_n 0, 1) := by decide +kernel
theorem d_Lw_law_152 : decode c_Lw_law 152 = .ok (.iload 4, 2) := by decide +kernel
theorem d_Lw_law_154 : decode c_Lw_law 154 = .ok (.iconst 2, 1) := by decide +kernel
theorem d_Lw_law_155 : decode c_Lw_law 155 = .ok (.iadd, 1) := by decide +kernel
theorem d_Lw_law_156 : decode c_Lw_law 156 = .ok (.iaload, 1) := by decide +kernel
theorem d_Lw_law_157 : decode c_Lw_law 157 = .ok (.i2l, 1) := by decide +kernel
theorem d_Lw_law_158 : decode c_Lw_law 158 = .ok (.ldc2_w 27, 3) := by decide +kernel
theorem d_Lw_law_161 : decode c_Lw_law 161 = .ok (.land, 1) := by decide +kernel
theorem d_Lw_law_162 : decode c_Lw_law 162 = .ok (.lor, 1) := by decide +kernel
theorem d_Lw_law_163 : decode c_Lw_law 163 = .ok (.aload_n 0, 1) := by decide +kernel
theorem d_Lw_law_164 : decode c_Lw_law 164 = .ok (.iload 4, 2) := by decide +kernel
theorem d_Lw_law_166 : decode c_Lw_law 166 = .ok (.iconst 3, 1) := by decide +kernel
theorem d_Lw_law_167 : decode c_Lw_law 167 = .ok (.iadd, 1) := by decide +kernel
theorem d_Lw_law_168 : decode c_Lw_law 168 = .ok (.iaload, 1) := by decide +kernel
theorem d_Lw_law_169 : decode c_Lw_law 169 = .ok (.invokevirtual 33, 3) := by decide +kernel
theorem d_Lw_law_172 : decode c_Lw_law 172 = .ok (.if_icmp .eq 419, 3) := by decide +kernel
theorem d_Lw_law_175 : decode c_Lw_law 175 = .ok (.iconst 0, 1) := by decide +kernel
theorem d_Lw_law_176 : decode c_Lw_law 176 = .ok (.ireturn, 1) := by decide +kernel
theorem d_Lw_law_177 : decode c_Lw_law 177 = .ok (.aload_n 1, 1) := by decide +kernel
theorem d_Lw_law_178 : decode c_Lw_law 178 = .ok (.aload_n 0, 1) := by decide +kernel
theorem d_Lw_law_179 : decode c_Lw_law 179 = .ok (.iload 4, 2) := by decide +kernel
theorem d_Lw_law_181 : decode c_Lw_law 181 = .ok (.iconst 1, 1) := by decide +kernel
theorem d_Lw_law_182 : decode c_Lw_law 182 = .ok (.iadd, 1) := by decide +kernel
theorem d_Lw_law_183 : decode c_Lw_law 183 = .ok (.iaload, 1) := by decide +kernel
theorem d_Lw_law_184 : decode c_Lw_law 184 = .ok (.aload_n 0, 1) := by decide +kernel
theorem d_Lw_law_185 : decode c_Lw_law 185 = .ok (.iload 4, 2) := by decide +kernel
theorem d_Lw_law_187 : decode c_Lw_law 187 = .ok (.iconst 2, 1) := by decide +kernel
theorem d_Lw_law_188 : decode c_Lw_law 188 = .ok (.iadd, 1) := by decide +kernel
theorem d_Lw_law_189 : decode c_Lw_law 189 = .ok (.iaload, 1) := by decide +kernel
theorem d_Lw_law_190 : decode c_Lw_law 190 = .ok (.aload_n 0, 1) := by decide +kernel
theorem d_Lw_law_191 : decode c_Lw_law 191 = .ok (.iload 4, 2) := by decide +kernel
theorem d_Lw_law_193 : decode c_Lw_law 193 = .ok (.iconst 3, 1) := by decide +kernel
theorem d_Lw_law_194 : decode c_Lw_law 194 = .ok (.iadd, 1) := by decide +kernel
theorem d_Lw_law_195 : decode c_Lw_law 195 = .ok (.iaload, 1) := by decide +kernel
theorem d_Lw_law_196 : decode c_Lw_law 196 = .ok (.invokevirtual 34, 3) := by decide +kernel
theorem d_Lw_law_199 : decode c_Lw_law 199 = .ok (.aload_n 2, 1) := by decide +kernel
theorem d_Lw_law_200 : decode c_Lw_law 200 = .ok (.aload_n 0, 1) := by decide +kernel
theorem d_Lw_law_201 : decode c_Lw_law 201 = .ok (.iload 4, 2) := by decide +kernel
theorem d_Lw_law_203 : decode c_Lw_law 203 = .ok (.iconst 1, 1) := by decide +kernel
theorem d_Lw_law_204 : decode c_Lw_law 204 = .ok (.iadd, 1) := by decide +kernel
theorem d_Lw_law_205 : decode c_Lw_law 205 = .ok (.iaload, 1) := by decide +kernel
theorem d_Lw_law_206 : decode c_Lw_law 206 = .ok (.aload_n 0, 1) := by decide +kernel
theorem d_Lw_law_207 : decode c_Lw_law 207 = .ok (.iload 4, 2) := by decide +kernel
theorem d_Lw_law_209 : decode c_Lw_law 209 = .ok (.iconst 2, 1) := by decide +kernel
theorem d_Lw_law_210 : decode c_Lw_law 210 = .ok (.iadd, 1) := by decide +kernel
theorem d_Lw_law_211 : decode c_Lw_law 211 = .ok (.iaload, 1) := by decide +kernel
theorem d_Lw_law_212 : decode c_Lw_law 212 = .ok (.aload_n 0, 1) := by decide +kernel
theorem d_Lw_law_213 : decode c_Lw_law 213 = .ok (.iload 4, 2) := by decide +kernel
theorem d_Lw_law_215 : decode c_Lw_law 215 = .ok (.iconst 3, 1) := by decide +kernel
theorem d_Lw_law_216 : decode c_Lw_law 216 = .ok (.iadd, 1) := by decide +kernel
theorem d_Lw_law_217 : decode c_Lw_law 217 = .ok (.iaload, 1) := by decide +kernel
theorem d_Lw_law_218 : decode c_Lw_law 218 = .ok (.invokevirtual 38, 3) := by decide +kernel
theorem d_Lw_law_221 : decode c_Lw_law 221 = .ok (.if_icmp .eq 370, 3) := by decide +kernel
theorem d_Lw_law_224 : decode c_Lw_law 224 = .ok (.iconst 0, 1) := by decide +kernel
theorem d_Lw_law_225 : decode c_Lw_law 225 = .ok (.ireturn, 1) := by decide +kernel
theorem d_Lw_law_226 : decode c_Lw_law 226 = .ok (.aload_n 1, 1) := by decide +kernel
theorem d_Lw_law_227 : decode c_Lw_law 227 = .ok (.aload_n 0, 1) := by decide +kernel
theorem d_Lw_law_228 : decode c_Lw_law 228 = .ok (.iload 4, 2) := by decide +kernel
theorem d_Lw_law_230 : decode c_Lw_law 230 = .ok (.iconst 1, 1) := by decide +kernel
theorem d_Lw_law_231 : decode c_Lw_law 231 = .ok (.iadd, 1) := by decide +kernel
theorem d_Lw_law_232 : decode c_Lw_law 232 = .ok (.iaload, 1) := by decide +kernel
theorem d_Lw_law_233 : decode c_Lw_law 233 = .ok (.aload_n 0, 1) := by decide +kernel
theorem d_Lw_law_234 : decode c_Lw_law 234 = .ok (.iload 4, 2) := by decide +kernel
theorem d_Lw_law_236 : decode c_Lw_law 236 = .ok (.iconst 2, 1) := by decide +kernel
theorem d_Lw_law_237 : decode c_Lw_law 237 = .ok (.iadd, 1) := by decide +kernel
theorem d_Lw_law_238 : decode c_Lw_law 238 = .ok (.iaload, 1) := by decide +kernel
theorem d_Lw_law_239 : decode c_Lw_law 239 = .ok (.aload_n 0, 1) := by decide +kernel
theorem d_Lw_law_240 : decode c_Lw_law 240 = .ok (.iload 4, 2) := by decide +kernel
theorem d_Lw_law_242 : decode c_Lw_law 242 = .ok (.iconst 3, 1) := by decide +kernel
theorem d_Lw_law_243 : decode c_Lw_law 243 = .ok (.iadd, 1) := by decide +kernel
theorem d_Lw_law_244 : decode c_Lw_law 244 = .ok (.iaload, 1) := by decide +kernel
theorem d_Lw_law_245 : decode c_Lw_law 245 = .ok (.invokevirtual 39, 3) := by decide +kernel
theorem d_Lw_law_248 : decode c_Lw_law 248 = .ok (.aload_n 2, 1) := by decide +kernel
theorem d_Lw_law_249 : decode c_Lw_law 249 = .ok (.aload_n 0, 1) := by decide +kernel
theorem d_Lw_law_250 : decode c_Lw_law 250 = .ok (.iload 4, 2) := by decide +kernel
theorem d_Lw_law_252 : decode c_Lw_law 252 = .ok (.iconst 1, 1) := by decide +kernel
theorem d_Lw_law_253 : decode c_Lw_law 253 = .ok (.iadd, 1) := by decide +kernel
theorem d_Lw_law_254 : decode c_Lw_law 254 = .ok (.iaload, 1) := by decide +kernel
theorem d_Lw_law_255 : decode c_Lw_law 255 = .ok (.aload_n 0, 1) := by decide +kernel
theorem d_Lw_law_256 : decode c_Lw_law 256 = .ok (.iload 4, 2) := by decide +kernel
theorem d_Lw_law_258 : decode c_Lw_law 258 = .ok (.iconst 2, 1) := by decide +kernel
theorem d_Lw_law_259 : decode c_Lw_law 259 = .ok (.iadd, 1) := by decide +kernel
theorem d_Lw_law_260 : decode c_Lw_law 260 = .ok (.iaload, 1) := by decide +kernel
theorem d_Lw_law_261 : decode c_Lw_law 261 = .ok (.aload_n 0, 1) := by decide +kernel
theorem d_Lw_law_262 : decode c_Lw_law 262 = .ok (.iload 4, 2) := by decide +kernel
theorem d_Lw_law_264 : decode c_Lw_law 264 = .ok (.iconst 3, 1) := by decide +kernel
theorem d_Lw_law_265 : decode c_Lw_law 265 = .ok (.iadd, 1) := by decide +kernel
theorem d_Lw_law_266 : decode c_Lw_law 266 = .ok (.iaload, 1) := by decide +kernel
theorem d_Lw_law_267 : decode c_Lw_law 267 = .ok (.invokevirtual 42, 3) := by decide +kernel
theorem d_Lw_law_270 : decode c_Lw_law 270 = .ok (.if_icmp .eq 321, 3) := by decide +kernel
theorem d_Lw_law_273 : decode c_Lw_law 273 = .ok (.iconst 0, 1) := by decide +kernel
theorem d_Lw_law_274 : decode c_Lw_law 274 = .ok (.ireturn, 1) := by decide +kernel
theorem d_Lw_law_275 : decode c_Lw_law 275 = .ok (.aload_n 1, 1) := by decide +kernel
theorem d_Lw_law_276 : decode c_Lw_law 276 = .ok (.aload_n 0, 1) := by decide +kernel
theorem d_Lw_law_277 : decode c_Lw_law 277 = .ok (.iload 4, 2) := by decide +kernel
theorem d_Lw_law_279 : decode c_Lw_law 279 = .ok (.iconst 1, 1) := by decide +kernel
theorem d_Lw_law_280 : decode c_Lw_law 280 = .ok (.iadd, 1) := by decide +kernel
theorem d_Lw_law_281 : decode c_Lw_law 281 = .ok (.iaload, 1) := by decide +kernel
theorem d_Lw_law_282 : decode c_Lw_law 282 = .ok (.aload_n 0, 1) := by decide +kernel
theorem d_Lw_law_283 : decode c_Lw_law 283 = .ok (.iload 4, 2) := by decide +kernel
theorem d_Lw_law_285 : decode c_Lw_law 285 = .ok (.iconst 2, 1) := by decide +kernel
theorem d_Lw_law_286 : decode c_Lw_law 286 = .ok (.iadd, 1) := by decide +kernel
theorem d_Lw_law_287 : decode c_Lw_law 287 = .ok (.iaload, 1) := by decide +kernel
theorem d_Lw_law_288 : decode c_Lw_law 288 = .ok (.aload_n 0, 1) := by decide +kernel
theorem d_Lw_law_289 : decode c_Lw_law 289 = .ok (.iload 4, 2) := by decide +kernel
theorem d_Lw_law_291 : decode c_Lw_law 291 = .ok (.iconst 3, 1) := by decide +kernel
theorem d_Lw_law_292 : decode c_Lw_law 292 = .ok (.iadd, 1) := by decide +kernel
theorem d_Lw_law_293 : decode c_Lw_law 293 = .ok (.iaload, 1) := by decide +kernel
theorem d_Lw_law_294 : decode c_Lw_law 294 = .ok (.ifCond .eq 7, 3) := by decide +kernel
theorem d_Lw_law_297 : decode c_Lw_law 297 = .ok (.iconst 1, 1) := by decide +kernel
theorem d_Lw_law_298 : decode c_Lw_law 298 = .ok (.goto 4, 3) := by decide +kernel
theorem d_Lw_law_301 : decode c_Lw_law 301 = .ok (.iconst 0, 1) := by decide +kernel
theorem d_Lw_law_302 : decode c_Lw_law 302 = .ok (.invokevirtual 43, 3) := by decide +kernel
theorem d_Lw_law_305 : decode c_Lw_law 305 = .ok (.aload_n 2, 1) := by decide +kernel
theorem d_Lw_law_306 : decode c_Lw_law 306 = .ok (.aload_n 0, 1) := by decide +kernel
theorem d_Lw_law_307 : decode c_Lw_law 307 = .ok (.iload 4, 2) := by decide +kernel
theorem d_Lw_law_309 : decode c_Lw_law 309 = .ok (.iconst 1, 1) := by decide +kernel
theorem d_Lw_law_310 : decode c_Lw_law 310 = .ok (.iadd, 1) := by decide +kernel
theorem d_Lw_law_311 : decode c_Lw_law 311 = .ok (.iaload, 1) := by decide +kernel
theorem d_Lw_law_312 : decode c_Lw_law 312 = .ok (.aload_n 0, 1) := by decide +kernel
theorem d_Lw_law_313 : decode c_Lw_law 313 = .ok (.iload 4, 2) := by decide +kernel
theorem d_Lw_law_315 : decode c_Lw_law 315 = .ok (.iconst 2, 1) := by decide +kernel
theorem d_Lw_law_316 : decode c_Lw_law 316 = .ok (.iadd, 1) := by decide +kernel
theorem d_Lw_law_317 : decode c_Lw_law 317 = .ok (.iaload, 1) := by decide +kernel
theorem d_Lw_law_318 : decode c_Lw_law 318 = .ok (.aload_n 0, 1) := by decide +kernel
theorem d_Lw_law_319 : decode c_Lw_law 319 = .ok (.iload 4, 2) := by decide +kernel
theorem d_Lw_law_321 : decode c_Lw_law 321 = .ok (.iconst 3, 1) := by decide +kernel
theorem d_Lw_law_322 : decode c_Lw_law 322 = .ok (.iadd, 1) := by decide +kernel
theorem d_Lw_law_323 : decode c_Lw_law 323 = .ok (.iaload, 1) := by decide +kernel
theorem d_Lw_law_324 : decode c_Lw_law 324 = .ok (.ifCond .eq 7, 3) := by decide +kernel
theorem d_Lw_law_327 : decode c_Lw_law 327 = .ok (.iconst 1, 1) := by decide +kernel
theorem d_Lw_law_328 : decode c_Lw_law 328 = .ok (.goto 4, 3) := by decide +kernel
theorem d_Lw_law_331 : decode c_Lw_law 331 = .ok (.iconst 0, 1) := by decide +kernel
theorem d_Lw_law_332 : decode c_Lw_law 332 = .ok (.invokevirtual 47, 3) := by decide +kernel
theorem d_Lw_law_335 : decode c_Lw_law 335 = .ok (.if_icmp .eq 256, 3) := by decide +kernel
theorem d_Lw_law_338 : decode c_Lw_law 338 = .ok (.iconst 0, 1) := by decide +kernel
theorem d_Lw_law_339 : decode c_Lw_law 339 = .ok (.ireturn, 1) := by decide +kernel
theorem d_Lw_law_340 : decode c_Lw_law 340 = .ok (.aload_n 1, 1) := by decide +kernel
theorem d_Lw_law_341 : decode c_Lw_law 341 = .ok (.aload_n 0, 1) := by decide +kernel
theorem d_Lw_law_342 : decode c_Lw_law 342 = .ok (.iload 4, 2) := by decide +kernel
theorem d_Lw_law_344 : decode c_Lw_law 344 = .ok (.iconst 1, 1) := by decide +kernel
theorem d_Lw_law_345 : decode c_Lw_law 345 = .ok (.iadd, 1) := by decide +kernel
theorem d_Lw_law_346 : decode c_Lw_law 346 = .ok (.iaload, 1) := by decide +kernel
theorem d_Lw_law_347 : decode c_Lw_law 347 = .ok (.invokevirtual 48, 3) := by decide +kernel
theorem d_Lw_law_350 : decode c_Lw_law 350 = .ok (.aload_n 2, 1) := by decide +kernel
theorem d_Lw_law_351 : decode c_Lw_law 351 = .ok (.aload_n 0, 1) := by decide +kernel
theorem d_Lw_law_352 : decode c_Lw_law 352 = .ok (.iload 4, 2) := by decide +kernel
theorem d_Lw_law_354 : decode c_Lw_law 354 = .ok (.iconst 1, 1) := by decide +kernel
theorem d_Lw_law_355 : decode c_Lw_law 355 = .ok (.iadd, 1) := by decide +kernel
theorem d_Lw_law_356 : decode c_Lw_law 356 = .ok (.iaload, 1) := by decide +kernel
theorem d_Lw_law_357 : decode c_Lw_law 357 = .ok (.invokevirtual 52, 3) := by decide +kernel
theorem d_Lw_law_360 : decode c_Lw_law 360 = .ok (.lcmp, 1) := by decide +kernel
theorem d_Lw_law_361 : decode c_Lw_law 361 = .ok (.ifCond .eq 230, 3) := by decide +kernel
theorem d_Lw_law_364 : decode c_Lw_law 364 = .ok (.iconst 0, 1) := by decide +kernel
theorem d_Lw_law_365 : decode c_Lw_law 365 = .ok (.ireturn, 1) := by decide +kernel
theorem d_Lw_law_366 : decode c_Lw_law 366 = .ok (.aload_n 1, 1) := by decide +kernel
theorem d_Lw_law_367 : decode c_Lw_law 367 = .ok (.aload_n 0, 1) := by decide +kernel
theorem d_Lw_law_368 : decode c_Lw_law 368 = .ok (.iload 4, 2) := by decide +kernel
theorem d_Lw_law_370 : decode c_Lw_law 370 = .ok (.iconst 1, 1) := by decide +kernel
theorem d_Lw_law_371 : decode c_Lw_law 371 = .ok (.iadd, 1) := by decide +kernel
theorem d_Lw_law_372 : decode c_Lw_law 372 = .ok (.iaload, 1) := by decide +kernel
theorem d_Lw_law_373 : decode c_Lw_law 373 = .ok (.aload_n 0, 1) := by decide +kernel
theorem d_Lw_law_374 : decode c_Lw_law 374 = .ok (.iload 4, 2) := by decide +kernel
theorem d_Lw_law_376 : decode c_Lw_law 376 = .ok (.iconst 2, 1) := by decide +kernel
theorem d_Lw_law_377 : decode c_Lw_law 377 = .ok (.iadd, 1) := by decide +kernel
theorem d_Lw_law_378 : decode c_Lw_law 378 = .ok (.iaload, 1) := by decide +kernel
theorem d_Lw_law_379 : decode c_Lw_law 379 = .ok (.i2l, 1) := by decide +kernel
theorem d_Lw_law_380 : decode c_Lw_law 380 = .ok (.bipush 32, 2) := by decide +kernel
theorem d_Lw_law_382 : decode c_Lw_law 382 = .ok (.lshl, 1) := by decide +kernel
theorem d_Lw_law_383 : decode c_Lw_law 383 = .ok (.aload_n 0, 1) := by decide +kernel
theorem d_Lw_law_384 : decode c_Lw_law 384 = .ok (.iload 4, 2) := by decide +kernel
theorem d_Lw_law_386 : decode c_Lw_law 386 = .ok (.iconst 3, 1) := by decide +kernel
theorem d_Lw_law_387 : decode c_Lw_law 387 = .ok (.iadd, 1) := by decide +kernel
theorem d_Lw_law_388 : decode c_Lw_law 388 = .ok (.iaload, 1) := by decide +kernel
theorem d_Lw_law_389 : decode c_Lw_law 389 = .ok (.i2l, 1) := by decide +kernel
theorem d_Lw_law_390 : decode c_Lw_law 390 = .ok (.ldc2_w 27, 3) := by decide +kernel
theorem d_Lw_law_393 : decode c_Lw_law 393 = .ok (.land, 1) := by decide +kernel
theorem d_Lw_law_394 : decode c_Lw_law 394 = .ok (.lor, 1) := by decide +kernel
theorem d_Lw_law_395 : decode c_Lw_law 395 = .ok (.invokevirtual 53, 3) := by decide +kernel
theorem d_Lw_law_398 : decode c_Lw_law 398 = .ok (.aload_n 2, 1) := by decide +kernel
theorem d_Lw_law_399 : decode c_Lw_law 399 = .ok (.aload_n 0, 1) := by decide +kernel
theorem d_Lw_law_400 : decode c_Lw_law 400 = .ok (.iload 4, 2) := by decide +kernel
theorem d_Lw_law_402 : decode c_Lw_law 402 = .ok (.iconst 1, 1) := by decide +kernel
theorem d_Lw_law_403 : decode c_Lw_law 403 = .ok (.iadd, 1) := by decide +kernel
theorem d_Lw_law_404 : decode c_Lw_law 404 = .ok (.iaload, 1) := by decide +kernel
theorem d_Lw_law_405 : decode c_Lw_law 405 = .ok (.aload_n 0, 1) := by decide +kernel
theorem d_Lw_law_406 : decode c_Lw_law 406 = .ok (.iload 4, 2) := by decide +kernel
theorem d_Lw_law_408 : decode c_Lw_law 408 = .ok (.iconst 2, 1) := by decide +kernel
theorem d_Lw_law_409 : decode c_Lw_law 409 = .ok (.iadd, 1) := by decide +kernel
theorem d_Lw_law_410 : decode c_Lw_law 410 = .ok (.iaload, 1) := by decide +kernel
theorem d_Lw_law_411 : decode c_Lw_law 411 = .ok (.i2l, 1) := by decide +kernel
theorem d_Lw_law_412 : decode c_Lw_law 412 = .ok (.bipush 32, 2) := by decide +kernel
theorem d_Lw_law_414 : decode c_Lw_law 414 = .ok (.lshl, 1) := by decide +kernel
theorem d_Lw_law_415 : decode c_Lw_law 415 = .ok (.aload_n 0, 1) := by decide +kernel
theorem d_Lw_law_416 : decode c_Lw_law 416 = .ok (.iload 4, 2) := by decide +kernel
theorem d_Lw_law_418 : decode c_Lw_law 418 = .ok (.iconst 3, 1) := by decide +kernel
theorem d_Lw_law_419 : decode c_Lw_law 419 = .ok (.iadd, 1) := by decide +kernel
theorem d_Lw_law_420 : decode c_Lw_law 420 = .ok (.iaload, 1) := by decide +kernel
theorem d_Lw_law_421 : decode c_Lw_law 421 = .ok (.i2l, 1) := by decide +kernel
theorem d_Lw_law_422 : decode c_Lw_law 422 = .ok (.ldc2_w 27, 3) := by decide +kernel
theorem d_Lw_law_425 : decode c_Lw_law 425 = .ok (.land, 1) := by decide +kernel
theorem d_Lw_law_426 : decode c_Lw_law 426 = .ok (.lor, 1) := by decide +kernel
theorem d_Lw_law_427 : decode c_Lw_law 427 = .ok (.invokevirtual 57, 3) := by decide +kernel
theorem d_Lw_law_430 : decode c_Lw_law 430 = .ok (.if_icmp .eq 161, 3) := by decide +kernel
theorem d_Lw_law_433 : decode c_Lw_law 433 = .ok (.iconst 0, 1) := by decide +kernel
theorem d_Lw_law_434 : decode c_Lw_law 434 = .ok (.ireturn, 1) := by decide +kernel
theorem d_Lw_law_435 : decode c_Lw_law 435 = .ok (.aload_n 1, 1) := by decide +kernel
theorem d_Lw_law_436 : decode c_Lw_law 436 = .ok (.aload_n 0, 1) := by decide +kernel
theorem d_Lw_law_437 : decode c_Lw_law 437 = .ok (.iload 4, 2) := by decide +kernel
theorem d_Lw_law_439 : decode c_Lw_law 439 = .ok (.iconst 1, 1) := by decide +kernel
theorem d_Lw_law_440 : decode c_Lw_law 440 = .ok (.iadd, 1) := by decide +kernel
theorem d_Lw_law_441 : decode c_Lw_law 441 = .ok (.iaload, 1) := by decide +kernel
theorem d_Lw_law_442 : decode c_Lw_law 442 = .ok (.invokevirtual 58, 3) := by decide +kernel
theorem d_Lw_law_445 : decode c_Lw_law 445 = .ok (.aload_n 2, 1) := by decide +kernel
theorem d_Lw_law_446 : decode c_Lw_law 446 = .ok (.aload_n 0, 1) := by decide +kernel
theorem d_Lw_law_447 : decode c_Lw_law 447 = .ok (.iload 4, 2) := by decide +kernel
theorem d_Lw_law_449 : decode c_Lw_law 449 = .ok (.iconst 1, 1) := by decide +kernel
theorem d_Lw_law_450 : decode c_Lw_law 450 = .ok (.iadd, 1) := by decide +kernel
theorem d_Lw_law_451 : decode c_Lw_law 451 = .ok (.iaload, 1) := by decide +kernel
theorem d_Lw_law_452 : decode c_Lw_law 452 = .ok (.invokevirtual 62, 3) := by decide +kernel
theorem d_Lw_law_455 : decode c_Lw_law 455 = .ok (.if_icmp .eq 136, 3) := by decide +kernel
theorem d_Lw_law_458 : decode c_Lw_law 458 = .ok (.iconst 0, 1) := by decide +kernel
theorem d_Lw_law_459 : decode c_Lw_law 459 = .ok (.ireturn, 1) := by decide +kernel
theorem d_Lw_law_460 : decode c_Lw_law 460 = .ok (.aload_n 1, 1) := by decide +kernel
theorem d_Lw_law_461 : decode c_Lw_law 461 = .ok (.aload_n 0, 1) := by decide +kernel
theorem d_Lw_law_462 : decode c_Lw_law 462 = .ok (.iload 4, 2) := by decide +kernel
theorem d_Lw_law_464 : decode c_Lw_law 464 = .ok (.iconst 1, 1) := by decide +kernel
theorem d_Lw_law_465 : decode c_Lw_law 465 = .ok (.iadd, 1) := by decide +kernel
theorem d_Lw_law_466 : decode c_Lw_law 466 = .ok (.iaload, 1) := by decide +kernel
theorem d_Lw_law_467 : decode c_Lw_law 467 = .ok (.invokevirtual 63, 3) := by decide +kernel
theorem d_Lw_law_470 : decode c_Lw_law 470 = .ok (.aload_n 2, 1) := by decide +kernel
theorem d_Lw_law_471 : decode c_Lw_law 471 = .ok (.aload_n 0, 1) := by decide +kernel
theorem d_Lw_law_472 : decode c_Lw_law 472 = .ok (.iload 4, 2) := by decide +kernel
theorem d_Lw_law_474 : decode c_Lw_law 474 = .ok (.iconst 1, 1) := by decide +kernel
theorem d_Lw_law_475 : decode c_Lw_law 475 = .ok (.iadd, 1) := by decide +kernel
theorem d_Lw_law_476 : decode c_Lw_law 476 = .ok (.iaload, 1) := by decide +kernel
theorem d_Lw_law_477 : decode c_Lw_law 477 = .ok (.invokevirtual 66, 3) := by decide +kernel
theorem d_Lw_law_480 : decode c_Lw_law 480 = .ok (.lcmp, 1) := by decide +kernel
theorem d_Lw_law_481 : decode c_Lw_law 481 = .ok (.ifCond .eq 110, 3) := by decide +kernel
theorem d_Lw_law_484 : decode c_Lw_law 484 = .ok (.iconst 0, 1) := by decide +kernel
theorem d_Lw_law_485 : decode c_Lw_law 485 = .ok (.ireturn, 1) := by decide +kernel
theorem d_Lw_law_486 : decode c_Lw_law 486 = .ok (.aload_n 1, 1) := by decide +kernel
theorem d_Lw_law_487 : decode c_Lw_law 487 = .ok (.aload_n 0, 1) := by decide +kernel
theorem d_Lw_law_488 : decode c_Lw_law 488 = .ok (.iload 4, 2) := by decide +kernel
theorem d_Lw_law_490 : decode c_Lw_law 490 = .ok (.iconst 1, 1) := by decide +kernel
theorem d_Lw_law_491 : decode c_Lw_law 491 = .ok (.iadd, 1) := by decide +kernel
theorem d_Lw_law_492 : decode c_Lw_law 492 = .ok (.iaload, 1) := by decide +kernel
theorem d_Lw_law_493 : decode c_Lw_law 493 = .ok (.aload_n 0, 1) := by decide +kernel
theorem d_Lw_law_494 : decode c_Lw_law 494 = .ok (.iload 4, 2) := by decide +kernel
theorem d_Lw_law_496 : decode c_Lw_law 496 = .ok (.iconst 2, 1) := by decide +kernel
theorem d_Lw_law_497 : decode c_Lw_law 497 = .ok (.iadd, 1) := by decide +kernel
theorem d_Lw_law_498 : decode c_Lw_law 498 = .ok (.iaload, 1) := by decide +kernel
theorem d_Lw_law_499 : decode c_Lw_law 499 = .ok (.aload_n 3, 1) := by decide +kernel
theorem d_Lw_law_500 : decode c_Lw_law 500 = .ok (.invokestatic 67, 3) := by decide +kernel
theorem d_Lw_law_503 : decode c_Lw_law 503 = .ok (.istore 5, 2) := by decide +kernel
theorem d_Lw_law_505 : decode c_Lw_law 505 = .ok (.aload_n 2, 1) := by decide +kernel
theorem d_Lw_law_506 : decode c_Lw_law 506 = .ok (.aload_n 0, 1) := by decide +kernel
theorem d_Lw_law_507 : decode c_Lw_law 507 = .ok (.iload 4, 2) := by decide +kernel
theorem d_Lw_law_509 : decode c_Lw_law 509 = .ok (.iconst 1, 1) := by decide +kernel
theorem d_Lw_law_510 : decode c_Lw_law 510 = .ok (.iadd, 1) := by decide +kernel
theorem d_Lw_law_511 : decode c_Lw_law 511 = .ok (.iaload, 1) := by decide +kernel
theorem d_Lw_law_512 : decode c_Lw_law 512 = .ok (.aload_n 0, 1) := by decide +kernel
theorem d_Lw_law_513 : decode c_Lw_law 513 = .ok (.iload 4, 2) := by decide +kernel
theorem d_Lw_law_515 : decode c_Lw_law 515 = .ok (.iconst 2, 1) := by decide +kernel
theorem d_Lw_law_516 : decode c_Lw_law 516 = .ok (.iadd, 1) := by decide +kernel
theorem d_Lw_law_517 : decode c_Lw_law 517 = .ok (.iaload, 1) := by decide +kernel
theorem d_Lw_law_518 : decode c_Lw_law 518 = .ok (.invokevirtual 70, 3) := by decide +kernel
theorem d_Lw_law_521 : decode c_Lw_law 521 = .ok (.lstore 6, 2) := by decide +kernel
theorem d_Lw_law_523 : decode c_Lw_law 523 = .ok (.aload_n 2, 1) := by decide +kernel
theorem d_Lw_law_524 : decode c_Lw_law 524 = .ok (.invokevirtual 71, 3) := by decide +kernel
theorem d_Lw_law_527 : decode c_Lw_law 527 = .ok (.iload 5, 2) := by decide +kernel
theorem d_Lw_law_529 : decode c_Lw_law 529 = .ok (.if_icmp .eq 5, 3) := by decide +kernel
theorem d_Lw_law_532 : decode c_Lw_law 532 = .ok (.iconst 0, 1) := by decide +kernel
theorem d_Lw_law_533 : decode c_Lw_law 533 = .ok (.ireturn, 1) := by decide +kernel
theorem d_Lw_law_534 : decode c_Lw_law 534 = .ok (.iload 5, 2) := by decide +kernel
theorem d_Lw_law_536 : decode c_Lw_law 536 = .ok (.ifCond .ne 14, 3) := by decide +kernel
theorem d_Lw_law_539 : decode c_Lw_law 539 = .ok (.aload_n 3, 1) := by decide +kernel
theorem d_Lw_law_540 : decode c_Lw_law 540 = .ok (.iconst 0, 1) := by decide +kernel
theorem d_Lw_law_541 : decode c_Lw_law 541 = .ok (.laload, 1) := by decide +kernel
theorem d_Lw_law_542 : decode c_Lw_law 542 = .ok (.lload 6, 2) := by decide +kernel
theorem d_Lw_law_544 : decode c_Lw_law 544 = .ok (.lcmp, 1) := by decide +kernel
theorem d_Lw_law_545 : decode c_Lw_law 545 = .ok (.ifCond .eq 5, 3) := by decide +kernel
theorem d_Lw_law_548 : decode c_Lw_law 548 = .ok (.iconst 0, 1) := by decide +kernel
theorem d_Lw_law_549 : decode c_Lw_law 549 = .ok (.ireturn, 1) := by decide +kernel
theorem d_Lw_law_550 : decode c_Lw_law 550 = .ok (.goto 41, 3) := by decide +kernel
theorem d_Lw_law_553 : decode c_Lw_law 553 = .ok (.aload_n 1, 1) := by decide +kernel
theorem d_Lw_law_554 : decode c_Lw_law 554 = .ok (.aload_n 0, 1) := by decide +kernel
theorem d_Lw_law_555 : decode c_Lw_law 555 = .ok (.iload 4, 2) := by decide +kernel
theorem d_Lw_law_557 : decode c_Lw_law 557 = .ok (.iconst 1, 1) := by decide +kernel
theorem d_Lw_law_558 : decode c_Lw_law 558 = .ok (.iadd, 1) := by decide +kernel
theorem d_Lw_law_559 : decode c_Lw_law 559 = .ok (.iaload, 1) := by decide +kernel
theorem d_Lw_law_560 : decode c_Lw_law 560 = .ok (.invokevirtual 75, 3) := by decide +kernel
theorem d_Lw_law_563 : decode c_Lw_law 563 = .ok (.aload_n 2, 1) := by decide +kernel
theorem d_Lw_law_564 : decode c_Lw_law 564 = .ok (.aload_n 0, 1) := by decide +kernel
theorem d_Lw_law_565 : decode c_Lw_law 565 = .ok (.iload 4, 2) := by decide +kernel
theorem d_Lw_law_567 : decode c_Lw_law 567 = .ok (.iconst 1, 1) := by decide +kernel
theorem d_Lw_law_568 : decode c_Lw_law 568 = .ok (.iadd, 1) := by decide +kernel
theorem d_Lw_law_569 : decode c_Lw_law 569 = .ok (.iaload, 1) := by decide +kernel
theorem d_Lw_law_570 : decode c_Lw_law 570 = .ok (.invokevirtual 79, 3) := by decide +kernel
theorem d_Lw_law_573 : decode c_Lw_law 573 = .ok (.if_icmp .eq 18, 3) := by decide +kernel
theorem d_Lw_law_576 : decode c_Lw_law 576 = .ok (.iconst 0, 1) := by decide +kernel
theorem d_Lw_law_577 : decode c_Lw_law 577 = .ok (.ireturn, 1) := by decide +kernel
theorem d_Lw_law_578 : decode c_Lw_law 578 = .ok (.aload_n 1, 1) := by decide +kernel
theorem d_Lw_law_579 : decode c_Lw_law 579 = .ok (.invokevirtual 80, 3) := by decide +kernel
theorem d_Lw_law_582 : decode c_Lw_law 582 = .ok (.aload_n 2, 1) := by decide +kernel
theorem d_Lw_law_583 : decode c_Lw_law 583 = .ok (.invokevirtual 83, 3) := by decide +kernel
theorem d_Lw_law_586 : decode c_Lw_law 586 = .ok (.if_icmp .eq 5, 3) := by decide +kernel
theorem d_Lw_law_589 : decode c_Lw_law 589 = .ok (.iconst 0, 1) := by decide +kernel
theorem d_Lw_law_590 : decode c_Lw_law 590 = .ok (.ireturn, 1) := by decide +kernel
theorem d_Lw_law_591 : decode c_Lw_law 591 = .ok (.iinc 4 4, 3) := by decide +kernel
theorem d_Lw_law_594 : decode c_Lw_law 594 = .ok (.goto (-561), 3) := by decide +kernel
theorem d_Lw_law_597 : decode c_Lw_law 597 = .ok (.iconst 1, 1) := by decide +kernel
theorem d_Lw_law_598 : decode c_Lw_law 598 = .ok (.ireturn, 1) := by decide +kernel

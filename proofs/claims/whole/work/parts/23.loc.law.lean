theorem i_71_0 : am_ins 71 0 = some (.new 7, 0, 0, .null) := by decide +kernel
theorem i_71_3 : am_ins 71 3 = some (.dup, 0, 0, .null) := by decide +kernel
theorem i_71_4 : am_ins 71 4 = some (.invokespecial 9, 0, 0, .null) := by decide +kernel
theorem i_71_7 : am_ins 71 7 = some (.astore_n 1, 1, 0, .null) := by decide +kernel
theorem i_71_8 : am_ins 71 8 = some (.new 10, 5, 0, .null) := by decide +kernel
theorem i_71_11 : am_ins 71 11 = some (.dup, 0, 0, .null) := by decide +kernel
theorem i_71_12 : am_ins 71 12 = some (.invokespecial 12, 35, 0, .null) := by decide +kernel
theorem i_71_15 : am_ins 71 15 = some (.astore_n 2, 2, 0, .null) := by decide +kernel
theorem i_71_16 : am_ins 71 16 = some (.iconst 0, 0, 0, .int 0) := by decide +kernel
theorem i_71_17 : am_ins 71 17 = some (.istore_n 3, 3, 0, .null) := by decide +kernel
theorem i_71_18 : am_ins 71 18 = some (.iload_n 3, 3, 0, .null) := by decide +kernel
theorem i_71_19 : am_ins 71 19 = some (.aload_n 0, 0, 0, .null) := by decide +kernel
theorem i_71_20 : am_ins 71 20 = some (.arraylength, 0, 0, .null) := by decide +kernel
theorem i_71_21 : am_ins 71 21 = some (.iconst 5, 0, 0, .int 5) := by decide +kernel
theorem i_71_22 : am_ins 71 22 = some (.isub, 0, 0, .null) := by decide +kernel
theorem i_71_23 : am_ins 71 23 = some (.if_icmp .gt 690, 713, 0, .null) := by decide +kernel
theorem i_71_26 : am_ins 71 26 = some (.aload_n 0, 0, 0, .null) := by decide +kernel
theorem i_71_27 : am_ins 71 27 = some (.iload_n 3, 3, 0, .null) := by decide +kernel
theorem i_71_28 : am_ins 71 28 = some (.iaload, 0, 0, .null) := by decide +kernel
theorem i_71_29 : am_ins 71 29 = some (.bipush 31, 0, 0, .int 31) := by decide +kernel
theorem i_71_31 : am_ins 71 31 = some (.iand, 0, 0, .null) := by decide +kernel
theorem i_71_32 : am_ins 71 32 = some (.tableswitch 675 0 16 #[84, 127, 140, 213, 256, 289, 332, 355, 388, 421, 474, 497, 540, 573, 596, 629, 652], 0, 84, .null) := by decide +kernel
theorem i_71_116 : am_ins 71 116 = some (.aload_n 1, 1, 0, .null) := by decide +kernel
theorem i_71_117 : am_ins 71 117 = some (.aload_n 0, 0, 0, .null) := by decide +kernel
theorem i_71_118 : am_ins 71 118 = some (.iload_n 3, 3, 0, .null) := by decide +kernel
theorem i_71_119 : am_ins 71 119 = some (.iconst 1, 0, 0, .int 1) := by decide +kernel
theorem i_71_120 : am_ins 71 120 = some (.iadd, 0, 0, .null) := by decide +kernel
theorem i_71_121 : am_ins 71 121 = some (.iaload, 0, 0, .null) := by decide +kernel
theorem i_71_122 : am_ins 71 122 = some (.aload_n 0, 0, 0, .null) := by decide +kernel
theorem i_71_123 : am_ins 71 123 = some (.iload_n 3, 3, 0, .null) := by decide +kernel
theorem i_71_124 : am_ins 71 124 = some (.iconst 2, 0, 0, .int 2) := by decide +kernel
theorem i_71_125 : am_ins 71 125 = some (.iadd, 0, 0, .null) := by decide +kernel
theorem i_71_126 : am_ins 71 126 = some (.iaload, 0, 0, .null) := by decide +kernel
theorem i_71_127 : am_ins 71 127 = some (.aload_n 0, 0, 0, .null) := by decide +kernel
theorem i_71_128 : am_ins 71 128 = some (.iload_n 3, 3, 0, .null) := by decide +kernel
theorem i_71_129 : am_ins 71 129 = some (.iconst 3, 0, 0, .int 3) := by decide +kernel
theorem i_71_130 : am_ins 71 130 = some (.iadd, 0, 0, .null) := by decide +kernel
theorem i_71_131 : am_ins 71 131 = some (.iaload, 0, 0, .null) := by decide +kernel
theorem i_71_132 : am_ins 71 132 = some (.invokevirtual 13, 1, 3, .null) := by decide +kernel
theorem i_71_135 : am_ins 71 135 = some (.aload_n 2, 2, 0, .null) := by decide +kernel
theorem i_71_136 : am_ins 71 136 = some (.aload_n 0, 0, 0, .null) := by decide +kernel
theorem i_71_137 : am_ins 71 137 = some (.iload_n 3, 3, 0, .null) := by decide +kernel
theorem i_71_138 : am_ins 71 138 = some (.iconst 1, 0, 0, .int 1) := by decide +kernel
theorem i_71_139 : am_ins 71 139 = some (.iadd, 0, 0, .null) := by decide +kernel
theorem i_71_140 : am_ins 71 140 = some (.iaload, 0, 0, .null) := by decide +kernel
theorem i_71_141 : am_ins 71 141 = some (.aload_n 0, 0, 0, .null) := by decide +kernel
theorem i_71_142 : am_ins 71 142 = some (.iload_n 3, 3, 0, .null) := by decide +kernel
theorem i_71_143 : am_ins 71 143 = some (.iconst 2, 0, 0, .int 2) := by decide +kernel
theorem i_71_144 : am_ins 71 144 = some (.iadd, 0, 0, .null) := by decide +kernel
theorem i_71_145 : am_ins 71 145 = some (.iaload, 0, 0, .null) := by decide +kernel
theorem i_71_146 : am_ins 71 146 = some (.aload_n 0, 0, 0, .null) := by decide +kernel
theorem i_71_147 : am_ins 71 147 = some (.iload_n 3, 3, 0, .null) := by decide +kernel
theorem i_71_148 : am_ins 71 148 = some (.iconst 3, 0, 0, .int 3) := by decide +kernel
theorem i_71_149 : am_ins 71 149 = some (.iadd, 0, 0, .null) := by decide +kernel
theorem i_71_150 : am_ins 71 150 = some (.iaload, 0, 0, .null) := by decide +kernel
theorem i_71_151 : am_ins 71 151 = some (.invokevirtual 17, 40, 3, .null) := by decide +kernel
theorem i_71_154 : am_ins 71 154 = some (.if_icmp .eq 553, 707, 0, .null) := by decide +kernel
theorem i_71_157 : am_ins 71 157 = some (.iconst 0, 0, 0, .int 0) := by decide +kernel
theorem i_71_158 : am_ins 71 158 = some (.ireturn, 0, 0, .null) := by decide +kernel
theorem i_71_159 : am_ins 71 159 = some (.aload_n 1, 1, 0, .null) := by decide +kernel
theorem i_71_160 : am_ins 71 160 = some (.invokevirtual 18, 2, 0, .null) := by decide +kernel
theorem i_71_163 : am_ins 71 163 = some (.aload_n 2, 2, 0, .null) := by decide +kernel
theorem i_71_164 : am_ins 71 164 = some (.invokevirtual 22, 41, 0, .null) := by decide +kernel
theorem i_71_167 : am_ins 71 167 = some (.if_icmp .eq 540, 707, 0, .null) := by decide +kernel
theorem i_71_170 : am_ins 71 170 = some (.iconst 0, 0, 0, .int 0) := by decide +kernel
theorem i_71_171 : am_ins 71 171 = some (.ireturn, 0, 0, .null) := by decide +kernel
theorem i_71_172 : am_ins 71 172 = some (.aload_n 1, 1, 0, .null) := by decide +kernel
theorem i_71_173 : am_ins 71 173 = some (.aload_n 0, 0, 0, .null) := by decide +kernel
theorem i_71_174 : am_ins 71 174 = some (.iload_n 3, 3, 0, .null) := by decide +kernel
theorem i_71_175 : am_ins 71 175 = some (.iconst 1, 0, 0, .int 1) := by decide +kernel
theorem i_71_176 : am_ins 71 176 = some (.iadd, 0, 0, .null) := by decide +kernel
theorem i_71_177 : am_ins 71 177 = some (.iaload, 0, 0, .null) := by decide +kernel
theorem i_71_178 : am_ins 71 178 = some (.aload_n 0, 0, 0, .null) := by decide +kernel
theorem i_71_179 : am_ins 71 179 = some (.iload_n 3, 3, 0, .null) := by decide +kernel
theorem i_71_180 : am_ins 71 180 = some (.iconst 2, 0, 0, .int 2) := by decide +kernel
theorem i_71_181 : am_ins 71 181 = some (.iadd, 0, 0, .null) := by decide +kernel
theorem i_71_182 : am_ins 71 182 = some (.iaload, 0, 0, .null) := by decide +kernel
theorem i_71_183 : am_ins 71 183 = some (.aload_n 0, 0, 0, .null) := by decide +kernel
theorem i_71_184 : am_ins 71 184 = some (.iload_n 3, 3, 0, .null) := by decide +kernel
theorem i_71_185 : am_ins 71 185 = some (.iconst 3, 0, 0, .int 3) := by decide +kernel
theorem i_71_186 : am_ins 71 186 = some (.iadd, 0, 0, .null) := by decide +kernel
theorem i_71_187 : am_ins 71 187 = some (.iaload, 0, 0, .null) := by decide +kernel
theorem i_71_188 : am_ins 71 188 = some (.i2l, 0, 0, .null) := by decide +kernel
theorem i_71_189 : am_ins 71 189 = some (.bipush 32, 0, 0, .int 32) := by decide +kernel
theorem i_71_191 : am_ins 71 191 = some (.lshl, 0, 0, .null) := by decide +kernel
theorem i_71_192 : am_ins 71 192 = some (.aload_n 0, 0, 0, .null) := by decide +kernel
theorem i_71_193 : am_ins 71 193 = some (.iload_n 3, 3, 0, .null) := by decide +kernel
theorem i_71_194 : am_ins 71 194 = some (.iconst 4, 0, 0, .int 4) := by decide +kernel
theorem i_71_195 : am_ins 71 195 = some (.iadd, 0, 0, .null) := by decide +kernel
theorem i_71_196 : am_ins 71 196 = some (.iaload, 0, 0, .null) := by decide +kernel
theorem i_71_197 : am_ins 71 197 = some (.i2l, 0, 0, .null) := by decide +kernel
theorem i_71_198 : am_ins 71 198 = some (.ldc2_w 23, 0, 0, .long 4294967295) := by decide +kernel
theorem i_71_201 : am_ins 71 201 = some (.land, 0, 0, .null) := by decide +kernel
theorem i_71_202 : am_ins 71 202 = some (.lor, 0, 0, .null) := by decide +kernel
theorem i_71_203 : am_ins 71 203 = some (.invokevirtual 25, 3, 3, .null) := by decide +kernel
theorem i_71_206 : am_ins 71 206 = some (.aload_n 2, 2, 0, .null) := by decide +kernel
theorem i_71_207 : am_ins 71 207 = some (.aload_n 0, 0, 0, .null) := by decide +kernel
theorem i_71_208 : am_ins 71 208 = some (.iload_n 3, 3, 0, .null) := by decide +kernel
theorem i_71_209 : am_ins 71 209 = some (.iconst 1, 0, 0, .int 1) := by decide +kernel
theorem i_71_210 : am_ins 71 210 = some (.iadd, 0, 0, .null) := by decide +kernel
theorem i_71_211 : am_ins 71 211 = some (.iaload, 0, 0, .null) := by decide +kernel
theorem i_71_212 : am_ins 71 212 = some (.aload_n 0, 0, 0, .null) := by decide +kernel
theorem i_71_213 : am_ins 71 213 = some (.iload_n 3, 3, 0, .null) := by decide +kernel
theorem i_71_214 : am_ins 71 214 = some (.iconst 2, 0, 0, .int 2) := by decide +kernel
theorem i_71_215 : am_ins 71 215 = some (.iadd, 0, 0, .null) := by decide +kernel
theorem i_71_216 : am_ins 71 216 = some (.iaload, 0, 0, .null) := by decide +kernel
theorem i_71_217 : am_ins 71 217 = some (.aload_n 0, 0, 0, .null) := by decide +kernel
theorem i_71_218 : am_ins 71 218 = some (.iload_n 3, 3, 0, .null) := by decide +kernel
theorem i_71_219 : am_ins 71 219 = some (.iconst 3, 0, 0, .int 3) := by decide +kernel
theorem i_71_220 : am_ins 71 220 = some (.iadd, 0, 0, .null) := by decide +kernel
theorem i_71_221 : am_ins 71 221 = some (.iaload, 0, 0, .null) := by decide +kernel
theorem i_71_222 : am_ins 71 222 = some (.i2l, 0, 0, .null) := by decide +kernel
theorem i_71_223 : am_ins 71 223 = some (.bipush 32, 0, 0, .int 32) := by decide +kernel
theorem i_71_225 : am_ins 71 225 = some (.lshl, 0, 0, .null) := by decide +kernel
theorem i_71_226 : am_ins 71 226 = some (.aload_n 0, 0, 0, .null) := by decide +kernel
theorem i_71_227 : am_ins 71 227 = some (.iload_n 3, 3, 0, .null) := by decide +kernel
theorem i_71_228 : am_ins 71 228 = some (.iconst 4, 0, 0, .int 4) := by decide +kernel
theorem i_71_229 : am_ins 71 229 = some (.iadd, 0, 0, .null) := by decide +kernel
theorem i_71_230 : am_ins 71 230 = some (.iaload, 0, 0, .null) := by decide +kernel
theorem i_71_231 : am_ins 71 231 = some (.i2l, 0, 0, .null) := by decide +kernel
theorem i_71_232 : am_ins 71 232 = some (.ldc2_w 23, 0, 0, .long 4294967295) := by decide +kernel
theorem i_71_235 : am_ins 71 235 = some (.land, 0, 0, .null) := by decide +kernel
theorem i_71_236 : am_ins 71 236 = some (.lor, 0, 0, .null) := by decide +kernel
theorem i_71_237 : am_ins 71 237 = some (.invokevirtual 29, 48, 3, .null) := by decide +kernel
theorem i_71_240 : am_ins 71 240 = some (.if_icmp .eq 467, 707, 0, .null) := by decide +kernel
theorem i_71_243 : am_ins 71 243 = some (.iconst 0, 0, 0, .int 0) := by decide +kernel
theorem i_71_244 : am_ins 71 244 = some (.ireturn, 0, 0, .null) := by decide +kernel
theorem i_71_245 : am_ins 71 245 = some (.aload_n 1, 1, 0, .null) := by decide +kernel
theorem i_71_246 : am_ins 71 246 = some (.aload_n 0, 0, 0, .null) := by decide +kernel
theorem i_71_247 : am_ins 71 247 = some (.iload_n 3, 3, 0, .null) := by decide +kernel
theorem i_71_248 : am_ins 71 248 = some (.iconst 1, 0, 0, .int 1) := by decide +kernel
theorem i_71_249 : am_ins 71 249 = some (.iadd, 0, 0, .null) := by decide +kernel
theorem i_71_250 : am_ins 71 250 = some (.iaload, 0, 0, .null) := by decide +kernel
theorem i_71_251 : am_ins 71 251 = some (.aload_n 0, 0, 0, .null) := by decide +kernel
theorem i_71_252 : am_ins 71 252 = some (.iload_n 3, 3, 0, .null) := by decide +kernel
theorem i_71_253 : am_ins 71 253 = some (.iconst 2, 0, 0, .int 2) := by decide +kernel
theorem i_71_254 : am_ins 71 254 = some (.iadd, 0, 0, .null) := by decide +kernel
theorem i_71_255 : am_ins 71 255 = some (.iaload, 0, 0, .null) := by decide +kernel
theorem i_71_256 : am_ins 71 256 = some (.aload_n 0, 0, 0, .null) := by decide +kernel
theorem i_71_257 : am_ins 71 257 = some (.iload_n 3, 3, 0, .null) := by decide +kernel
theorem i_71_258 : am_ins 71 258 = some (.iconst 3, 0, 0, .int 3) := by decide +kernel
theorem i_71_259 : am_ins 71 259 = some (.iadd, 0, 0, .null) := by decide +kernel
theorem i_71_260 : am_ins 71 260 = some (.iaload, 0, 0, .null) := by decide +kernel
theorem i_71_261 : am_ins 71 261 = some (.invokevirtual 30, 4, 3, .null) := by decide +kernel
theorem i_71_264 : am_ins 71 264 = some (.aload_n 2, 2, 0, .null) := by decide +kernel
theorem i_71_265 : am_ins 71 265 = some (.aload_n 0, 0, 0, .null) := by decide +kernel
theorem i_71_266 : am_ins 71 266 = some (.iload_n 3, 3, 0, .null) := by decide +kernel
theorem i_71_267 : am_ins 71 267 = some (.iconst 1, 0, 0, .int 1) := by decide +kernel
theorem i_71_268 : am_ins 71 268 = some (.iadd, 0, 0, .null) := by decide +kernel
theorem i_71_269 : am_ins 71 269 = some (.iaload, 0, 0, .null) := by decide +kernel
theorem i_71_270 : am_ins 71 270 = some (.aload_n 0, 0, 0, .null) := by decide +kernel
theorem i_71_271 : am_ins 71 271 = some (.iload_n 3, 3, 0, .null) := by decide +kernel
theorem i_71_272 : am_ins 71 272 = some (.iconst 2, 0, 0, .int 2) := by decide +kernel
theorem i_71_273 : am_ins 71 273 = some (.iadd, 0, 0, .null) := by decide +kernel
theorem i_71_274 : am_ins 71 274 = some (.iaload, 0, 0, .null) := by decide +kernel
theorem i_71_275 : am_ins 71 275 = some (.aload_n 0, 0, 0, .null) := by decide +kernel
theorem i_71_276 : am_ins 71 276 = some (.iload_n 3, 3, 0, .null) := by decide +kernel
theorem i_71_277 : am_ins 71 277 = some (.iconst 3, 0, 0, .int 3) := by decide +kernel
theorem i_71_278 : am_ins 71 278 = some (.iadd, 0, 0, .null) := by decide +kernel
theorem i_71_279 : am_ins 71 279 = some (.iaload, 0, 0, .null) := by decide +kernel
theorem i_71_280 : am_ins 71 280 = some (.invokevirtual 33, 52, 3, .null) := by decide +kernel
theorem i_71_283 : am_ins 71 283 = some (.if_icmp .eq 424, 707, 0, .null) := by decide +kernel
theorem i_71_286 : am_ins 71 286 = some (.iconst 0, 0, 0, .int 0) := by decide +kernel
theorem i_71_287 : am_ins 71 287 = some (.ireturn, 0, 0, .null) := by decide +kernel
theorem i_71_288 : am_ins 71 288 = some (.aload_n 1, 1, 0, .null) := by decide +kernel
theorem i_71_289 : am_ins 71 289 = some (.aload_n 0, 0, 0, .null) := by decide +kernel
theorem i_71_290 : am_ins 71 290 = some (.iload_n 3, 3, 0, .null) := by decide +kernel
theorem i_71_291 : am_ins 71 291 = some (.iconst 1, 0, 0, .int 1) := by decide +kernel
theorem i_71_292 : am_ins 71 292 = some (.iadd, 0, 0, .null) := by decide +kernel
theorem i_71_293 : am_ins 71 293 = some (.iaload, 0, 0, .null) := by decide +kernel
theorem i_71_294 : am_ins 71 294 = some (.aload_n 0, 0, 0, .null) := by decide +kernel
theorem i_71_295 : am_ins 71 295 = some (.iload_n 3, 3, 0, .null) := by decide +kernel
theorem i_71_296 : am_ins 71 296 = some (.iconst 2, 0, 0, .int 2) := by decide +kernel
theorem i_71_297 : am_ins 71 297 = some (.iadd, 0, 0, .null) := by decide +kernel
theorem i_71_298 : am_ins 71 298 = some (.iaload, 0, 0, .null) := by decide +kernel
theorem i_71_299 : am_ins 71 299 = some (.invokevirtual 34, 5, 2, .null) := by decide +kernel
theorem i_71_302 : am_ins 71 302 = some (.aload_n 2, 2, 0, .null) := by decide +kernel
theorem i_71_303 : am_ins 71 303 = some (.aload_n 0, 0, 0, .null) := by decide +kernel
theorem i_71_304 : am_ins 71 304 = some (.iload_n 3, 3, 0, .null) := by decide +kernel
theorem i_71_305 : am_ins 71 305 = some (.iconst 1, 0, 0, .int 1) := by decide +kernel
theorem i_71_306 : am_ins 71 306 = some (.iadd, 0, 0, .null) := by decide +kernel
theorem i_71_307 : am_ins 71 307 = some (.iaload, 0, 0, .null) := by decide +kernel
theorem i_71_308 : am_ins 71 308 = some (.aload_n 0, 0, 0, .null) := by decide +kernel
theorem i_71_309 : am_ins 71 309 = some (.iload_n 3, 3, 0, .null) := by decide +kernel
theorem i_71_310 : am_ins 71 310 = some (.iconst 2, 0, 0, .int 2) := by decide +kernel
theorem i_71_311 : am_ins 71 311 = some (.iadd, 0, 0, .null) := by decide +kernel
theorem i_71_312 : am_ins 71 312 = some (.iaload, 0, 0, .null) := by decide +kernel
theorem i_71_313 : am_ins 71 313 = some (.invokevirtual 38, 53, 2, .null) := by decide +kernel
theorem i_71_316 : am_ins 71 316 = some (.if_icmp .eq 391, 707, 0, .null) := by decide +kernel
theorem i_71_319 : am_ins 71 319 = some (.iconst 0, 0, 0, .int 0) := by decide +kernel
theorem i_71_320 : am_ins 71 320 = some (.ireturn, 0, 0, .null) := by decide +kernel
theorem i_71_321 : am_ins 71 321 = some (.aload_n 1, 1, 0, .null) := by decide +kernel
theorem i_71_322 : am_ins 71 322 = some (.aload_n 0, 0, 0, .null) := by decide +kernel
theorem i_71_323 : am_ins 71 323 = some (.iload_n 3, 3, 0, .null) := by decide +kernel
theorem i_71_324 : am_ins 71 324 = some (.iconst 1, 0, 0, .int 1) := by decide +kernel
theorem i_71_325 : am_ins 71 325 = some (.iadd, 0, 0, .null) := by decide +kernel
theorem i_71_326 : am_ins 71 326 = some (.iaload, 0, 0, .null) := by decide +kernel
theorem i_71_327 : am_ins 71 327 = some (.aload_n 0, 0, 0, .null) := by decide +kernel
theorem i_71_328 : am_ins 71 328 = some (.iload_n 3, 3, 0, .null) := by decide +kernel
theorem i_71_329 : am_ins 71 329 = some (.iconst 2, 0, 0, .int 2) := by decide +kernel
theorem i_71_330 : am_ins 71 330 = some (.iadd, 0, 0, .null) := by decide +kernel
theorem i_71_331 : am_ins 71 331 = some (.iaload, 0, 0, .null) := by decide +kernel
theorem i_71_332 : am_ins 71 332 = some (.aload_n 0, 0, 0, .null) := by decide +kernel
theorem i_71_333 : am_ins 71 333 = some (.iload_n 3, 3, 0, .null) := by decide +kernel
theorem i_71_334 : am_ins 71 334 = some (.iconst 3, 0, 0, .int 3) := by decide +kernel
theorem i_71_335 : am_ins 71 335 = some (.iadd, 0, 0, .null) := by decide +kernel
theorem i_71_336 : am_ins 71 336 = some (.iaload, 0, 0, .null) := by decide +kernel
theorem i_71_337 : am_ins 71 337 = some (.invokevirtual 39, 6, 3, .null) := by decide +kernel
theorem i_71_340 : am_ins 71 340 = some (.aload_n 2, 2, 0, .null) := by decide +kernel
theorem i_71_341 : am_ins 71 341 = some (.aload_n 0, 0, 0, .null) := by decide +kernel
theorem i_71_342 : am_ins 71 342 = some (.iload_n 3, 3, 0, .null) := by decide +kernel
theorem i_71_343 : am_ins 71 343 = some (.iconst 1, 0, 0, .int 1) := by decide +kernel
theorem i_71_344 : am_ins 71 344 = some (.iadd, 0, 0, .null) := by decide +kernel
theorem i_71_345 : am_ins 71 345 = some (.iaload, 0, 0, .null) := by decide +kernel
theorem i_71_346 : am_ins 71 346 = some (.aload_n 0, 0, 0, .null) := by decide +kernel
theorem i_71_347 : am_ins 71 347 = some (.iload_n 3, 3, 0, .null) := by decide +kernel
theorem i_71_348 : am_ins 71 348 = some (.iconst 2, 0, 0, .int 2) := by decide +kernel
theorem i_71_349 : am_ins 71 349 = some (.iadd, 0, 0, .null) := by decide +kernel
theorem i_71_350 : am_ins 71 350 = some (.iaload, 0, 0, .null) := by decide +kernel
theorem i_71_351 : am_ins 71 351 = some (.aload_n 0, 0, 0, .null) := by decide +kernel
theorem i_71_352 : am_ins 71 352 = some (.iload_n 3, 3, 0, .null) := by decide +kernel
theorem i_71_353 : am_ins 71 353 = some (.iconst 3, 0, 0, .int 3) := by decide +kernel
theorem i_71_354 : am_ins 71 354 = some (.iadd, 0, 0, .null) := by decide +kernel
theorem i_71_355 : am_ins 71 355 = some (.iaload, 0, 0, .null) := by decide +kernel
theorem i_71_356 : am_ins 71 356 = some (.invokevirtual 42, 54, 3, .null) := by decide +kernel
theorem i_71_359 : am_ins 71 359 = some (.if_icmp .eq 348, 707, 0, .null) := by decide +kernel
theorem i_71_362 : am_ins 71 362 = some (.iconst 0, 0, 0, .int 0) := by decide +kernel
theorem i_71_363 : am_ins 71 363 = some (.ireturn, 0, 0, .null) := by decide +kernel
theorem i_71_364 : am_ins 71 364 = some (.aload_n 1, 1, 0, .null) := by decide +kernel
theorem i_71_365 : am_ins 71 365 = some (.aload_n 0, 0, 0, .null) := by decide +kernel
theorem i_71_366 : am_ins 71 366 = some (.iload_n 3, 3, 0, .null) := by decide +kernel
theorem i_71_367 : am_ins 71 367 = some (.iconst 1, 0, 0, .int 1) := by decide +kernel
theorem i_71_368 : am_ins 71 368 = some (.iadd, 0, 0, .null) := by decide +kernel
theorem i_71_369 : am_ins 71 369 = some (.iaload, 0, 0, .null) := by decide +kernel
theorem i_71_370 : am_ins 71 370 = some (.invokevirtual 43, 7, 1, .null) := by decide +kernel
theorem i_71_373 : am_ins 71 373 = some (.aload_n 2, 2, 0, .null) := by decide +kernel
theorem i_71_374 : am_ins 71 374 = some (.aload_n 0, 0, 0, .null) := by decide +kernel
theorem i_71_375 : am_ins 71 375 = some (.iload_n 3, 3, 0, .null) := by decide +kernel
theorem i_71_376 : am_ins 71 376 = some (.iconst 1, 0, 0, .int 1) := by decide +kernel
theorem i_71_377 : am_ins 71 377 = some (.iadd, 0, 0, .null) := by decide +kernel
theorem i_71_378 : am_ins 71 378 = some (.iaload, 0, 0, .null) := by decide +kernel
theorem i_71_379 : am_ins 71 379 = some (.invokevirtual 47, 60, 1, .null) := by decide +kernel
theorem i_71_382 : am_ins 71 382 = some (.if_icmp .eq 325, 707, 0, .null) := by decide +kernel
theorem i_71_385 : am_ins 71 385 = some (.iconst 0, 0, 0, .int 0) := by decide +kernel
theorem i_71_386 : am_ins 71 386 = some (.ireturn, 0, 0, .null) := by decide +kernel
theorem i_71_387 : am_ins 71 387 = some (.aload_n 1, 1, 0, .null) := by decide +kernel
theorem i_71_388 : am_ins 71 388 = some (.aload_n 0, 0, 0, .null) := by decide +kernel
theorem i_71_389 : am_ins 71 389 = some (.iload_n 3, 3, 0, .null) := by decide +kernel
theorem i_71_390 : am_ins 71 390 = some (.iconst 1, 0, 0, .int 1) := by decide +kernel
theorem i_71_391 : am_ins 71 391 = some (.iadd, 0, 0, .null) := by decide +kernel
theorem i_71_392 : am_ins 71 392 = some (.iaload, 0, 0, .null) := by decide +kernel
theorem i_71_393 : am_ins 71 393 = some (.aload_n 0, 0, 0, .null) := by decide +kernel
theorem i_71_394 : am_ins 71 394 = some (.iload_n 3, 3, 0, .null) := by decide +kernel
theorem i_71_395 : am_ins 71 395 = some (.iconst 2, 0, 0, .int 2) := by decide +kernel
theorem i_71_396 : am_ins 71 396 = some (.iadd, 0, 0, .null) := by decide +kernel
theorem i_71_397 : am_ins 71 397 = some (.iaload, 0, 0, .null) := by decide +kernel
theorem i_71_398 : am_ins 71 398 = some (.invokevirtual 48, 8, 2, .null) := by decide +kernel
theorem i_71_401 : am_ins 71 401 = some (.aload_n 2, 2, 0, .null) := by decide +kernel
theorem i_71_402 : am_ins 71 402 = some (.aload_n 0, 0, 0, .null) := by decide +kernel
theorem i_71_403 : am_ins 71 403 = some (.iload_n 3, 3, 0, .null) := by decide +kernel
theorem i_71_404 : am_ins 71 404 = some (.iconst 1, 0, 0, .int 1) := by decide +kernel
theorem i_71_405 : am_ins 71 405 = some (.iadd, 0, 0, .null) := by decide +kernel
theorem i_71_406 : am_ins 71 406 = some (.iaload, 0, 0, .null) := by decide +kernel
theorem i_71_407 : am_ins 71 407 = some (.aload_n 0, 0, 0, .null) := by decide +kernel
theorem i_71_408 : am_ins 71 408 = some (.iload_n 3, 3, 0, .null) := by decide +kernel
theorem i_71_409 : am_ins 71 409 = some (.iconst 2, 0, 0, .int 2) := by decide +kernel
theorem i_71_410 : am_ins 71 410 = some (.iadd, 0, 0, .null) := by decide +kernel
theorem i_71_411 : am_ins 71 411 = some (.iaload, 0, 0, .null) := by decide +kernel
theorem i_71_412 : am_ins 71 412 = some (.invokevirtual 51, 56, 2, .null) := by decide +kernel
theorem i_71_415 : am_ins 71 415 = some (.if_icmp .eq 292, 707, 0, .null) := by decide +kernel
theorem i_71_418 : am_ins 71 418 = some (.iconst 0, 0, 0, .int 0) := by decide +kernel
theorem i_71_419 : am_ins 71 419 = some (.ireturn, 0, 0, .null) := by decide +kernel
theorem i_71_420 : am_ins 71 420 = some (.aload_n 1, 1, 0, .null) := by decide +kernel
theorem i_71_421 : am_ins 71 421 = some (.aload_n 0, 0, 0, .null) := by decide +kernel
theorem i_71_422 : am_ins 71 422 = some (.iload_n 3, 3, 0, .null) := by decide +kernel
theorem i_71_423 : am_ins 71 423 = some (.iconst 1, 0, 0, .int 1) := by decide +kernel
theorem i_71_424 : am_ins 71 424 = some (.iadd, 0, 0, .null) := by decide +kernel
theorem i_71_425 : am_ins 71 425 = some (.iaload, 0, 0, .null) := by decide +kernel
theorem i_71_426 : am_ins 71 426 = some (.aload_n 0, 0, 0, .null) := by decide +kernel
theorem i_71_427 : am_ins 71 427 = some (.iload_n 3, 3, 0, .null) := by decide +kernel
theorem i_71_428 : am_ins 71 428 = some (.iconst 2, 0, 0, .int 2) := by decide +kernel
theorem i_71_429 : am_ins 71 429 = some (.iadd, 0, 0, .null) := by decide +kernel
theorem i_71_430 : am_ins 71 430 = some (.iaload, 0, 0, .null) := by decide +kernel
theorem i_71_431 : am_ins 71 431 = some (.invokevirtual 52, 9, 2, .null) := by decide +kernel
theorem i_71_434 : am_ins 71 434 = some (.aload_n 2, 2, 0, .null) := by decide +kernel
theorem i_71_435 : am_ins 71 435 = some (.aload_n 0, 0, 0, .null) := by decide +kernel
theorem i_71_436 : am_ins 71 436 = some (.iload_n 3, 3, 0, .null) := by decide +kernel
theorem i_71_437 : am_ins 71 437 = some (.iconst 1, 0, 0, .int 1) := by decide +kernel
theorem i_71_438 : am_ins 71 438 = some (.iadd, 0, 0, .null) := by decide +kernel
theorem i_71_439 : am_ins 71 439 = some (.iaload, 0, 0, .null) := by decide +kernel
theorem i_71_440 : am_ins 71 440 = some (.aload_n 0, 0, 0, .null) := by decide +kernel
theorem i_71_441 : am_ins 71 441 = some (.iload_n 3, 3, 0, .null) := by decide +kernel
theorem i_71_442 : am_ins 71 442 = some (.iconst 2, 0, 0, .int 2) := by decide +kernel
theorem i_71_443 : am_ins 71 443 = some (.iadd, 0, 0, .null) := by decide +kernel
theorem i_71_444 : am_ins 71 444 = some (.iaload, 0, 0, .null) := by decide +kernel
theorem i_71_445 : am_ins 71 445 = some (.invokevirtual 55, 50, 2, .null) := by decide +kernel
theorem i_71_448 : am_ins 71 448 = some (.if_icmp .eq 259, 707, 0, .null) := by decide +kernel
theorem i_71_451 : am_ins 71 451 = some (.iconst 0, 0, 0, .int 0) := by decide +kernel
theorem i_71_452 : am_ins 71 452 = some (.ireturn, 0, 0, .null) := by decide +kernel
theorem i_71_453 : am_ins 71 453 = some (.aload_n 1, 1, 0, .null) := by decide +kernel
theorem i_71_454 : am_ins 71 454 = some (.aload_n 0, 0, 0, .null) := by decide +kernel
theorem i_71_455 : am_ins 71 455 = some (.iload_n 3, 3, 0, .null) := by decide +kernel
theorem i_71_456 : am_ins 71 456 = some (.iconst 1, 0, 0, .int 1) := by decide +kernel
theorem i_71_457 : am_ins 71 457 = some (.iadd, 0, 0, .null) := by decide +kernel
theorem i_71_458 : am_ins 71 458 = some (.iaload, 0, 0, .null) := by decide +kernel
theorem i_71_459 : am_ins 71 459 = some (.i2l, 0, 0, .null) := by decide +kernel
theorem i_71_460 : am_ins 71 460 = some (.bipush 32, 0, 0, .int 32) := by decide +kernel
theorem i_71_462 : am_ins 71 462 = some (.lshl, 0, 0, .null) := by decide +kernel
theorem i_71_463 : am_ins 71 463 = some (.aload_n 0, 0, 0, .null) := by decide +kernel
theorem i_71_464 : am_ins 71 464 = some (.iload_n 3, 3, 0, .null) := by decide +kernel
theorem i_71_465 : am_ins 71 465 = some (.iconst 2, 0, 0, .int 2) := by decide +kernel
theorem i_71_466 : am_ins 71 466 = some (.iadd, 0, 0, .null) := by decide +kernel
theorem i_71_467 : am_ins 71 467 = some (.iaload, 0, 0, .null) := by decide +kernel
theorem i_71_468 : am_ins 71 468 = some (.i2l, 0, 0, .null) := by decide +kernel
theorem i_71_469 : am_ins 71 469 = some (.ldc2_w 23, 0, 0, .long 4294967295) := by decide +kernel
theorem i_71_472 : am_ins 71 472 = some (.land, 0, 0, .null) := by decide +kernel
theorem i_71_473 : am_ins 71 473 = some (.lor, 0, 0, .null) := by decide +kernel
theorem i_71_474 : am_ins 71 474 = some (.invokevirtual 56, 10, 1, .null) := by decide +kernel
theorem i_71_477 : am_ins 71 477 = some (.aload_n 2, 2, 0, .null) := by decide +kernel
theorem i_71_478 : am_ins 71 478 = some (.aload_n 0, 0, 0, .null) := by decide +kernel
theorem i_71_479 : am_ins 71 479 = some (.iload_n 3, 3, 0, .null) := by decide +kernel
theorem i_71_480 : am_ins 71 480 = some (.iconst 1, 0, 0, .int 1) := by decide +kernel
theorem i_71_481 : am_ins 71 481 = some (.iadd, 0, 0, .null) := by decide +kernel
theorem i_71_482 : am_ins 71 482 = some (.iaload, 0, 0, .null) := by decide +kernel
theorem i_71_483 : am_ins 71 483 = some (.i2l, 0, 0, .null) := by decide +kernel
theorem i_71_484 : am_ins 71 484 = some (.bipush 32, 0, 0, .int 32) := by decide +kernel
theorem i_71_486 : am_ins 71 486 = some (.lshl, 0, 0, .null) := by decide +kernel
theorem i_71_487 : am_ins 71 487 = some (.aload_n 0, 0, 0, .null) := by decide +kernel
theorem i_71_488 : am_ins 71 488 = some (.iload_n 3, 3, 0, .null) := by decide +kernel
theorem i_71_489 : am_ins 71 489 = some (.iconst 2, 0, 0, .int 2) := by decide +kernel
theorem i_71_490 : am_ins 71 490 = some (.iadd, 0, 0, .null) := by decide +kernel
theorem i_71_491 : am_ins 71 491 = some (.iaload, 0, 0, .null) := by decide +kernel
theorem i_71_492 : am_ins 71 492 = some (.i2l, 0, 0, .null) := by decide +kernel
theorem i_71_493 : am_ins 71 493 = some (.ldc2_w 23, 0, 0, .long 4294967295) := by decide +kernel
theorem i_71_496 : am_ins 71 496 = some (.land, 0, 0, .null) := by decide +kernel
theorem i_71_497 : am_ins 71 497 = some (.lor, 0, 0, .null) := by decide +kernel
theorem i_71_498 : am_ins 71 498 = some (.invokevirtual 60, 49, 1, .null) := by decide +kernel
theorem i_71_501 : am_ins 71 501 = some (.if_icmp .eq 206, 707, 0, .null) := by decide +kernel
theorem i_71_504 : am_ins 71 504 = some (.iconst 0, 0, 0, .int 0) := by decide +kernel
theorem i_71_505 : am_ins 71 505 = some (.ireturn, 0, 0, .null) := by decide +kernel
theorem i_71_506 : am_ins 71 506 = some (.aload_n 1, 1, 0, .null) := by decide +kernel
theorem i_71_507 : am_ins 71 507 = some (.aload_n 0, 0, 0, .null) := by decide +kernel
theorem i_71_508 : am_ins 71 508 = some (.iload_n 3, 3, 0, .null) := by decide +kernel
theorem i_71_509 : am_ins 71 509 = some (.iconst 1, 0, 0, .int 1) := by decide +kernel
theorem i_71_510 : am_ins 71 510 = some (.iadd, 0, 0, .null) := by decide +kernel
theorem i_71_511 : am_ins 71 511 = some (.iaload, 0, 0, .null) := by decide +kernel
theorem i_71_512 : am_ins 71 512 = some (.invokevirtual 61, 11, 1, .null) := by decide +kernel
theorem i_71_515 : am_ins 71 515 = some (.aload_n 2, 2, 0, .null) := by decide +kernel
theorem i_71_516 : am_ins 71 516 = some (.aload_n 0, 0, 0, .null) := by decide +kernel
theorem i_71_517 : am_ins 71 517 = some (.iload_n 3, 3, 0, .null) := by decide +kernel
theorem i_71_518 : am_ins 71 518 = some (.iconst 1, 0, 0, .int 1) := by decide +kernel
theorem i_71_519 : am_ins 71 519 = some (.iadd, 0, 0, .null) := by decide +kernel
theorem i_71_520 : am_ins 71 520 = some (.iaload, 0, 0, .null) := by decide +kernel
theorem i_71_521 : am_ins 71 521 = some (.invokevirtual 64, 55, 1, .null) := by decide +kernel
theorem i_71_524 : am_ins 71 524 = some (.if_icmp .eq 183, 707, 0, .null) := by decide +kernel
theorem i_71_527 : am_ins 71 527 = some (.iconst 0, 0, 0, .int 0) := by decide +kernel
theorem i_71_528 : am_ins 71 528 = some (.ireturn, 0, 0, .null) := by decide +kernel
theorem i_71_529 : am_ins 71 529 = some (.aload_n 1, 1, 0, .null) := by decide +kernel
theorem i_71_530 : am_ins 71 530 = some (.aload_n 0, 0, 0, .null) := by decide +kernel
theorem i_71_531 : am_ins 71 531 = some (.iload_n 3, 3, 0, .null) := by decide +kernel
theorem i_71_532 : am_ins 71 532 = some (.iconst 1, 0, 0, .int 1) := by decide +kernel
theorem i_71_533 : am_ins 71 533 = some (.iadd, 0, 0, .null) := by decide +kernel
theorem i_71_534 : am_ins 71 534 = some (.iaload, 0, 0, .null) := by decide +kernel
theorem i_71_535 : am_ins 71 535 = some (.aload_n 0, 0, 0, .null) := by decide +kernel
theorem i_71_536 : am_ins 71 536 = some (.iload_n 3, 3, 0, .null) := by decide +kernel
theorem i_71_537 : am_ins 71 537 = some (.iconst 2, 0, 0, .int 2) := by decide +kernel
theorem i_71_538 : am_ins 71 538 = some (.iadd, 0, 0, .null) := by decide +kernel
theorem i_71_539 : am_ins 71 539 = some (.iaload, 0, 0, .null) := by decide +kernel
theorem i_71_540 : am_ins 71 540 = some (.aload_n 0, 0, 0, .null) := by decide +kernel
theorem i_71_541 : am_ins 71 541 = some (.iload_n 3, 3, 0, .null) := by decide +kernel
theorem i_71_542 : am_ins 71 542 = some (.iconst 3, 0, 0, .int 3) := by decide +kernel
theorem i_71_543 : am_ins 71 543 = some (.iadd, 0, 0, .null) := by decide +kernel
theorem i_71_544 : am_ins 71 544 = some (.iaload, 0, 0, .null) := by decide +kernel
theorem i_71_545 : am_ins 71 545 = some (.invokevirtual 65, 12, 3, .null) := by decide +kernel
theorem i_71_548 : am_ins 71 548 = some (.aload_n 2, 2, 0, .null) := by decide +kernel
theorem i_71_549 : am_ins 71 549 = some (.aload_n 0, 0, 0, .null) := by decide +kernel
theorem i_71_550 : am_ins 71 550 = some (.iload_n 3, 3, 0, .null) := by decide +kernel
theorem i_71_551 : am_ins 71 551 = some (.iconst 1, 0, 0, .int 1) := by decide +kernel
theorem i_71_552 : am_ins 71 552 = some (.iadd, 0, 0, .null) := by decide +kernel
theorem i_71_553 : am_ins 71 553 = some (.iaload, 0, 0, .null) := by decide +kernel
theorem i_71_554 : am_ins 71 554 = some (.aload_n 0, 0, 0, .null) := by decide +kernel
theorem i_71_555 : am_ins 71 555 = some (.iload_n 3, 3, 0, .null) := by decide +kernel
theorem i_71_556 : am_ins 71 556 = some (.iconst 2, 0, 0, .int 2) := by decide +kernel
theorem i_71_557 : am_ins 71 557 = some (.iadd, 0, 0, .null) := by decide +kernel
theorem i_71_558 : am_ins 71 558 = some (.iaload, 0, 0, .null) := by decide +kernel
theorem i_71_559 : am_ins 71 559 = some (.aload_n 0, 0, 0, .null) := by decide +kernel
theorem i_71_560 : am_ins 71 560 = some (.iload_n 3, 3, 0, .null) := by decide +kernel
theorem i_71_561 : am_ins 71 561 = some (.iconst 3, 0, 0, .int 3) := by decide +kernel
theorem i_71_562 : am_ins 71 562 = some (.iadd, 0, 0, .null) := by decide +kernel
theorem i_71_563 : am_ins 71 563 = some (.iaload, 0, 0, .null) := by decide +kernel
theorem i_71_564 : am_ins 71 564 = some (.invokevirtual 68, 58, 3, .null) := by decide +kernel
theorem i_71_567 : am_ins 71 567 = some (.if_icmp .eq 140, 707, 0, .null) := by decide +kernel
theorem i_71_570 : am_ins 71 570 = some (.iconst 0, 0, 0, .int 0) := by decide +kernel
theorem i_71_571 : am_ins 71 571 = some (.ireturn, 0, 0, .null) := by decide +kernel
theorem i_71_572 : am_ins 71 572 = some (.aload_n 1, 1, 0, .null) := by decide +kernel
theorem i_71_573 : am_ins 71 573 = some (.aload_n 0, 0, 0, .null) := by decide +kernel
theorem i_71_574 : am_ins 71 574 = some (.iload_n 3, 3, 0, .null) := by decide +kernel
theorem i_71_575 : am_ins 71 575 = some (.iconst 1, 0, 0, .int 1) := by decide +kernel
theorem i_71_576 : am_ins 71 576 = some (.iadd, 0, 0, .null) := by decide +kernel
theorem i_71_577 : am_ins 71 577 = some (.iaload, 0, 0, .null) := by decide +kernel
theorem i_71_578 : am_ins 71 578 = some (.aload_n 0, 0, 0, .null) := by decide +kernel
theorem i_71_579 : am_ins 71 579 = some (.iload_n 3, 3, 0, .null) := by decide +kernel
theorem i_71_580 : am_ins 71 580 = some (.iconst 2, 0, 0, .int 2) := by decide +kernel
theorem i_71_581 : am_ins 71 581 = some (.iadd, 0, 0, .null) := by decide +kernel
theorem i_71_582 : am_ins 71 582 = some (.iaload, 0, 0, .null) := by decide +kernel
theorem i_71_583 : am_ins 71 583 = some (.invokevirtual 69, 13, 2, .null) := by decide +kernel
theorem i_71_586 : am_ins 71 586 = some (.aload_n 2, 2, 0, .null) := by decide +kernel
theorem i_71_587 : am_ins 71 587 = some (.aload_n 0, 0, 0, .null) := by decide +kernel
theorem i_71_588 : am_ins 71 588 = some (.iload_n 3, 3, 0, .null) := by decide +kernel
theorem i_71_589 : am_ins 71 589 = some (.iconst 1, 0, 0, .int 1) := by decide +kernel
theorem i_71_590 : am_ins 71 590 = some (.iadd, 0, 0, .null) := by decide +kernel
theorem i_71_591 : am_ins 71 591 = some (.iaload, 0, 0, .null) := by decide +kernel
theorem i_71_592 : am_ins 71 592 = some (.aload_n 0, 0, 0, .null) := by decide +kernel
theorem i_71_593 : am_ins 71 593 = some (.iload_n 3, 3, 0, .null) := by decide +kernel
theorem i_71_594 : am_ins 71 594 = some (.iconst 2, 0, 0, .int 2) := by decide +kernel
theorem i_71_595 : am_ins 71 595 = some (.iadd, 0, 0, .null) := by decide +kernel
theorem i_71_596 : am_ins 71 596 = some (.iaload, 0, 0, .null) := by decide +kernel
theorem i_71_597 : am_ins 71 597 = some (.invokevirtual 72, 59, 2, .null) := by decide +kernel
theorem i_71_600 : am_ins 71 600 = some (.if_icmp .eq 107, 707, 0, .null) := by decide +kernel
theorem i_71_603 : am_ins 71 603 = some (.iconst 0, 0, 0, .int 0) := by decide +kernel
theorem i_71_604 : am_ins 71 604 = some (.ireturn, 0, 0, .null) := by decide +kernel
theorem i_71_605 : am_ins 71 605 = some (.aload_n 1, 1, 0, .null) := by decide +kernel
theorem i_71_606 : am_ins 71 606 = some (.aload_n 0, 0, 0, .null) := by decide +kernel
theorem i_71_607 : am_ins 71 607 = some (.iload_n 3, 3, 0, .null) := by decide +kernel
theorem i_71_608 : am_ins 71 608 = some (.iconst 1, 0, 0, .int 1) := by decide +kernel
theorem i_71_609 : am_ins 71 609 = some (.iadd, 0, 0, .null) := by decide +kernel
theorem i_71_610 : am_ins 71 610 = some (.iaload, 0, 0, .null) := by decide +kernel
theorem i_71_611 : am_ins 71 611 = some (.invokevirtual 73, 14, 1, .null) := by decide +kernel
theorem i_71_614 : am_ins 71 614 = some (.aload_n 2, 2, 0, .null) := by decide +kernel
theorem i_71_615 : am_ins 71 615 = some (.aload_n 0, 0, 0, .null) := by decide +kernel
theorem i_71_616 : am_ins 71 616 = some (.iload_n 3, 3, 0, .null) := by decide +kernel
theorem i_71_617 : am_ins 71 617 = some (.iconst 1, 0, 0, .int 1) := by decide +kernel
theorem i_71_618 : am_ins 71 618 = some (.iadd, 0, 0, .null) := by decide +kernel
theorem i_71_619 : am_ins 71 619 = some (.iaload, 0, 0, .null) := by decide +kernel
theorem i_71_620 : am_ins 71 620 = some (.invokevirtual 76, 61, 1, .null) := by decide +kernel
theorem i_71_623 : am_ins 71 623 = some (.if_icmp .eq 84, 707, 0, .null) := by decide +kernel
theorem i_71_626 : am_ins 71 626 = some (.iconst 0, 0, 0, .int 0) := by decide +kernel
theorem i_71_627 : am_ins 71 627 = some (.ireturn, 0, 0, .null) := by decide +kernel
theorem i_71_628 : am_ins 71 628 = some (.aload_n 1, 1, 0, .null) := by decide +kernel
theorem i_71_629 : am_ins 71 629 = some (.aload_n 0, 0, 0, .null) := by decide +kernel
theorem i_71_630 : am_ins 71 630 = some (.iload_n 3, 3, 0, .null) := by decide +kernel
theorem i_71_631 : am_ins 71 631 = some (.iconst 1, 0, 0, .int 1) := by decide +kernel
theorem i_71_632 : am_ins 71 632 = some (.iadd, 0, 0, .null) := by decide +kernel
theorem i_71_633 : am_ins 71 633 = some (.iaload, 0, 0, .null) := by decide +kernel
theorem i_71_634 : am_ins 71 634 = some (.aload_n 0, 0, 0, .null) := by decide +kernel
theorem i_71_635 : am_ins 71 635 = some (.iload_n 3, 3, 0, .null) := by decide +kernel
theorem i_71_636 : am_ins 71 636 = some (.iconst 2, 0, 0, .int 2) := by decide +kernel
theorem i_71_637 : am_ins 71 637 = some (.iadd, 0, 0, .null) := by decide +kernel
theorem i_71_638 : am_ins 71 638 = some (.iaload, 0, 0, .null) := by decide +kernel
theorem i_71_639 : am_ins 71 639 = some (.invokevirtual 77, 15, 2, .null) := by decide +kernel
theorem i_71_642 : am_ins 71 642 = some (.aload_n 2, 2, 0, .null) := by decide +kernel
theorem i_71_643 : am_ins 71 643 = some (.aload_n 0, 0, 0, .null) := by decide +kernel
theorem i_71_644 : am_ins 71 644 = some (.iload_n 3, 3, 0, .null) := by decide +kernel
theorem i_71_645 : am_ins 71 645 = some (.iconst 1, 0, 0, .int 1) := by decide +kernel
theorem i_71_646 : am_ins 71 646 = some (.iadd, 0, 0, .null) := by decide +kernel
theorem i_71_647 : am_ins 71 647 = some (.iaload, 0, 0, .null) := by decide +kernel
theorem i_71_648 : am_ins 71 648 = some (.aload_n 0, 0, 0, .null) := by decide +kernel
theorem i_71_649 : am_ins 71 649 = some (.iload_n 3, 3, 0, .null) := by decide +kernel
theorem i_71_650 : am_ins 71 650 = some (.iconst 2, 0, 0, .int 2) := by decide +kernel
theorem i_71_651 : am_ins 71 651 = some (.iadd, 0, 0, .null) := by decide +kernel
theorem i_71_652 : am_ins 71 652 = some (.iaload, 0, 0, .null) := by decide +kernel
theorem i_71_653 : am_ins 71 653 = some (.invokevirtual 80, 62, 2, .null) := by decide +kernel
theorem i_71_656 : am_ins 71 656 = some (.if_icmp .eq 51, 707, 0, .null) := by decide +kernel
theorem i_71_659 : am_ins 71 659 = some (.iconst 0, 0, 0, .int 0) := by decide +kernel
theorem i_71_660 : am_ins 71 660 = some (.ireturn, 0, 0, .null) := by decide +kernel
theorem i_71_661 : am_ins 71 661 = some (.aload_n 1, 1, 0, .null) := by decide +kernel
theorem i_71_662 : am_ins 71 662 = some (.aload_n 0, 0, 0, .null) := by decide +kernel
theorem i_71_663 : am_ins 71 663 = some (.iload_n 3, 3, 0, .null) := by decide +kernel
theorem i_71_664 : am_ins 71 664 = some (.iconst 1, 0, 0, .int 1) := by decide +kernel
theorem i_71_665 : am_ins 71 665 = some (.iadd, 0, 0, .null) := by decide +kernel
theorem i_71_666 : am_ins 71 666 = some (.iaload, 0, 0, .null) := by decide +kernel
theorem i_71_667 : am_ins 71 667 = some (.invokevirtual 81, 16, 1, .null) := by decide +kernel
theorem i_71_670 : am_ins 71 670 = some (.aload_n 2, 2, 0, .null) := by decide +kernel
theorem i_71_671 : am_ins 71 671 = some (.aload_n 0, 0, 0, .null) := by decide +kernel
theorem i_71_672 : am_ins 71 672 = some (.iload_n 3, 3, 0, .null) := by decide +kernel
theorem i_71_673 : am_ins 71 673 = some (.iconst 1, 0, 0, .int 1) := by decide +kernel
theorem i_71_674 : am_ins 71 674 = some (.iadd, 0, 0, .null) := by decide +kernel
theorem i_71_675 : am_ins 71 675 = some (.iaload, 0, 0, .null) := by decide +kernel
theorem i_71_676 : am_ins 71 676 = some (.invokevirtual 84, 63, 1, .null) := by decide +kernel
theorem i_71_679 : am_ins 71 679 = some (.if_icmp .eq 28, 707, 0, .null) := by decide +kernel
theorem i_71_682 : am_ins 71 682 = some (.iconst 0, 0, 0, .int 0) := by decide +kernel
theorem i_71_683 : am_ins 71 683 = some (.ireturn, 0, 0, .null) := by decide +kernel
theorem i_71_684 : am_ins 71 684 = some (.aload_n 1, 1, 0, .null) := by decide +kernel
theorem i_71_685 : am_ins 71 685 = some (.aload_n 0, 0, 0, .null) := by decide +kernel
theorem i_71_686 : am_ins 71 686 = some (.iload_n 3, 3, 0, .null) := by decide +kernel
theorem i_71_687 : am_ins 71 687 = some (.iconst 1, 0, 0, .int 1) := by decide +kernel
theorem i_71_688 : am_ins 71 688 = some (.iadd, 0, 0, .null) := by decide +kernel
theorem i_71_689 : am_ins 71 689 = some (.iaload, 0, 0, .null) := by decide +kernel
theorem i_71_690 : am_ins 71 690 = some (.invokevirtual 85, 17, 1, .null) := by decide +kernel
theorem i_71_693 : am_ins 71 693 = some (.aload_n 2, 2, 0, .null) := by decide +kernel
theorem i_71_694 : am_ins 71 694 = some (.aload_n 0, 0, 0, .null) := by decide +kernel
theorem i_71_695 : am_ins 71 695 = some (.iload_n 3, 3, 0, .null) := by decide +kernel
theorem i_71_696 : am_ins 71 696 = some (.iconst 1, 0, 0, .int 1) := by decide +kernel
theorem i_71_697 : am_ins 71 697 = some (.iadd, 0, 0, .null) := by decide +kernel
theorem i_71_698 : am_ins 71 698 = some (.iaload, 0, 0, .null) := by decide +kernel
theorem i_71_699 : am_ins 71 699 = some (.invokevirtual 88, 64, 1, .null) := by decide +kernel
theorem i_71_702 : am_ins 71 702 = some (.if_icmp .eq 5, 707, 0, .null) := by decide +kernel
theorem i_71_705 : am_ins 71 705 = some (.iconst 0, 0, 0, .int 0) := by decide +kernel
theorem i_71_706 : am_ins 71 706 = some (.ireturn, 0, 0, .null) := by decide +kernel
theorem i_71_707 : am_ins 71 707 = some (.iinc 3 5, 3, 0, .int 5) := by decide +kernel
theorem i_71_710 : am_ins 71 710 = some (.goto (-692), 18, 0, .null) := by decide +kernel
theorem i_71_713 : am_ins 71 713 = some (.iconst 1, 0, 0, .int 1) := by decide +kernel
theorem i_71_714 : am_ins 71 714 = some (.ireturn, 0, 0, .null) := by decide +kernel

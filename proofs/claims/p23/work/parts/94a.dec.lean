/-! the law's code, row by row (0) -/
theorem tdl_0 : decode code 0 = .ok (.new 7, 3) := by decide +kernel
theorem tdl_3 : decode code 3 = .ok (.dup, 1) := by decide +kernel
theorem tdl_4 : decode code 4 = .ok (.invokespecial 9, 3) := by decide +kernel
theorem tdl_7 : decode code 7 = .ok (.astore_n 1, 1) := by decide +kernel
theorem tdl_8 : decode code 8 = .ok (.new 10, 3) := by decide +kernel
theorem tdl_11 : decode code 11 = .ok (.dup, 1) := by decide +kernel
theorem tdl_12 : decode code 12 = .ok (.invokespecial 12, 3) := by decide +kernel
theorem tdl_15 : decode code 15 = .ok (.astore_n 2, 1) := by decide +kernel
theorem tdl_16 : decode code 16 = .ok (.iconst 0, 1) := by decide +kernel
theorem tdl_17 : decode code 17 = .ok (.istore_n 3, 1) := by decide +kernel
theorem tdl_18 : decode code 18 = .ok (.iload_n 3, 1) := by decide +kernel
theorem tdl_19 : decode code 19 = .ok (.aload_n 0, 1) := by decide +kernel
theorem tdl_20 : decode code 20 = .ok (.arraylength, 1) := by decide +kernel
theorem tdl_21 : decode code 21 = .ok (.bipush 6, 2) := by decide +kernel
theorem tdl_23 : decode code 23 = .ok (.isub, 1) := by decide +kernel
theorem tdl_24 : decode code 24 = .ok (.if_icmp .gt 1342, 3) := by decide +kernel
theorem tdl_27 : decode code 27 = .ok (.aload_n 0, 1) := by decide +kernel
theorem tdl_28 : decode code 28 = .ok (.iload_n 3, 1) := by decide +kernel
theorem tdl_29 : decode code 29 = .ok (.iaload, 1) := by decide +kernel
theorem tdl_30 : decode code 30 = .ok (.bipush 63, 2) := by decide +kernel
theorem tdl_32 : decode code 32 = .ok (.iand, 1) := by decide +kernel
theorem tdl_33 : decode code 33 = .ok (.tableswitch 1327 0 35 #[159, 182, 225, 258, 301, 334, 377, 410, 433, 476, 519, 552, 615, 668, 701, 734, 767, 780, 813, 836, 869, 912, 945, 978, 1041, 1064, 1077, 1100, 1123, 1156, 1189, 1212, 1245, 1278, 1291, 1314], 159) := by decide +kernel
theorem tdl_192 : decode code 192 = .ok (.aload_n 1, 1) := by decide +kernel
theorem tdl_193 : decode code 193 = .ok (.aload_n 0, 1) := by decide +kernel
theorem tdl_194 : decode code 194 = .ok (.iload_n 3, 1) := by decide +kernel
theorem tdl_195 : decode code 195 = .ok (.iconst 1, 1) := by decide +kernel
theorem tdl_196 : decode code 196 = .ok (.iadd, 1) := by decide +kernel
theorem tdl_197 : decode code 197 = .ok (.iaload, 1) := by decide +kernel
theorem tdl_198 : decode code 198 = .ok (.invokevirtual 13, 3) := by decide +kernel
theorem tdl_201 : decode code 201 = .ok (.pop, 1) := by decide +kernel
theorem tdl_202 : decode code 202 = .ok (.aload_n 2, 1) := by decide +kernel
theorem tdl_203 : decode code 203 = .ok (.aload_n 0, 1) := by decide +kernel
theorem tdl_204 : decode code 204 = .ok (.iload_n 3, 1) := by decide +kernel
theorem tdl_205 : decode code 205 = .ok (.iconst 1, 1) := by decide +kernel
theorem tdl_206 : decode code 206 = .ok (.iadd, 1) := by decide +kernel
theorem tdl_207 : decode code 207 = .ok (.iaload, 1) := by decide +kernel
theorem tdl_208 : decode code 208 = .ok (.invokevirtual 17, 3) := by decide +kernel
theorem tdl_211 : decode code 211 = .ok (.pop, 1) := by decide +kernel
theorem tdl_212 : decode code 212 = .ok (.goto 1148, 3) := by decide +kernel
theorem tdl_215 : decode code 215 = .ok (.aload_n 1, 1) := by decide +kernel
theorem tdl_216 : decode code 216 = .ok (.aload_n 0, 1) := by decide +kernel
theorem tdl_217 : decode code 217 = .ok (.iload_n 3, 1) := by decide +kernel
theorem tdl_218 : decode code 218 = .ok (.iconst 1, 1) := by decide +kernel
theorem tdl_219 : decode code 219 = .ok (.iadd, 1) := by decide +kernel
theorem tdl_220 : decode code 220 = .ok (.iaload, 1) := by decide +kernel
theorem tdl_221 : decode code 221 = .ok (.aload_n 0, 1) := by decide +kernel
theorem tdl_222 : decode code 222 = .ok (.iload_n 3, 1) := by decide +kernel
theorem tdl_223 : decode code 223 = .ok (.iconst 2, 1) := by decide +kernel
theorem tdl_224 : decode code 224 = .ok (.iadd, 1) := by decide +kernel
theorem tdl_225 : decode code 225 = .ok (.iaload, 1) := by decide +kernel
theorem tdl_226 : decode code 226 = .ok (.aload_n 0, 1) := by decide +kernel
theorem tdl_227 : decode code 227 = .ok (.iload_n 3, 1) := by decide +kernel
theorem tdl_228 : decode code 228 = .ok (.iconst 3, 1) := by decide +kernel
theorem tdl_229 : decode code 229 = .ok (.iadd, 1) := by decide +kernel
theorem tdl_230 : decode code 230 = .ok (.iaload, 1) := by decide +kernel
theorem tdl_231 : decode code 231 = .ok (.invokevirtual 18, 3) := by decide +kernel
theorem tdl_234 : decode code 234 = .ok (.pop, 1) := by decide +kernel
theorem tdl_235 : decode code 235 = .ok (.aload_n 2, 1) := by decide +kernel
theorem tdl_236 : decode code 236 = .ok (.aload_n 0, 1) := by decide +kernel
theorem tdl_237 : decode code 237 = .ok (.iload_n 3, 1) := by decide +kernel
theorem tdl_238 : decode code 238 = .ok (.iconst 1, 1) := by decide +kernel
theorem tdl_239 : decode code 239 = .ok (.iadd, 1) := by decide +kernel
theorem tdl_240 : decode code 240 = .ok (.iaload, 1) := by decide +kernel
theorem tdl_241 : decode code 241 = .ok (.aload_n 0, 1) := by decide +kernel
theorem tdl_242 : decode code 242 = .ok (.iload_n 3, 1) := by decide +kernel
theorem tdl_243 : decode code 243 = .ok (.iconst 2, 1) := by decide +kernel
theorem tdl_244 : decode code 244 = .ok (.iadd, 1) := by decide +kernel
theorem tdl_245 : decode code 245 = .ok (.iaload, 1) := by decide +kernel
theorem tdl_246 : decode code 246 = .ok (.aload_n 0, 1) := by decide +kernel
theorem tdl_247 : decode code 247 = .ok (.iload_n 3, 1) := by decide +kernel
theorem tdl_248 : decode code 248 = .ok (.iconst 3, 1) := by decide +kernel
theorem tdl_249 : decode code 249 = .ok (.iadd, 1) := by decide +kernel
theorem tdl_250 : decode code 250 = .ok (.iaload, 1) := by decide +kernel
theorem tdl_251 : decode code 251 = .ok (.invokevirtual 22, 3) := by decide +kernel
theorem tdl_254 : decode code 254 = .ok (.pop, 1) := by decide +kernel
theorem tdl_255 : decode code 255 = .ok (.goto 1105, 3) := by decide +kernel
theorem tdl_258 : decode code 258 = .ok (.aload_n 1, 1) := by decide +kernel
theorem tdl_259 : decode code 259 = .ok (.aload_n 0, 1) := by decide +kernel
theorem tdl_260 : decode code 260 = .ok (.iload_n 3, 1) := by decide +kernel
theorem tdl_261 : decode code 261 = .ok (.iconst 1, 1) := by decide +kernel
theorem tdl_262 : decode code 262 = .ok (.iadd, 1) := by decide +kernel
theorem tdl_263 : decode code 263 = .ok (.iaload, 1) := by decide +kernel
theorem tdl_264 : decode code 264 = .ok (.aload_n 0, 1) := by decide +kernel
theorem tdl_265 : decode code 265 = .ok (.iload_n 3, 1) := by decide +kernel
theorem tdl_266 : decode code 266 = .ok (.iconst 2, 1) := by decide +kernel
theorem tdl_267 : decode code 267 = .ok (.iadd, 1) := by decide +kernel
theorem tdl_268 : decode code 268 = .ok (.iaload, 1) := by decide +kernel
theorem tdl_269 : decode code 269 = .ok (.invokevirtual 23, 3) := by decide +kernel
theorem tdl_272 : decode code 272 = .ok (.pop, 1) := by decide +kernel
theorem tdl_273 : decode code 273 = .ok (.aload_n 2, 1) := by decide +kernel
theorem tdl_274 : decode code 274 = .ok (.aload_n 0, 1) := by decide +kernel
theorem tdl_275 : decode code 275 = .ok (.iload_n 3, 1) := by decide +kernel
theorem tdl_276 : decode code 276 = .ok (.iconst 1, 1) := by decide +kernel
theorem tdl_277 : decode code 277 = .ok (.iadd, 1) := by decide +kernel
theorem tdl_278 : decode code 278 = .ok (.iaload, 1) := by decide +kernel
theorem tdl_279 : decode code 279 = .ok (.aload_n 0, 1) := by decide +kernel
theorem tdl_280 : decode code 280 = .ok (.iload_n 3, 1) := by decide +kernel
theorem tdl_281 : decode code 281 = .ok (.iconst 2, 1) := by decide +kernel
theorem tdl_282 : decode code 282 = .ok (.iadd, 1) := by decide +kernel
theorem tdl_283 : decode code 283 = .ok (.iaload, 1) := by decide +kernel
theorem tdl_284 : decode code 284 = .ok (.invokevirtual 27, 3) := by decide +kernel
theorem tdl_287 : decode code 287 = .ok (.pop, 1) := by decide +kernel
theorem tdl_288 : decode code 288 = .ok (.goto 1072, 3) := by decide +kernel
theorem tdl_291 : decode code 291 = .ok (.aload_n 1, 1) := by decide +kernel
theorem tdl_292 : decode code 292 = .ok (.aload_n 0, 1) := by decide +kernel
theorem tdl_293 : decode code 293 = .ok (.iload_n 3, 1) := by decide +kernel
theorem tdl_294 : decode code 294 = .ok (.iconst 1, 1) := by decide +kernel
theorem tdl_295 : decode code 295 = .ok (.iadd, 1) := by decide +kernel
theorem tdl_296 : decode code 296 = .ok (.iaload, 1) := by decide +kernel
theorem tdl_297 : decode code 297 = .ok (.aload_n 0, 1) := by decide +kernel
theorem tdl_298 : decode code 298 = .ok (.iload_n 3, 1) := by decide +kernel
theorem tdl_299 : decode code 299 = .ok (.iconst 2, 1) := by decide +kernel
theorem tdl_300 : decode code 300 = .ok (.iadd, 1) := by decide +kernel
theorem tdl_301 : decode code 301 = .ok (.iaload, 1) := by decide +kernel
theorem tdl_302 : decode code 302 = .ok (.aload_n 0, 1) := by decide +kernel
theorem tdl_303 : decode code 303 = .ok (.iload_n 3, 1) := by decide +kernel
theorem tdl_304 : decode code 304 = .ok (.iconst 3, 1) := by decide +kernel
theorem tdl_305 : decode code 305 = .ok (.iadd, 1) := by decide +kernel
theorem tdl_306 : decode code 306 = .ok (.iaload, 1) := by decide +kernel
theorem tdl_307 : decode code 307 = .ok (.invokevirtual 28, 3) := by decide +kernel
theorem tdl_310 : decode code 310 = .ok (.pop, 1) := by decide +kernel
theorem tdl_311 : decode code 311 = .ok (.aload_n 2, 1) := by decide +kernel
theorem tdl_312 : decode code 312 = .ok (.aload_n 0, 1) := by decide +kernel
theorem tdl_313 : decode code 313 = .ok (.iload_n 3, 1) := by decide +kernel
theorem tdl_314 : decode code 314 = .ok (.iconst 1, 1) := by decide +kernel
theorem tdl_315 : decode code 315 = .ok (.iadd, 1) := by decide +kernel
theorem tdl_316 : decode code 316 = .ok (.iaload, 1) := by decide +kernel
theorem tdl_317 : decode code 317 = .ok (.aload_n 0, 1) := by decide +kernel
theorem tdl_318 : decode code 318 = .ok (.iload_n 3, 1) := by decide +kernel
theorem tdl_319 : decode code 319 = .ok (.iconst 2, 1) := by decide +kernel
theorem tdl_320 : decode code 320 = .ok (.iadd, 1) := by decide +kernel
theorem tdl_321 : decode code 321 = .ok (.iaload, 1) := by decide +kernel
theorem tdl_322 : decode code 322 = .ok (.aload_n 0, 1) := by decide +kernel
theorem tdl_323 : decode code 323 = .ok (.iload_n 3, 1) := by decide +kernel
theorem tdl_324 : decode code 324 = .ok (.iconst 3, 1) := by decide +kernel
theorem tdl_325 : decode code 325 = .ok (.iadd, 1) := by decide +kernel
theorem tdl_326 : decode code 326 = .ok (.iaload, 1) := by decide +kernel
theorem tdl_327 : decode code 327 = .ok (.invokevirtual 31, 3) := by decide +kernel
theorem tdl_330 : decode code 330 = .ok (.pop, 1) := by decide +kernel
theorem tdl_331 : decode code 331 = .ok (.goto 1029, 3) := by decide +kernel
theorem tdl_334 : decode code 334 = .ok (.aload_n 1, 1) := by decide +kernel
theorem tdl_335 : decode code 335 = .ok (.aload_n 0, 1) := by decide +kernel
theorem tdl_336 : decode code 336 = .ok (.iload_n 3, 1) := by decide +kernel
theorem tdl_337 : decode code 337 = .ok (.iconst 1, 1) := by decide +kernel
theorem tdl_338 : decode code 338 = .ok (.iadd, 1) := by decide +kernel
theorem tdl_339 : decode code 339 = .ok (.iaload, 1) := by decide +kernel
theorem tdl_340 : decode code 340 = .ok (.aload_n 0, 1) := by decide +kernel
theorem tdl_341 : decode code 341 = .ok (.iload_n 3, 1) := by decide +kernel
theorem tdl_342 : decode code 342 = .ok (.iconst 2, 1) := by decide +kernel
theorem tdl_343 : decode code 343 = .ok (.iadd, 1) := by decide +kernel
theorem tdl_344 : decode code 344 = .ok (.iaload, 1) := by decide +kernel
theorem tdl_345 : decode code 345 = .ok (.invokevirtual 32, 3) := by decide +kernel
theorem tdl_348 : decode code 348 = .ok (.pop, 1) := by decide +kernel
theorem tdl_349 : decode code 349 = .ok (.aload_n 2, 1) := by decide +kernel
theorem tdl_350 : decode code 350 = .ok (.aload_n 0, 1) := by decide +kernel
theorem tdl_351 : decode code 351 = .ok (.iload_n 3, 1) := by decide +kernel
theorem tdl_352 : decode code 352 = .ok (.iconst 1, 1) := by decide +kernel
theorem tdl_353 : decode code 353 = .ok (.iadd, 1) := by decide +kernel
theorem tdl_354 : decode code 354 = .ok (.iaload, 1) := by decide +kernel
theorem tdl_355 : decode code 355 = .ok (.aload_n 0, 1) := by decide +kernel
theorem tdl_356 : decode code 356 = .ok (.iload_n 3, 1) := by decide +kernel
theorem tdl_357 : decode code 357 = .ok (.iconst 2, 1) := by decide +kernel

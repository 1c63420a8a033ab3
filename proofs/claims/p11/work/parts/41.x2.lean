theorem ux_205 : Cond.methodLink RX0 1 objectInit ∈ kt_ := kt_m (kt_t3 _ (List.mem_of_getElem? (i := 81) (by decide +kernel))) (by decide +kernel)
theorem ux_206 : Cond.classLink RX0 7 RJx4a65c ∈ kt_ := kt_m (kt_t3 _ (List.mem_of_getElem? (i := 82) (by decide +kernel))) (by decide +kernel)
theorem ux_207 : Cond.methodLink RX0 9 yJx4a65c_init_da8c8 ∈ kt_ := kt_m (kt_t3 _ (List.mem_of_getElem? (i := 83) (by decide +kernel))) (by decide +kernel)
theorem ux_208 : Cond.fieldLink RX0 10 "LogRiver$Boom" "heap" "Ljava/util/List;" ∈ kt_ := kt_m (kt_t3 _ (List.mem_of_getElem? (i := 84) (by decide +kernel))) (by decide +kernel)
theorem ux_209 : Cond.fieldLink RX0 16 "LogRiver$Boom" "orders" "Ljava/util/List;" ∈ kt_ := kt_m (kt_t3 _ (List.mem_of_getElem? (i := 86) (by decide +kernel))) (by decide +kernel)
theorem ux_210 : Cond.code yX0_init cX0_init 1 none ∈ kt_ := kt_m (kt_t3 _ (List.mem_of_getElem? (i := 80) (by decide +kernel))) (by decide +kernel)
theorem ux_211 : Cond.instanceMethod yX0_init ∈ kt_ := kt_m (kt_t3 _ (List.mem_of_getElem? (i := 79) (by decide +kernel))) (by decide +kernel)
theorem ux_212 : Cond.fieldLink RX0 19 "LogRiver$Boom" "marks" "I" ∈ kt_ := kt_m (kt_t3 _ (List.mem_of_getElem? (i := 88) (by decide +kernel))) (by decide +kernel)
theorem ux_213 : Cond.code yX0_catches cX0_catches 2 (some .boolean) ∈ kt_ := kt_m (kt_t4 _ (List.mem_of_getElem? (i := 183) (by decide +kernel))) (by decide +kernel)
theorem ux_214 : Cond.instanceMethod yX0_catches ∈ kt_ := kt_m (kt_t4 _ (List.mem_of_getElem? (i := 181) (by decide +kernel))) (by decide +kernel)
theorem ux_215 : Cond.selects RX0 yX0_catches yX0_catches ∈ kt_ := kt_m (kt_t4 _ (List.mem_of_getElem? (i := 182) (by decide +kernel))) (by decide +kernel)
theorem ux_216 : Cond.methodLink RX0 44 ⟨"java/util/List", "remove", "(I)Ljava/lang/Object;"⟩ ∈ kt_ := kt_m (kt_t5 _ (List.mem_of_getElem? (i := 28) (by decide +kernel))) (by decide +kernel)
theorem ux_217 : Cond.methodLink RX0 23 ⟨"java/util/List", "size", "()I"⟩ ∈ kt_ := kt_m (kt_t5 _ (List.mem_of_getElem? (i := 23) (by decide +kernel))) (by decide +kernel)
theorem ux_218 : Cond.methodLink RX0 29 ⟨"java/util/List", "get", "(I)Ljava/lang/Object;"⟩ ∈ kt_ := kt_m (kt_t5 _ (List.mem_of_getElem? (i := 25) (by decide +kernel))) (by decide +kernel)
theorem ux_219 : Cond.classLink RX0 33 RX6 ∈ kt_ := kt_m (kt_t5 _ (List.mem_of_getElem? (i := 26) (by decide +kernel))) (by decide +kernel)
theorem ux_220 : Cond.fieldLink RX0 35 "LogRiver$Log" "mark" "I" ∈ kt_ := kt_m (kt_t2 _ (List.mem_of_getElem? (i := 174) (by decide +kernel))) (by decide +kernel)
theorem ux_221 : Cond.fieldLink RX0 38 "LogRiver$Order" "mark" "I" ∈ kt_ := kt_m (kt_t5 _ (List.mem_of_getElem? (i := 46) (by decide +kernel))) (by decide +kernel)
theorem ux_222 : Cond.fieldLink RX0 41 "LogRiver$Log" "size" "I" ∈ kt_ := kt_m (kt_t2 _ (List.mem_of_getElem? (i := 179) (by decide +kernel))) (by decide +kernel)
theorem ux_223 : Cond.fieldLink RX0 43 "LogRiver$Order" "size" "I" ∈ kt_ := kt_m (kt_t5 _ (List.mem_of_getElem? (i := 48) (by decide +kernel))) (by decide +kernel)
theorem ux_224 : Cond.code yX0_takeFirstFor cX0_takeFirstFor 4 (some (.object "LogRiver$Log")) ∈ kt_ := kt_m (kt_t5 _ (List.mem_of_getElem? (i := 21) (by decide +kernel))) (by decide +kernel)
theorem ux_225 : Cond.instanceMethod yX0_takeFirstFor ∈ kt_ := kt_m (kt_t5 _ (List.mem_of_getElem? (i := 19) (by decide +kernel))) (by decide +kernel)
theorem ux_226 : Cond.selects RX0 yX0_takeFirstFor yX0_takeFirstFor ∈ kt_ := kt_m (kt_t5 _ (List.mem_of_getElem? (i := 20) (by decide +kernel))) (by decide +kernel)
theorem ux_227 : Cond.methodLink RX1 3 objectInit ∈ kt_ := kt_m (kt_t2 _ (List.mem_of_getElem? (i := 58) (by decide +kernel))) (by decide +kernel)
theorem ux_228 : Cond.fieldLink RX1 9 "LogRiver$Cell" "carry" "I" ∈ kt_ := kt_m (kt_t2 _ (List.mem_of_getElem? (i := 61) (by decide +kernel))) (by decide +kernel)
theorem ux_229 : Cond.classLink RX1 15 RJx4a65c ∈ kt_ := kt_m (kt_t2 _ (List.mem_of_getElem? (i := 59) (by decide +kernel))) (by decide +kernel)
theorem ux_230 : Cond.methodLink RX1 17 yJx4a65c_init_da8c8 ∈ kt_ := kt_m (kt_t2 _ (List.mem_of_getElem? (i := 60) (by decide +kernel))) (by decide +kernel)
theorem ux_231 : Cond.fieldLink RX1 18 "LogRiver$Cell" "logs" "Ljava/util/List;" ∈ kt_ := kt_m (kt_t2 _ (List.mem_of_getElem? (i := 63) (by decide +kernel))) (by decide +kernel)
theorem ux_232 : Cond.code yX1_init cX1_init 2 none ∈ kt_ := kt_m (kt_t2 _ (List.mem_of_getElem? (i := 57) (by decide +kernel))) (by decide +kernel)
theorem ux_233 : Cond.instanceMethod yX1_init ∈ kt_ := kt_m (kt_t2 _ (List.mem_of_getElem? (i := 56) (by decide +kernel))) (by decide +kernel)
theorem ux_234 : Cond.methodLink RX1 28 ⟨"java/util/List", "get", "(I)Ljava/lang/Object;"⟩ ∈ kt_ := kt_m (kt_t5 _ (List.mem_of_getElem? (i := 5) (by decide +kernel))) (by decide +kernel)
theorem ux_235 : Cond.classLink RX1 32 RX6 ∈ kt_ := kt_m (kt_t5 _ (List.mem_of_getElem? (i := 6) (by decide +kernel))) (by decide +kernel)
theorem ux_236 : Cond.fieldLink RX1 34 "LogRiver$Log" "age" "I" ∈ kt_ := kt_m (kt_t2 _ (List.mem_of_getElem? (i := 191) (by decide +kernel))) (by decide +kernel)
theorem ux_237 : Cond.fieldLink RX1 37 "LogRiver$Log" "size" "I" ∈ kt_ := kt_m (kt_t2 _ (List.mem_of_getElem? (i := 178) (by decide +kernel))) (by decide +kernel)
theorem ux_238 : Cond.fieldLink RX1 39 "LogRiver$Log" "place" "I" ∈ kt_ := kt_m (kt_t2 _ (List.mem_of_getElem? (i := 185) (by decide +kernel))) (by decide +kernel)
theorem ux_239 : Cond.methodLink RX1 42 ⟨"java/util/List", "remove", "(I)Ljava/lang/Object;"⟩ ∈ kt_ := kt_m (kt_t5 _ (List.mem_of_getElem? (i := 8) (by decide +kernel))) (by decide +kernel)
theorem ux_240 : Cond.methodLink RX1 22 ⟨"java/util/List", "size", "()I"⟩ ∈ kt_ := kt_m (kt_t5 _ (List.mem_of_getElem? (i := 3) (by decide +kernel))) (by decide +kernel)
theorem ux_241 : Cond.code yX1_ageLogs cX1_ageLogs 3 none ∈ kt_ := kt_m (kt_t5 _ (List.mem_of_getElem? (i := 1) (by decide +kernel))) (by decide +kernel)
theorem ux_242 : Cond.instanceMethod yX1_ageLogs ∈ kt_ := kt_m (kt_t4 _ (List.mem_of_getElem? (i := 239) (by decide +kernel))) (by decide +kernel)
theorem ux_243 : Cond.selects RX1 yX1_ageLogs yX1_ageLogs ∈ kt_ := kt_m (kt_t5 _ (List.mem_of_getElem? (i := 0) (by decide +kernel))) (by decide +kernel)
theorem ux_244 : Cond.methodLink RX2 1 objectInit ∈ kt_ := kt_m (kt_t3 _ (List.mem_of_getElem? (i := 124) (by decide +kernel))) (by decide +kernel)
theorem ux_245 : Cond.fieldLink RX2 7 "LogRiver$Crew" "reach" "LLogRiver$Reach;" ∈ kt_ := kt_m (kt_t3 _ (List.mem_of_getElem? (i := 125) (by decide +kernel))) (by decide +kernel)
theorem ux_246 : Cond.fieldLink RX2 13 "LogRiver$Crew" "readyAt" "I" ∈ kt_ := kt_m (kt_t3 _ (List.mem_of_getElem? (i := 127) (by decide +kernel))) (by decide +kernel)
theorem ux_247 : Cond.code yX2_init cX2_init 3 none ∈ kt_ := kt_m (kt_t3 _ (List.mem_of_getElem? (i := 123) (by decide +kernel))) (by decide +kernel)
theorem ux_248 : Cond.instanceMethod yX2_init ∈ kt_ := kt_m (kt_t3 _ (List.mem_of_getElem? (i := 122) (by decide +kernel))) (by decide +kernel)
theorem ux_249 : Cond.code yX2_come cX2_come 3 none ∈ kt_ := kt_m (kt_t3 _ (List.mem_of_getElem? (i := 137) (by decide +kernel))) (by decide +kernel)
theorem ux_250 : Cond.instanceMethod yX2_come ∈ kt_ := kt_m (kt_t3 _ (List.mem_of_getElem? (i := 135) (by decide +kernel))) (by decide +kernel)
theorem ux_251 : Cond.selects RX2 yX2_come yX2_come ∈ kt_ := kt_m (kt_t3 _ (List.mem_of_getElem? (i := 136) (by decide +kernel))) (by decide +kernel)
theorem ux_252 : Cond.code yX2_rest cX2_rest 2 none ∈ kt_ := kt_m (kt_t4 _ (List.mem_of_getElem? (i := 225) (by decide +kernel))) (by decide +kernel)
theorem ux_253 : Cond.instanceMethod yX2_rest ∈ kt_ := kt_m (kt_t4 _ (List.mem_of_getElem? (i := 223) (by decide +kernel))) (by decide +kernel)
theorem ux_254 : Cond.selects RX2 yX2_rest yX2_rest ∈ kt_ := kt_m (kt_t4 _ (List.mem_of_getElem? (i := 224) (by decide +kernel))) (by decide +kernel)
theorem ux_255 : Cond.methodLink RX3 5 objectInit ∈ kt_ := kt_m (kt_t1 _ (List.mem_of_getElem? (i := 136) (by decide +kernel))) (by decide +kernel)
theorem ux_256 : Cond.fieldLink RX3 13 "LogRiver$Judge" "stack" "[I" ∈ kt_ := kt_m (kt_t1 _ (List.mem_of_getElem? (i := 137) (by decide +kernel))) (by decide +kernel)
theorem ux_257 : Cond.fieldLink RX3 19 "LogRiver$Judge" "names" "[I" ∈ kt_ := kt_m (kt_t1 _ (List.mem_of_getElem? (i := 138) (by decide +kernel))) (by decide +kernel)
theorem ux_258 : Cond.code yX3_init cX3_init 1 none ∈ kt_ := kt_m (kt_t1 _ (List.mem_of_getElem? (i := 135) (by decide +kernel))) (by decide +kernel)
theorem ux_259 : Cond.instanceMethod yX3_init ∈ kt_ := kt_m (kt_t1 _ (List.mem_of_getElem? (i := 134) (by decide +kernel))) (by decide +kernel)
theorem ux_260 : Cond.code yX3_name cX3_name 3 none ∈ kt_ := kt_m (kt_t4 _ (List.mem_of_getElem? (i := 109) (by decide +kernel))) (by decide +kernel)
theorem ux_261 : Cond.instanceMethod yX3_name ∈ kt_ := kt_m (kt_t4 _ (List.mem_of_getElem? (i := 108) (by decide +kernel))) (by decide +kernel)
theorem ux_262 : Cond.selects RX3 yX3_name yX3_name ∈ kt_ := kt_m (kt_s2 _ (List.mem_of_getElem? (i := 5) (by decide +kernel))) (by decide +kernel)
theorem ux_263 : Cond.fieldLink RX3 30 "LogRiver$Judge" "height" "I" ∈ kt_ := kt_m (kt_t1 _ (List.mem_of_getElem? (i := 139) (by decide +kernel))) (by decide +kernel)
theorem ux_264 : Cond.code yX3_push cX3_push 2 none ∈ kt_ := kt_m (kt_t4 _ (List.mem_of_getElem? (i := 117) (by decide +kernel))) (by decide +kernel)
theorem ux_265 : Cond.instanceMethod yX3_push ∈ kt_ := kt_m (kt_t4 _ (List.mem_of_getElem? (i := 116) (by decide +kernel))) (by decide +kernel)
theorem ux_266 : Cond.selects RX3 yX3_push yX3_push ∈ kt_ := kt_m (kt_s2 _ (List.mem_of_getElem? (i := 7) (by decide +kernel))) (by decide +kernel)
theorem ux_267 : Cond.code yX3_pop cX3_pop 1 (some .int) ∈ kt_ := kt_m (kt_t4 _ (List.mem_of_getElem? (i := 121) (by decide +kernel))) (by decide +kernel)
theorem ux_268 : Cond.instanceMethod yX3_pop ∈ kt_ := kt_m (kt_t4 _ (List.mem_of_getElem? (i := 120) (by decide +kernel))) (by decide +kernel)
theorem ux_269 : Cond.selects RX3 yX3_pop yX3_pop ∈ kt_ := kt_m (kt_s2 _ (List.mem_of_getElem? (i := 8) (by decide +kernel))) (by decide +kernel)
theorem ux_270 : Cond.code yX3_join cX3_join 3 (some .int) ∈ kt_ := kt_m (kt_t4 _ (List.mem_of_getElem? (i := 124) (by decide +kernel))) (by decide +kernel)
theorem ux_271 : Cond.static yX3_join ∈ kt_ := kt_m (kt_t4 _ (List.mem_of_getElem? (i := 123) (by decide +kernel))) (by decide +kernel)
theorem ux_272 : Cond.methodLink RX3 59 yX3_push ∈ kt_ := kt_m (kt_t4 _ (List.mem_of_getElem? (i := 114) (by decide +kernel))) (by decide +kernel)
theorem ux_273 : Cond.fieldLink RX3 22 "LogRiver$Judge" "barred" "Z" ∈ kt_ := kt_m (kt_t1 _ (List.mem_of_getElem? (i := 140) (by decide +kernel))) (by decide +kernel)
theorem ux_274 : Cond.methodLink RX3 62 yX3_pop ∈ kt_ := kt_m (kt_t4 _ (List.mem_of_getElem? (i := 118) (by decide +kernel))) (by decide +kernel)
theorem ux_275 : Cond.methodLink RX3 66 yX3_join ∈ kt_ := kt_m (kt_t4 _ (List.mem_of_getElem? (i := 122) (by decide +kernel))) (by decide +kernel)
theorem ux_276 : Cond.fieldLink RX3 26 "LogRiver$Judge" "toll" "J" ∈ kt_ := kt_m (kt_t1 _ (List.mem_of_getElem? (i := 142) (by decide +kernel))) (by decide +kernel)
theorem ux_277 : Cond.code yX3_step cX3_step 4 none ∈ kt_ := kt_m (kt_t4 _ (List.mem_of_getElem? (i := 113) (by decide +kernel))) (by decide +kernel)
theorem ux_278 : Cond.instanceMethod yX3_step ∈ kt_ := kt_m (kt_t4 _ (List.mem_of_getElem? (i := 112) (by decide +kernel))) (by decide +kernel)
theorem ux_279 : Cond.selects RX3 yX3_step yX3_step ∈ kt_ := kt_m (kt_s2 _ (List.mem_of_getElem? (i := 6) (by decide +kernel))) (by decide +kernel)
theorem ux_280 : Cond.fieldLink RX3 52 "LogRiver$Law" "code" "[I" ∈ kt_ := kt_m (kt_t4 _ (List.mem_of_getElem? (i := 76) (by decide +kernel))) (by decide +kernel)
theorem ux_281 : Cond.methodLink RX3 55 yX3_step ∈ kt_ := kt_m (kt_t4 _ (List.mem_of_getElem? (i := 110) (by decide +kernel))) (by decide +kernel)
theorem ux_282 : Cond.fieldLink RX3 34 "LogRiver$Log" "mark" "I" ∈ kt_ := kt_m (kt_t2 _ (List.mem_of_getElem? (i := 173) (by decide +kernel))) (by decide +kernel)
theorem ux_283 : Cond.methodLink RX3 39 yX3_name ∈ kt_ := kt_m (kt_t4 _ (List.mem_of_getElem? (i := 106) (by decide +kernel))) (by decide +kernel)
theorem ux_284 : Cond.fieldLink RX3 43 "LogRiver$Log" "size" "I" ∈ kt_ := kt_m (kt_t2 _ (List.mem_of_getElem? (i := 177) (by decide +kernel))) (by decide +kernel)
theorem ux_285 : Cond.fieldLink RX3 46 "LogRiver$Log" "stump" "I" ∈ kt_ := kt_m (kt_t2 _ (List.mem_of_getElem? (i := 182) (by decide +kernel))) (by decide +kernel)
theorem ux_286 : Cond.fieldLink RX3 49 "LogRiver$Log" "age" "I" ∈ kt_ := kt_m (kt_t2 _ (List.mem_of_getElem? (i := 192) (by decide +kernel))) (by decide +kernel)
theorem ux_287 : Cond.code yX3_weigh cX3_weigh 6 none ∈ kt_ := kt_m (kt_t4 _ (List.mem_of_getElem? (i := 105) (by decide +kernel))) (by decide +kernel)
theorem ux_288 : Cond.instanceMethod yX3_weigh ∈ kt_ := kt_m (kt_t4 _ (List.mem_of_getElem? (i := 103) (by decide +kernel))) (by decide +kernel)
theorem ux_289 : Cond.selects RX3 yX3_weigh yX3_weigh ∈ kt_ := kt_m (kt_t4 _ (List.mem_of_getElem? (i := 104) (by decide +kernel))) (by decide +kernel)
theorem ux_290 : Cond.methodLink RX4 1 objectInit ∈ kt_ := kt_m (kt_t4 _ (List.mem_of_getElem? (i := 72) (by decide +kernel))) (by decide +kernel)
theorem ux_291 : Cond.fieldLink RX4 7 "LogRiver$Law" "day" "I" ∈ kt_ := kt_m (kt_t4 _ (List.mem_of_getElem? (i := 73) (by decide +kernel))) (by decide +kernel)
theorem ux_292 : Cond.fieldLink RX4 13 "LogRiver$Law" "code" "[I" ∈ kt_ := kt_m (kt_t4 _ (List.mem_of_getElem? (i := 75) (by decide +kernel))) (by decide +kernel)
theorem ux_293 : Cond.code yX4_init cX4_init 3 none ∈ kt_ := kt_m (kt_t4 _ (List.mem_of_getElem? (i := 71) (by decide +kernel))) (by decide +kernel)
theorem ux_294 : Cond.instanceMethod yX4_init ∈ kt_ := kt_m (kt_t4 _ (List.mem_of_getElem? (i := 70) (by decide +kernel))) (by decide +kernel)
theorem ux_295 : Cond.methodLink RX6 3 objectInit ∈ kt_ := kt_m (kt_t2 _ (List.mem_of_getElem? (i := 169) (by decide +kernel))) (by decide +kernel)
theorem ux_296 : Cond.fieldLink RX6 9 "LogRiver$Log" "number" "I" ∈ kt_ := kt_m (kt_t2 _ (List.mem_of_getElem? (i := 170) (by decide +kernel))) (by decide +kernel)
theorem ux_297 : Cond.fieldLink RX6 15 "LogRiver$Log" "mark" "I" ∈ kt_ := kt_m (kt_t2 _ (List.mem_of_getElem? (i := 172) (by decide +kernel))) (by decide +kernel)
theorem ux_298 : Cond.fieldLink RX6 18 "LogRiver$Log" "size" "I" ∈ kt_ := kt_m (kt_t2 _ (List.mem_of_getElem? (i := 176) (by decide +kernel))) (by decide +kernel)
theorem ux_299 : Cond.fieldLink RX6 21 "LogRiver$Log" "stump" "I" ∈ kt_ := kt_m (kt_t2 _ (List.mem_of_getElem? (i := 181) (by decide +kernel))) (by decide +kernel)
theorem ux_300 : Cond.fieldLink RX6 24 "LogRiver$Log" "place" "I" ∈ kt_ := kt_m (kt_t2 _ (List.mem_of_getElem? (i := 184) (by decide +kernel))) (by decide +kernel)
theorem ux_301 : Cond.fieldLink RX6 27 "LogRiver$Log" "reach" "I" ∈ kt_ := kt_m (kt_t2 _ (List.mem_of_getElem? (i := 187) (by decide +kernel))) (by decide +kernel)
theorem ux_302 : Cond.fieldLink RX6 30 "LogRiver$Log" "cell" "I" ∈ kt_ := kt_m (kt_t2 _ (List.mem_of_getElem? (i := 189) (by decide +kernel))) (by decide +kernel)
theorem ux_303 : Cond.fieldLink RX6 33 "LogRiver$Log" "firstBoard" "I" ∈ kt_ := kt_m (kt_t2 _ (List.mem_of_getElem? (i := 194) (by decide +kernel))) (by decide +kernel)
theorem ux_304 : Cond.code yX6_init cX6_init 5 none ∈ kt_ := kt_m (kt_t2 _ (List.mem_of_getElem? (i := 168) (by decide +kernel))) (by decide +kernel)
theorem ux_305 : Cond.instanceMethod yX6_init ∈ kt_ := kt_m (kt_t2 _ (List.mem_of_getElem? (i := 167) (by decide +kernel))) (by decide +kernel)
theorem ux_306 : Cond.code yX6_floatIn cX6_floatIn 3 none ∈ kt_ := kt_m (kt_t4 _ (List.mem_of_getElem? (i := 143) (by decide +kernel))) (by decide +kernel)
theorem ux_307 : Cond.instanceMethod yX6_floatIn ∈ kt_ := kt_m (kt_t4 _ (List.mem_of_getElem? (i := 141) (by decide +kernel))) (by decide +kernel)
theorem ux_308 : Cond.selects RX6 yX6_floatIn yX6_floatIn ∈ kt_ := kt_m (kt_t4 _ (List.mem_of_getElem? (i := 142) (by decide +kernel))) (by decide +kernel)
theorem ux_309 : Cond.code yX6_lieInHeap cX6_lieInHeap 1 none ∈ kt_ := kt_m (kt_t4 _ (List.mem_of_getElem? (i := 187) (by decide +kernel))) (by decide +kernel)
theorem ux_310 : Cond.instanceMethod yX6_lieInHeap ∈ kt_ := kt_m (kt_t4 _ (List.mem_of_getElem? (i := 185) (by decide +kernel))) (by decide +kernel)
theorem ux_311 : Cond.selects RX6 yX6_lieInHeap yX6_lieInHeap ∈ kt_ := kt_m (kt_t4 _ (List.mem_of_getElem? (i := 186) (by decide +kernel))) (by decide +kernel)
theorem ux_312 : Cond.code yX6_goToSea cX6_goToSea 1 none ∈ kt_ := kt_m (kt_t4 _ (List.mem_of_getElem? (i := 191) (by decide +kernel))) (by decide +kernel)
theorem ux_313 : Cond.instanceMethod yX6_goToSea ∈ kt_ := kt_m (kt_t4 _ (List.mem_of_getElem? (i := 189) (by decide +kernel))) (by decide +kernel)
theorem ux_314 : Cond.selects RX6 yX6_goToSea yX6_goToSea ∈ kt_ := kt_m (kt_t4 _ (List.mem_of_getElem? (i := 190) (by decide +kernel))) (by decide +kernel)
theorem ux_315 : Cond.code yX6_becomeBoards cX6_becomeBoards 2 none ∈ kt_ := kt_m (kt_t5 _ (List.mem_of_getElem? (i := 32) (by decide +kernel))) (by decide +kernel)
theorem ux_316 : Cond.instanceMethod yX6_becomeBoards ∈ kt_ := kt_m (kt_t5 _ (List.mem_of_getElem? (i := 30) (by decide +kernel))) (by decide +kernel)
theorem ux_317 : Cond.selects RX6 yX6_becomeBoards yX6_becomeBoards ∈ kt_ := kt_m (kt_t5 _ (List.mem_of_getElem? (i := 31) (by decide +kernel))) (by decide +kernel)
theorem ux_318 : Cond.methodLink RX7 1 objectInit ∈ kt_ := kt_m (kt_t5 _ (List.mem_of_getElem? (i := 44) (by decide +kernel))) (by decide +kernel)
theorem ux_319 : Cond.fieldLink RX7 7 "LogRiver$Order" "mark" "I" ∈ kt_ := kt_m (kt_t5 _ (List.mem_of_getElem? (i := 45) (by decide +kernel))) (by decide +kernel)
theorem ux_320 : Cond.fieldLink RX7 13 "LogRiver$Order" "size" "I" ∈ kt_ := kt_m (kt_t5 _ (List.mem_of_getElem? (i := 47) (by decide +kernel))) (by decide +kernel)
theorem ux_321 : Cond.fieldLink RX7 16 "LogRiver$Order" "wanted" "I" ∈ kt_ := kt_m (kt_t5 _ (List.mem_of_getElem? (i := 49) (by decide +kernel))) (by decide +kernel)
theorem ux_322 : Cond.code yX7_init cX7_init 4 none ∈ kt_ := kt_m (kt_t5 _ (List.mem_of_getElem? (i := 43) (by decide +kernel))) (by decide +kernel)
theorem ux_323 : Cond.instanceMethod yX7_init ∈ kt_ := kt_m (kt_t5 _ (List.mem_of_getElem? (i := 42) (by decide +kernel))) (by decide +kernel)
theorem ux_324 : Cond.methodLink RX8 1 objectInit ∈ kt_ := kt_m (kt_t2 _ (List.mem_of_getElem? (i := 0) (by decide +kernel))) (by decide +kernel)
theorem ux_325 : Cond.fieldLink RX8 7 "LogRiver$Reach" "number" "I" ∈ kt_ := kt_m (kt_t2 _ (List.mem_of_getElem? (i := 3) (by decide +kernel))) (by decide +kernel)
theorem ux_326 : Cond.fieldLink RX8 13 "LogRiver$Reach" "below" "LLogRiver$Reach;" ∈ kt_ := kt_m (kt_t2 _ (List.mem_of_getElem? (i := 5) (by decide +kernel))) (by decide +kernel)
theorem ux_327 : Cond.fieldLink RX8 17 "LogRiver$Reach" "jam" "I" ∈ kt_ := kt_m (kt_t2 _ (List.mem_of_getElem? (i := 7) (by decide +kernel))) (by decide +kernel)
theorem ux_328 : Cond.classLink RX8 20 RJx4a65c ∈ kt_ := kt_m (kt_t2 _ (List.mem_of_getElem? (i := 1) (by decide +kernel))) (by decide +kernel)
theorem ux_329 : Cond.methodLink RX8 22 yJx4a65c_init_da8c8 ∈ kt_ := kt_m (kt_t2 _ (List.mem_of_getElem? (i := 2) (by decide +kernel))) (by decide +kernel)
theorem ux_330 : Cond.fieldLink RX8 23 "LogRiver$Reach" "cells" "Ljava/util/List;" ∈ kt_ := kt_m (kt_t2 _ (List.mem_of_getElem? (i := 9) (by decide +kernel))) (by decide +kernel)
theorem ux_331 : Cond.code yX8_init cX8_init 4 none ∈ kt_ := kt_m (kt_t1 _ (List.mem_of_getElem? (i := 239) (by decide +kernel))) (by decide +kernel)
theorem ux_332 : Cond.instanceMethod yX8_init ∈ kt_ := kt_m (kt_t1 _ (List.mem_of_getElem? (i := 238) (by decide +kernel))) (by decide +kernel)
theorem ux_333 : Cond.fieldLink RX8 27 "LogRiver$Reach" "dammed" "Z" ∈ kt_ := kt_m (kt_t2 _ (List.mem_of_getElem? (i := 12) (by decide +kernel))) (by decide +kernel)
theorem ux_334 : Cond.fieldLink RX8 37 "LogRiver$Reach" "store" "I" ∈ kt_ := kt_m (kt_t2 _ (List.mem_of_getElem? (i := 16) (by decide +kernel))) (by decide +kernel)
theorem ux_335 : Cond.fieldLink RX8 31 "LogRiver$Reach" "flow" "I" ∈ kt_ := kt_m (kt_t2 _ (List.mem_of_getElem? (i := 20) (by decide +kernel))) (by decide +kernel)
theorem ux_336 : Cond.fieldLink RX8 40 "LogRiver$Reach" "room" "I" ∈ kt_ := kt_m (kt_t2 _ (List.mem_of_getElem? (i := 14) (by decide +kernel))) (by decide +kernel)
theorem ux_337 : Cond.methodLink RX8 43 Lib.Math.max.name ∈ kt_ := kt_m (kt_t4 _ (List.mem_of_getElem? (i := 160) (by decide +kernel))) (by decide +kernel)
theorem ux_338 : Cond.fieldLink RX8 49 "LogRiver$Reach" "gate" "I" ∈ kt_ := kt_m (kt_t2 _ (List.mem_of_getElem? (i := 18) (by decide +kernel))) (by decide +kernel)
theorem ux_339 : Cond.methodLink RX8 52 Lib.Math.min.name ∈ kt_ := kt_m (kt_t4 _ (List.mem_of_getElem? (i := 161) (by decide +kernel))) (by decide +kernel)
theorem ux_340 : Cond.fieldLink RX8 34 "LogRiver$Reach" "out" "I" ∈ kt_ := kt_m (kt_t2 _ (List.mem_of_getElem? (i := 22) (by decide +kernel))) (by decide +kernel)
theorem ux_341 : Cond.code yX8_passWater cX8_passWater 2 none ∈ kt_ := kt_m (kt_t4 _ (List.mem_of_getElem? (i := 159) (by decide +kernel))) (by decide +kernel)
theorem ux_342 : Cond.instanceMethod yX8_passWater ∈ kt_ := kt_m (kt_t4 _ (List.mem_of_getElem? (i := 157) (by decide +kernel))) (by decide +kernel)
theorem ux_343 : Cond.selects RX8 yX8_passWater yX8_passWater ∈ kt_ := kt_m (kt_t4 _ (List.mem_of_getElem? (i := 158) (by decide +kernel))) (by decide +kernel)
theorem ux_344 : Cond.methodLink RX8 55 ⟨"java/util/List", "size", "()I"⟩ ∈ kt_ := kt_m (kt_t4 _ (List.mem_of_getElem? (i := 134) (by decide +kernel))) (by decide +kernel)
theorem ux_345 : Cond.methodLink RX8 61 ⟨"java/util/List", "get", "(I)Ljava/lang/Object;"⟩ ∈ kt_ := kt_m (kt_t4 _ (List.mem_of_getElem? (i := 136) (by decide +kernel))) (by decide +kernel)
theorem ux_346 : Cond.classLink RX8 65 RX1 ∈ kt_ := kt_m (kt_t4 _ (List.mem_of_getElem? (i := 137) (by decide +kernel))) (by decide +kernel)
theorem ux_347 : Cond.fieldLink RX8 67 "LogRiver$Cell" "jammed" "Z" ∈ kt_ := kt_m (kt_t2 _ (List.mem_of_getElem? (i := 66) (by decide +kernel))) (by decide +kernel)
theorem ux_348 : Cond.fieldLink RX8 70 "LogRiver$Cell" "logs" "Ljava/util/List;" ∈ kt_ := kt_m (kt_t2 _ (List.mem_of_getElem? (i := 64) (by decide +kernel))) (by decide +kernel)
theorem ux_349 : Cond.fieldLink RX8 73 "LogRiver$Cell" "carry" "I" ∈ kt_ := kt_m (kt_t2 _ (List.mem_of_getElem? (i := 62) (by decide +kernel))) (by decide +kernel)
theorem ux_350 : Cond.code yX8_canTake cX8_canTake 3 (some .boolean) ∈ kt_ := kt_m (kt_t4 _ (List.mem_of_getElem? (i := 132) (by decide +kernel))) (by decide +kernel)
theorem ux_351 : Cond.instanceMethod yX8_canTake ∈ kt_ := kt_m (kt_t4 _ (List.mem_of_getElem? (i := 130) (by decide +kernel))) (by decide +kernel)
theorem ux_352 : Cond.selects RX8 yX8_canTake yX8_canTake ∈ kt_ := kt_m (kt_t4 _ (List.mem_of_getElem? (i := 131) (by decide +kernel))) (by decide +kernel)
theorem ux_353 : Cond.methodLink RX8 76 yX8_canTake ∈ kt_ := kt_m (kt_t4 _ (List.mem_of_getElem? (i := 129) (by decide +kernel))) (by decide +kernel)
theorem ux_354 : Cond.methodLink RX8 80 ⟨"java/util/List", "add", "(Ljava/lang/Object;)Z"⟩ ∈ kt_ := kt_m (kt_t4 _ (List.mem_of_getElem? (i := 139) (by decide +kernel))) (by decide +kernel)
theorem ux_355 : Cond.methodLink RX8 84 yX6_floatIn ∈ kt_ := kt_m (kt_t4 _ (List.mem_of_getElem? (i := 140) (by decide +kernel))) (by decide +kernel)
theorem ux_356 : Cond.code yX8_takes cX8_takes 3 (some .boolean) ∈ kt_ := kt_m (kt_t4 _ (List.mem_of_getElem? (i := 128) (by decide +kernel))) (by decide +kernel)
theorem ux_357 : Cond.instanceMethod yX8_takes ∈ kt_ := kt_m (kt_t4 _ (List.mem_of_getElem? (i := 126) (by decide +kernel))) (by decide +kernel)
theorem ux_358 : Cond.selects RX8 yX8_takes yX8_takes ∈ kt_ := kt_m (kt_t4 _ (List.mem_of_getElem? (i := 127) (by decide +kernel))) (by decide +kernel)
theorem ux_359 : Cond.code yX8_jamFullCells cX8_jamFullCells 3 none ∈ kt_ := kt_m (kt_t4 _ (List.mem_of_getElem? (i := 213) (by decide +kernel))) (by decide +kernel)
theorem ux_360 : Cond.instanceMethod yX8_jamFullCells ∈ kt_ := kt_m (kt_t4 _ (List.mem_of_getElem? (i := 211) (by decide +kernel))) (by decide +kernel)
theorem ux_361 : Cond.selects RX8 yX8_jamFullCells yX8_jamFullCells ∈ kt_ := kt_m (kt_t4 _ (List.mem_of_getElem? (i := 212) (by decide +kernel))) (by decide +kernel)
theorem ux_362 : Cond.fieldLink RX8 90 "LogRiver$Cell" "known" "Z" ∈ kt_ := kt_m (kt_t2 _ (List.mem_of_getElem? (i := 68) (by decide +kernel))) (by decide +kernel)
theorem ux_363 : Cond.code yX8_freesLowestJam cX8_freesLowestJam 3 (some .boolean) ∈ kt_ := kt_m (kt_t4 _ (List.mem_of_getElem? (i := 221) (by decide +kernel))) (by decide +kernel)
theorem ux_364 : Cond.instanceMethod yX8_freesLowestJam ∈ kt_ := kt_m (kt_t4 _ (List.mem_of_getElem? (i := 219) (by decide +kernel))) (by decide +kernel)
theorem ux_365 : Cond.selects RX8 yX8_freesLowestJam yX8_freesLowestJam ∈ kt_ := kt_m (kt_t4 _ (List.mem_of_getElem? (i := 220) (by decide +kernel))) (by decide +kernel)
theorem ux_366 : Cond.code yX8_makeJamsKnown cX8_makeJamsKnown 3 none ∈ kt_ := kt_m (kt_t4 _ (List.mem_of_getElem? (i := 233) (by decide +kernel))) (by decide +kernel)
theorem ux_367 : Cond.instanceMethod yX8_makeJamsKnown ∈ kt_ := kt_m (kt_t4 _ (List.mem_of_getElem? (i := 231) (by decide +kernel))) (by decide +kernel)
theorem ux_368 : Cond.selects RX8 yX8_makeJamsKnown yX8_makeJamsKnown ∈ kt_ := kt_m (kt_t4 _ (List.mem_of_getElem? (i := 232) (by decide +kernel))) (by decide +kernel)
theorem ux_369 : Cond.methodLink RX9 1 objectInit ∈ kt_ := kt_m (kt_t1 _ (List.mem_of_getElem? (i := 70) (by decide +kernel))) (by decide +kernel)
theorem ux_370 : Cond.fieldLink RX9 9 "LogRiver$Tape" "bytes" "[I" ∈ kt_ := kt_m (kt_t1 _ (List.mem_of_getElem? (i := 71) (by decide +kernel))) (by decide +kernel)
theorem ux_371 : Cond.code yX9_init cX9_init 1 none ∈ kt_ := kt_m (kt_t1 _ (List.mem_of_getElem? (i := 69) (by decide +kernel))) (by decide +kernel)
theorem ux_372 : Cond.instanceMethod yX9_init ∈ kt_ := kt_m (kt_t1 _ (List.mem_of_getElem? (i := 68) (by decide +kernel))) (by decide +kernel)
theorem ux_373 : Cond.fieldLink RX9 13 "LogRiver$Tape" "length" "I" ∈ kt_ := kt_m (kt_t1 _ (List.mem_of_getElem? (i := 73) (by decide +kernel))) (by decide +kernel)
theorem ux_374 : Cond.code yX9_append cX9_append 3 none ∈ kt_ := kt_m (kt_t2 _ (List.mem_of_getElem? (i := 154) (by decide +kernel))) (by decide +kernel)
theorem ux_375 : Cond.instanceMethod yX9_append ∈ kt_ := kt_m (kt_t2 _ (List.mem_of_getElem? (i := 152) (by decide +kernel))) (by decide +kernel)
theorem ux_376 : Cond.selects RX9 yX9_append yX9_append ∈ kt_ := kt_m (kt_t2 _ (List.mem_of_getElem? (i := 153) (by decide +kernel))) (by decide +kernel)
theorem dX0_init_0 : decode cX0_init 0 = .ok (.aload_n 0, 1) := by decide +kernel
theorem dX0_init_1 : decode cX0_init 1 = .ok (.invokespecial 1, 3) := by decide +kernel
theorem dX0_init_4 : decode cX0_init 4 = .ok (.aload_n 0, 1) := by decide +kernel
theorem dX0_init_5 : decode cX0_init 5 = .ok (.new 7, 3) := by decide +kernel
theorem dX0_init_8 : decode cX0_init 8 = .ok (.dup, 1) := by decide +kernel
theorem dX0_init_9 : decode cX0_init 9 = .ok (.invokespecial 9, 3) := by decide +kernel
theorem dX0_init_12 : decode cX0_init 12 = .ok (.putfield 10, 3) := by decide +kernel
theorem dX0_init_15 : decode cX0_init 15 = .ok (.aload_n 0, 1) := by decide +kernel
theorem dX0_init_16 : decode cX0_init 16 = .ok (.new 7, 3) := by decide +kernel
theorem dX0_init_19 : decode cX0_init 19 = .ok (.dup, 1) := by decide +kernel
theorem dX0_init_20 : decode cX0_init 20 = .ok (.invokespecial 9, 3) := by decide +kernel
theorem dX0_init_23 : decode cX0_init 23 = .ok (.putfield 16, 3) := by decide +kernel
theorem dX0_init_26 : decode cX0_init 26 = .ok (.return_, 1) := by decide +kernel
def wX0_init (l0 : Nat) (σ : kx_S) (Q : kx_S → Prop) : Prop := xc σ < kx_N ∧ ∀ p2, xt σ p2 = 0 → p2 ≠ xz σ → ∀ σ5, σ5 = xnew σ p2 1 → wJx4a65c_init_da8c8 p2 σ5 (fun σ7 => xt σ7 l0 = 2 ∧ ∀ σ9, σ9 = xsr σ7 32 l0 (some p2) → xc σ9 < kx_N ∧ ∀ p12, xt σ9 p12 = 0 → p12 ≠ xz σ9 → ∀ σ15, σ15 = xnew σ9 p12 1 → wJx4a65c_init_da8c8 p12 σ15 (fun σ17 => xt σ17 l0 = 2 ∧ ∀ σ19, σ19 = xsr σ17 33 l0 (some p12) → Q σ19))
set_option maxRecDepth 100000 in
set_option maxHeartbeats 4000000 in
theorem hx_X0_init (l : Launch) (G : kx_G) (l0 : Nat) (σ : kx_S) (Q : kx_S → Prop) (h : wX0_init l0 σ Q) : kx_M l G yX0_init cX0_init 1 none (4) (72) [.ref l0] σ (kx_rv Q) := by
  refine kx_enter (by decide) rfl (Nat.le_of_ble_eq_true rfl) ?_
  intro p e s m below meth c ls F hr hlocks C hname hl
  have hini : meth.name = "<init>" := hname
  have hl : lv_has ls 1 [(0, .ref l0)] := hl
  obtain ⟨H, eH⟩ : ∃ z9, z9 = s.heap := ⟨_, rfl⟩
  obtain ⟨locs, eL⟩ : ∃ z9 : List Loc, z9 = [] := ⟨_, rfl⟩
  rw [← eH, ← eL] at C
  rw [← eH, ← eL]
  obtain ⟨σ0, e0⟩ : ∃ z9, z9 = σ := ⟨_, rfl⟩
  have C : kx_X G (xc σ0) s H locs σ := by rw [e0]; exact C
  suffices hgo : kx_W p l e (4) (72) (xc σ0) s m ([.ref l0] : List Value).toArray below meth c H locs σ (MQ below (kx_Q G σ0 (kx_rv Q)) ([.ref l0] : List Value).toArray s (kx_N - xc σ0) (600 * (kx_N - xc σ0)) (kx_A G)) (F0 m 0 ls []) by rw [e0] at hgo; exact hgo
  clear e0
  refine lv_aload_n F.1 F.2.1 dX0_init_0 rfl (lv_at hl 0 rfl) ?_
  refine kx_objI F ux_205 hl.1 (Nat.le_of_ble_eq_true rfl) (by simp [Value.category]) dX0_init_1 ?_
  refine lv_aload_n F.1 F.2.1 dX0_init_4 rfl (lv_at hl 0 rfl) ?_
  obtain ⟨hn1, h⟩ := h
  refine xw_Jx4a65c F C hn1 ux_206 dX0_init_5 (fun p2 H z3 z4 C => ?_)
  replace h := h p2 z3 (fun h9 => z4 (h9.trans (show xz σ = _ from C.2.1.1)))
  generalize eσ5 : xnew σ p2 1 = σ5 at C ⊢
  replace h := h σ5 eσ5.symm
  have ht6 : xt σ5 p2 = 1 := by rw [← eσ5]; exact va_up_self _ _ _
  refine lv_dup F.1 F.2.1 dX0_init_8 rfl ?_
  refine xk_Jx4a65c_init_da8c8 F C p2 h ux_207 (Nat.le_of_ble_eq_true rfl) (Nat.le_of_ble_eq_true rfl) hl.1 (by simp [Value.category]) dX0_init_9 (fun σ7 H locs h C => ?_)
  obtain ⟨ht8, h⟩ := h
  refine xp_X0_heap (x := some p2) F C ht8 ux_208 (fun _ h9 => h9) hini rfl dX0_init_12 (fun H locs C => ?_)
  generalize eσ9 : xsr σ7 32 l0 (some p2) = σ9 at C ⊢
  replace h := h σ9 eσ9.symm
  have ht10 : xt σ9 l0 = 2 := by rw [← eσ9]; exact ht8
  refine lv_aload_n F.1 F.2.1 dX0_init_15 rfl (lv_at hl 0 rfl) ?_
  obtain ⟨hn11, h⟩ := h
  refine xw_Jx4a65c F C hn11 ux_206 dX0_init_16 (fun p12 H z13 z14 C => ?_)
  replace h := h p12 z13 (fun h9 => z14 (h9.trans (show xz σ9 = _ from C.2.1.1)))
  generalize eσ15 : xnew σ9 p12 1 = σ15 at C ⊢
  replace h := h σ15 eσ15.symm
  have ht16 : xt σ15 p12 = 1 := by rw [← eσ15]; exact va_up_self _ _ _
  refine lv_dup F.1 F.2.1 dX0_init_19 rfl ?_
  refine xk_Jx4a65c_init_da8c8 F C p12 h ux_207 (Nat.le_of_ble_eq_true rfl) (Nat.le_of_ble_eq_true rfl) hl.1 (by simp [Value.category]) dX0_init_20 (fun σ17 H locs h C => ?_)
  obtain ⟨ht18, h⟩ := h
  refine xp_X0_orders (x := some p12) F C ht18 ux_209 (fun _ h9 => h9) hini rfl dX0_init_23 (fun H locs C => ?_)
  generalize eσ19 : xsr σ17 33 l0 (some p12) = σ19 at C ⊢
  replace h := h σ19 eσ19.symm
  have ht20 : xt σ19 l0 = 2 := by rw [← eσ19]; exact ht18
  exact kx_vret F C hr hlocks h dX0_init_26
section
variable {p : Program} {l : Launch} {e : Env} {fr lo c0 : Nat} {s : State} {m : MethodId} {args : Array Value} {below : List Frame} {meth : Method} {c : Code} {H : Heap} {locs : List Loc} {Q : State → Prop}
variable {cc : ByteArray} {pc nL index : Nat} {ls : Array Slot} {rest : List Value} {G : kx_G} {σ : kx_S} {own : String}
theorem xk_X0_init {P : kx_S → Prop} (F : CallFix p m c cc nL s args kt_ own) (C : kx_X G c0 s H locs σ) (l0 : Nat) (h : wX0_init l0 σ P) (hw : Cond.methodLink own index yX0_init ∈ kt_) (h1 : (4) + 1 ≤ fr) (h2 : 8 + (1 + 11) + (72) ≤ lo) (hsz : ls.size = nL) (hW : (rest.map fun v => v.category).sum ≤ 8) (hdg : decode cc pc = .ok (.invokespecial index, 3)) (kk : ∀ (u : kx_S) (H1 : Heap) (locs1 : List Loc), P u → kx_X G c0 s H1 locs1 u → kx_W p l e fr lo c0 s m args below meth c H1 locs1 u Q (F0 m (pc + 3) ls rest)) : kx_W p l e fr lo c0 s m args below meth c H locs σ Q (F0 m pc ls (.ref l0 :: rest)) :=
  kx_cI (n := 0) (As := []) F C (hx_X0_init l G l0 σ P h) ux_210 ux_31 hw ux_211 rfl (by decide +kernel) ⟨h1, h2⟩ rfl hsz hW hdg (fun v u H1 locs1 hP9 C9 => by obtain ⟨hv, hp⟩ := hP9; subst hv; exact kk u H1 locs1 hp C9)
end
theorem dX0_catches_0 : decode cX0_catches 0 = .ok (.aload_n 0, 1) := by decide +kernel
theorem dX0_catches_1 : decode cX0_catches 1 = .ok (.getfield 19, 3) := by decide +kernel
theorem dX0_catches_4 : decode cX0_catches 4 = .ok (.iload_n 1, 1) := by decide +kernel
theorem dX0_catches_5 : decode cX0_catches 5 = .ok (.ishr, 1) := by decide +kernel
theorem dX0_catches_6 : decode cX0_catches 6 = .ok (.iconst 1, 1) := by decide +kernel
theorem dX0_catches_7 : decode cX0_catches 7 = .ok (.iand, 1) := by decide +kernel
theorem dX0_catches_8 : decode cX0_catches 8 = .ok (.iconst 1, 1) := by decide +kernel
theorem dX0_catches_9 : decode cX0_catches 9 = .ok (.if_icmp .ne 7, 3) := by decide +kernel
theorem dX0_catches_12 : decode cX0_catches 12 = .ok (.iconst 1, 1) := by decide +kernel
theorem dX0_catches_13 : decode cX0_catches 13 = .ok (.goto 4, 3) := by decide +kernel
theorem dX0_catches_16 : decode cX0_catches 16 = .ok (.iconst 0, 1) := by decide +kernel
theorem dX0_catches_17 : decode cX0_catches 17 = .ok (.ireturn, 1) := by decide +kernel
def wX0_catches (l0 : Nat) (l1 : Int32) (σ : kx_S) (Q : Int32 → kx_S → Prop) : Prop := xt σ l0 = 2 ∧ ((¬ (((xi σ 34 l0) >>> (l1 &&& 31)) &&& 1) = 1 → Q 0 σ) ∧
  ((((xi σ 34 l0) >>> (l1 &&& 31)) &&& 1) = 1 → Q 1 σ))
set_option maxRecDepth 100000 in
set_option maxHeartbeats 4000000 in
theorem hx_X0_catches (l : Launch) (G : kx_G) (l0 : Nat) (l1 : Int32) (σ : kx_S) (Q : Int32 → kx_S → Prop) (h : wX0_catches l0 l1 σ Q) : kx_M l G yX0_catches cX0_catches 2 (some .boolean) (0) (0) [.ref l0, .int l1] σ (kx_ri Q) := by
  refine kx_enter (by decide) rfl (Nat.le_of_ble_eq_true rfl) ?_
  intro p e s m below meth c ls F hr hlocks C hname hl
  have hl : lv_has ls 2 [(0, .ref l0), (1, .int l1)] := hl
  obtain ⟨H, eH⟩ : ∃ z9, z9 = s.heap := ⟨_, rfl⟩
  obtain ⟨locs, eL⟩ : ∃ z9 : List Loc, z9 = [] := ⟨_, rfl⟩
  rw [← eH, ← eL] at C
  rw [← eH, ← eL]
  obtain ⟨σ0, e0⟩ : ∃ z9, z9 = σ := ⟨_, rfl⟩
  have C : kx_X G (xc σ0) s H locs σ := by rw [e0]; exact C
  suffices hgo : kx_W p l e (0) (0) (xc σ0) s m ([.ref l0, .int l1] : List Value).toArray below meth c H locs σ (MQ below (kx_Q G σ0 (kx_ri Q)) ([.ref l0, .int l1] : List Value).toArray s (kx_N - xc σ0) (600 * (kx_N - xc σ0)) (kx_A G)) (F0 m 0 ls []) by rw [e0] at hgo; exact hgo
  clear e0
  refine lv_aload_n F.1 F.2.1 dX0_catches_0 rfl (lv_at hl 0 rfl) ?_
  obtain ⟨ht1, h⟩ := h
  refine xg_X0_marks F C ht1 ux_212 (fun _ h9 => h9) dX0_catches_1 ?_
  refine lv_iload_n F.1 F.2.1 dX0_catches_4 rfl (lv_at hl 1 rfl) ?_
  refine lv_ishr (x := xi σ 34 l0) (y := l1) F.1 F.2.1 dX0_catches_5 ?_
  refine lv_iconst (v := 1) F.1 F.2.1 dX0_catches_6 (by decide) ?_
  refine lv_iand (x := (xi σ 34 l0) >>> (l1 &&& 31)) (y := 1) F.1 F.2.1 dX0_catches_7 ?_
  refine lv_iconst (v := 1) F.1 F.2.1 dX0_catches_8 (by decide) ?_
  refine lv_icmp_ne (tgt := 16) F.1 F.2.1 dX0_catches_9 (by decide) (fun c2 => ?_) (fun c2 => ?_)
  · replace h := h.1 c2
    refine lv_iconst (v := 0) F.1 F.2.1 dX0_catches_16 (by decide) ?_
    exact kx_zret F C hr hlocks rfl h dX0_catches_17
  · replace h := h.2 c2
    refine lv_iconst (v := 1) F.1 F.2.1 dX0_catches_12 (by decide) ?_
    refine lv_goto (tgt := 17) F.1 F.2.1 dX0_catches_13 (by decide) ?_
    exact kx_zret F C hr hlocks rfl h dX0_catches_17
section
variable {p : Program} {l : Launch} {e : Env} {fr lo c0 : Nat} {s : State} {m : MethodId} {args : Array Value} {below : List Frame} {meth : Method} {c : Code} {H : Heap} {locs : List Loc} {Q : State → Prop}
variable {cc : ByteArray} {pc nL index : Nat} {ls : Array Slot} {rest : List Value} {G : kx_G} {σ : kx_S} {own : String}
theorem xk_X0_catches {P : Int32 → kx_S → Prop} (F : CallFix p m c cc nL s args kt_ own) (C : kx_X G c0 s H locs σ) (l0 : Nat) (l1 : Int32) (ha : xt σ l0 = 2) (h : wX0_catches l0 l1 σ P) (hw : Cond.methodLink own index yX0_catches ∈ kt_) (h1 : (0) + 1 ≤ fr) (h2 : 8 + (2 + 11) + (0) ≤ lo) (hsz : ls.size = nL) (hW : (rest.map fun v => v.category).sum ≤ 8) (hdg : decode cc pc = .ok (.invokevirtual index, 3)) (kk : ∀ (r : Int32) (u : kx_S) (H1 : Heap) (locs1 : List Loc), P r u → kx_X G c0 s H1 locs1 u → kx_W p l e fr lo c0 s m args below meth c H1 locs1 u Q (F0 m (pc + 3) ls (.int r :: rest))) : kx_W p l e fr lo c0 s m args below meth c H locs σ Q (F0 m pc ls (.int l1 :: .ref l0 :: rest)) :=
  kx_cV (n := 1) (As := [.int l1]) (Cn := RX0) F C (hx_X0_catches l G l0 l1 σ P h) (kt_V hw ux_214 ux_215 ux_31 ux_213) (by decide +kernel) ⟨h1, h2⟩ (kx_recv C (by rw [ha]; decide) (kx_e2 ha) rfl) rfl hsz hW hdg (fun v u H1 locs1 hP9 C9 => by obtain ⟨r, hv, hp⟩ := hP9; subst hv; exact kk r u H1 locs1 hp C9)
end
theorem dX0_takeFirstFor_0 : decode cX0_takeFirstFor 0 = .ok (.iconst 0, 1) := by decide +kernel
theorem dX0_takeFirstFor_1 : decode cX0_takeFirstFor 1 = .ok (.istore_n 2, 1) := by decide +kernel
theorem dX0_takeFirstFor_2 : decode cX0_takeFirstFor 2 = .ok (.iload_n 2, 1) := by decide +kernel
theorem dX0_takeFirstFor_3 : decode cX0_takeFirstFor 3 = .ok (.aload_n 0, 1) := by decide +kernel
theorem dX0_takeFirstFor_4 : decode cX0_takeFirstFor 4 = .ok (.getfield 10, 3) := by decide +kernel
theorem dX0_takeFirstFor_7 : decode cX0_takeFirstFor 7 = .ok (.invokeinterface 23 1, 5) := by decide +kernel
theorem dX0_takeFirstFor_12 : decode cX0_takeFirstFor 12 = .ok (.if_icmp .ge 58, 3) := by decide +kernel
theorem dX0_takeFirstFor_15 : decode cX0_takeFirstFor 15 = .ok (.aload_n 0, 1) := by decide +kernel
theorem dX0_takeFirstFor_16 : decode cX0_takeFirstFor 16 = .ok (.getfield 10, 3) := by decide +kernel
theorem dX0_takeFirstFor_19 : decode cX0_takeFirstFor 19 = .ok (.iload_n 2, 1) := by decide +kernel
theorem dX0_takeFirstFor_20 : decode cX0_takeFirstFor 20 = .ok (.invokeinterface 29 2, 5) := by decide +kernel
theorem dX0_takeFirstFor_25 : decode cX0_takeFirstFor 25 = .ok (.checkcast 33, 3) := by decide +kernel
theorem dX0_takeFirstFor_28 : decode cX0_takeFirstFor 28 = .ok (.astore_n 3, 1) := by decide +kernel
theorem dX0_takeFirstFor_29 : decode cX0_takeFirstFor 29 = .ok (.aload_n 3, 1) := by decide +kernel
theorem dX0_takeFirstFor_30 : decode cX0_takeFirstFor 30 = .ok (.getfield 35, 3) := by decide +kernel
theorem dX0_takeFirstFor_33 : decode cX0_takeFirstFor 33 = .ok (.aload_n 1, 1) := by decide +kernel
theorem dX0_takeFirstFor_34 : decode cX0_takeFirstFor 34 = .ok (.getfield 38, 3) := by decide +kernel
theorem dX0_takeFirstFor_37 : decode cX0_takeFirstFor 37 = .ok (.if_icmp .ne 27, 3) := by decide +kernel
theorem dX0_takeFirstFor_40 : decode cX0_takeFirstFor 40 = .ok (.aload_n 3, 1) := by decide +kernel
theorem dX0_takeFirstFor_41 : decode cX0_takeFirstFor 41 = .ok (.getfield 41, 3) := by decide +kernel
theorem dX0_takeFirstFor_44 : decode cX0_takeFirstFor 44 = .ok (.aload_n 1, 1) := by decide +kernel
theorem dX0_takeFirstFor_45 : decode cX0_takeFirstFor 45 = .ok (.getfield 43, 3) := by decide +kernel
theorem dX0_takeFirstFor_48 : decode cX0_takeFirstFor 48 = .ok (.if_icmp .lt 16, 3) := by decide +kernel
theorem dX0_takeFirstFor_51 : decode cX0_takeFirstFor 51 = .ok (.aload_n 0, 1) := by decide +kernel
theorem dX0_takeFirstFor_52 : decode cX0_takeFirstFor 52 = .ok (.getfield 10, 3) := by decide +kernel
theorem dX0_takeFirstFor_55 : decode cX0_takeFirstFor 55 = .ok (.iload_n 2, 1) := by decide +kernel
theorem dX0_takeFirstFor_56 : decode cX0_takeFirstFor 56 = .ok (.invokeinterface 44 2, 5) := by decide +kernel
theorem dX0_takeFirstFor_61 : decode cX0_takeFirstFor 61 = .ok (.pop, 1) := by decide +kernel
theorem dX0_takeFirstFor_62 : decode cX0_takeFirstFor 62 = .ok (.aload_n 3, 1) := by decide +kernel
theorem dX0_takeFirstFor_63 : decode cX0_takeFirstFor 63 = .ok (.areturn, 1) := by decide +kernel
theorem dX0_takeFirstFor_64 : decode cX0_takeFirstFor 64 = .ok (.iinc 2 1, 3) := by decide +kernel
theorem dX0_takeFirstFor_67 : decode cX0_takeFirstFor 67 = .ok (.goto (-65), 3) := by decide +kernel
theorem dX0_takeFirstFor_70 : decode cX0_takeFirstFor 70 = .ok (.aconst_null, 1) := by decide +kernel
theorem dX0_takeFirstFor_71 : decode cX0_takeFirstFor 71 = .ok (.areturn, 1) := by decide +kernel
def wX0_takeFirstFor_64 (k2 : Nat → Nat → Int32 → kx_S → Prop) (Q : Option Nat → kx_S → Prop) (l0 : Nat) (l1 : Nat) (l2 : Int32) (σ : kx_S) : Prop := ∀ v1 : Int32, v1 = l2 + 1 → k2 l0 l1 v1 σ
def wX0_takeFirstFor_51 (Q : Option Nat → kx_S → Prop) (l0 : Nat) (l2 : Int32) (l3 : Nat) (σ : kx_S) : Prop := xt σ l0 = 2 ∧ ∃ a3, xr σ 32 l0 = some a3 ∧ xt σ a3 = 1 ∧ wJx4a65c_remove_915e3 a3 l2 σ (fun q6 σ5 => Q (some l3) σ5)
def wX0_takeFirstFor_2 (k51 : Nat → Int32 → Nat → kx_S → Prop) (Q : Option Nat → kx_S → Prop) : Nat → Nat → Nat → Int32 → kx_S → Prop
  | 0, _, _, _, _ => False
  | n + 1, l0, l1, l2, σ => xt σ l0 = 2 ∧ ∃ a9, xr σ 32 l0 = some a9 ∧ xt σ a9 = 1 ∧ wJx4a65c_size_8abf5 a9 σ (fun r12 σ11 => ((r12 ≤ l2 → Q none σ11) ∧
    (¬ (r12 ≤ l2) → xt σ11 l0 = 2 ∧ ∃ a16, xr σ11 32 l0 = some a16 ∧ xt σ11 a16 = 1 ∧ wJx4a65c_get_915e3 a16 l2 σ11 (fun q19 σ18 => ∃ a21, q19 = some a21 ∧ xt σ18 a21 = 8 ∧ xt σ18 l1 = 9 ∧ ((¬ (xi σ18 129 a21) = (xi σ18 144 l1) → wX0_takeFirstFor_64 (wX0_takeFirstFor_2 k51 Q n) Q l0 l1 l2 σ18) ∧
      ((xi σ18 129 a21) = (xi σ18 144 l1) → (((xi σ18 130 a21) < (xi σ18 145 l1) → wX0_takeFirstFor_64 (wX0_takeFirstFor_2 k51 Q n) Q l0 l1 l2 σ18) ∧
        (¬ ((xi σ18 130 a21) < (xi σ18 145 l1)) → k51 l0 l2 a21 σ18))))))))
def wX0_takeFirstFor (l0 : Nat) (l1 : Nat) (σ : kx_S) (Q : Option Nat → kx_S → Prop) : Prop := ∃ j, wX0_takeFirstFor_2 (wX0_takeFirstFor_51 Q) Q j l0 l1 0 σ
set_option maxRecDepth 100000 in
set_option maxHeartbeats 4000000 in
theorem tX0_takeFirstFor_64 (l : Launch) (G : kx_G) (σ0 : kx_S) {p : Program} {e : Env} {s : State} {m : MethodId} {args : Array Value} {below : List Frame} {meth : Method} {c : Code} (F : CallFix p m c cX0_takeFirstFor 4 s args kt_ RX0) (hr : meth.sig.returnType = (some (.object "LogRiver$Log"))) (hlocks : meth.locks = false) (Q : Option Nat → kx_S → Prop) (k2 : Nat → Nat → Int32 → kx_S → Prop) (hk2 : ∀ (l0 : Nat) (l1 : Nat) (l2 : Int32) (σ : kx_S) (H : Heap) (locs : List Loc) (ls : Array Slot), k2 l0 l1 l2 σ → kx_X G (xc σ0) s H locs σ → lv_has ls 4 [(0, .ref l0), (1, .ref l1), (2, .int l2)] → kx_W p l e (3) (146) (xc σ0) s m args below meth c H locs σ (MQ below (kx_Q G σ0 (kx_rq Q)) args s (kx_N - xc σ0) (600 * (kx_N - xc σ0)) (kx_A G)) (F0 m 2 ls [])) : ∀ (l0 : Nat) (l1 : Nat) (l2 : Int32) (σ : kx_S) (H : Heap) (locs : List Loc) (ls : Array Slot), wX0_takeFirstFor_64 k2 Q l0 l1 l2 σ → kx_X G (xc σ0) s H locs σ → lv_has ls 4 [(0, .ref l0), (1, .ref l1), (2, .int l2)] → kx_W p l e (3) (146) (xc σ0) s m args below meth c H locs σ (MQ below (kx_Q G σ0 (kx_rq Q)) args s (kx_N - xc σ0) (600 * (kx_N - xc σ0)) (kx_A G)) (F0 m 64 ls []) := by
  intro l0 l1 l2 σ H locs ls h C hl
  obtain ⟨v1, ev1⟩ : ∃ z9 : Int32, z9 = l2 + 1 := ⟨_, rfl⟩
  replace h := h v1 ev1
  refine lv_iinc (v := v1) (lv' := [(2, .int v1), (0, .ref l0), (1, .ref l1)]) F.1 F.2.1 dX0_takeFirstFor_64 hl (k := 2) rfl (by rw [ev1]; rfl) (by decide) rfl (fun ls hl => ?_)
  refine lv_goto (tgt := 2) F.1 F.2.1 dX0_takeFirstFor_67 (by decide) ?_
  exact hk2 l0 l1 v1 σ H locs ls h C (lv_sub hl [1, 2, 0] rfl)
set_option maxRecDepth 100000 in
set_option maxHeartbeats 4000000 in
theorem tX0_takeFirstFor_51 (l : Launch) (G : kx_G) (σ0 : kx_S) {p : Program} {e : Env} {s : State} {m : MethodId} {args : Array Value} {below : List Frame} {meth : Method} {c : Code} (F : CallFix p m c cX0_takeFirstFor 4 s args kt_ RX0) (hr : meth.sig.returnType = (some (.object "LogRiver$Log"))) (hlocks : meth.locks = false) (Q : Option Nat → kx_S → Prop) : ∀ (l0 : Nat) (l2 : Int32) (l3 : Nat) (σ : kx_S) (H : Heap) (locs : List Loc) (ls : Array Slot), wX0_takeFirstFor_51 Q l0 l2 l3 σ → kx_X G (xc σ0) s H locs σ → lv_has ls 4 [(0, .ref l0), (2, .int l2), (3, .ref l3)] → kx_W p l e (3) (146) (xc σ0) s m args below meth c H locs σ (MQ below (kx_Q G σ0 (kx_rq Q)) args s (kx_N - xc σ0) (600 * (kx_N - xc σ0)) (kx_A G)) (F0 m 51 ls []) := by
  intro l0 l2 l3 σ H locs ls h C hl
  refine lv_aload_n F.1 F.2.1 dX0_takeFirstFor_51 rfl (lv_at hl 0 rfl) ?_
  obtain ⟨ht2, h⟩ := h
  refine xg_X0_heap F C ht2 ux_208 (fun _ h9 => h9) dX0_takeFirstFor_52 ?_
  obtain ⟨a3, ea4, h⟩ := h
  refine xq_nn ea4 ?_
  refine lv_iload_n F.1 F.2.1 dX0_takeFirstFor_55 rfl (lv_at hl 1 rfl) ?_
  obtain ⟨ht7, h⟩ := h
  refine xk_Jx4a65c_remove_915e3 F C a3 l2 ht7 h ux_216 (Nat.le_of_ble_eq_true rfl) (Nat.le_of_ble_eq_true rfl) hl.1 (by simp [Value.category]) dX0_takeFirstFor_56 (fun q6 σ5 H locs h C => ?_)
  refine lv_pop F.1 F.2.1 dX0_takeFirstFor_61 (by cases q6 <;> rfl) ?_
  refine lv_aload_n F.1 F.2.1 dX0_takeFirstFor_62 rfl (lv_at hl 2 rfl) ?_
  exact kx_qret (v := (some l3)) F C hr (Or.inl ⟨_, rfl⟩) hlocks h dX0_takeFirstFor_63
set_option maxRecDepth 100000 in
set_option maxHeartbeats 4000000 in
theorem tX0_takeFirstFor_2 (l : Launch) (G : kx_G) (σ0 : kx_S) {p : Program} {e : Env} {s : State} {m : MethodId} {args : Array Value} {below : List Frame} {meth : Method} {c : Code} (F : CallFix p m c cX0_takeFirstFor 4 s args kt_ RX0) (hr : meth.sig.returnType = (some (.object "LogRiver$Log"))) (hlocks : meth.locks = false) (Q : Option Nat → kx_S → Prop) (k51 : Nat → Int32 → Nat → kx_S → Prop) (hk51 : ∀ (l0 : Nat) (l2 : Int32) (l3 : Nat) (σ : kx_S) (H : Heap) (locs : List Loc) (ls : Array Slot), k51 l0 l2 l3 σ → kx_X G (xc σ0) s H locs σ → lv_has ls 4 [(0, .ref l0), (2, .int l2), (3, .ref l3)] → kx_W p l e (3) (146) (xc σ0) s m args below meth c H locs σ (MQ below (kx_Q G σ0 (kx_rq Q)) args s (kx_N - xc σ0) (600 * (kx_N - xc σ0)) (kx_A G)) (F0 m 51 ls [])) : ∀ (n : Nat) (l0 : Nat) (l1 : Nat) (l2 : Int32) (σ : kx_S) (H : Heap) (locs : List Loc) (ls : Array Slot), wX0_takeFirstFor_2 k51 Q n l0 l1 l2 σ → kx_X G (xc σ0) s H locs σ → lv_has ls 4 [(0, .ref l0), (1, .ref l1), (2, .int l2)] → kx_W p l e (3) (146) (xc σ0) s m args below meth c H locs σ (MQ below (kx_Q G σ0 (kx_rq Q)) args s (kx_N - xc σ0) (600 * (kx_N - xc σ0)) (kx_A G)) (F0 m 2 ls []) := by
  intro n
  induction n with
  | zero => intro l0 l1 l2 σ H locs ls h; exact h.elim
  | succ n ih =>
    intro l0 l1 l2 σ H locs ls h C hl
    refine lv_iload_n F.1 F.2.1 dX0_takeFirstFor_2 rfl (lv_at hl 2 rfl) ?_
    refine lv_aload_n F.1 F.2.1 dX0_takeFirstFor_3 rfl (lv_at hl 0 rfl) ?_
    obtain ⟨ht8, h⟩ := h
    refine xg_X0_heap F C ht8 ux_208 (fun _ h9 => h9) dX0_takeFirstFor_4 ?_
    obtain ⟨a9, ea10, h⟩ := h
    refine xq_nn ea10 ?_
    obtain ⟨ht13, h⟩ := h
    refine xk_Jx4a65c_size_8abf5 F C a9 ht13 h ux_217 (Nat.le_of_ble_eq_true rfl) (Nat.le_of_ble_eq_true rfl) hl.1 (by simp [Value.category]) dX0_takeFirstFor_7 (fun r12 σ11 H locs h C => ?_)
    refine lv_icmp_ge (tgt := 70) F.1 F.2.1 dX0_takeFirstFor_12 (by decide) (fun c14 => ?_) (fun c14 => ?_)
    · replace h := h.1 c14
      refine lv_null F.1 F.2.1 dX0_takeFirstFor_70 ?_
      exact kx_qret (v := none) F C hr (Or.inl ⟨_, rfl⟩) hlocks h dX0_takeFirstFor_71
    · replace h := h.2 c14
      refine lv_aload_n F.1 F.2.1 dX0_takeFirstFor_15 rfl (lv_at hl 0 rfl) ?_
      obtain ⟨ht15, h⟩ := h
      refine xg_X0_heap F C ht15 ux_208 (fun _ h9 => h9) dX0_takeFirstFor_16 ?_
      obtain ⟨a16, ea17, h⟩ := h
      refine xq_nn ea17 ?_
      refine lv_iload_n F.1 F.2.1 dX0_takeFirstFor_19 rfl (lv_at hl 2 rfl) ?_
      obtain ⟨ht20, h⟩ := h
      refine xk_Jx4a65c_get_915e3 F C a16 l2 ht20 h ux_218 (Nat.le_of_ble_eq_true rfl) (Nat.le_of_ble_eq_true rfl) hl.1 (by simp [Value.category]) dX0_takeFirstFor_20 (fun q19 σ18 H locs h C => ?_)
      obtain ⟨a21, ea22, h⟩ := h
      refine xq_nn ea22 ?_
      obtain ⟨ht23, h⟩ := h
      refine kx_cast F C (by rw [ht23]; decide) (kx_e8 ht23) rfl ux_219 dX0_takeFirstFor_25 ?_
      refine lv_astore_n (lv' := [(3, .ref a21), (0, .ref l0), (1, .ref l1), (2, .int l2)]) F.1 F.2.1 dX0_takeFirstFor_28 rfl hl (by decide) rfl (fun ls hl => ?_)
      refine lv_aload_n F.1 F.2.1 dX0_takeFirstFor_29 rfl (lv_at hl 0 rfl) ?_
      refine xg_X6_mark F C ht23 ux_220 (fun _ h9 => h9) dX0_takeFirstFor_30 ?_
      refine lv_aload_n F.1 F.2.1 dX0_takeFirstFor_33 rfl (lv_at hl 2 rfl) ?_
      obtain ⟨ht24, h⟩ := h
      refine xg_X7_mark F C ht24 ux_221 (fun _ h9 => h9) dX0_takeFirstFor_34 ?_
      refine lv_icmp_ne (tgt := 64) F.1 F.2.1 dX0_takeFirstFor_37 (by decide) (fun c25 => ?_) (fun c25 => ?_)
      · replace h := h.1 c25
        exact tX0_takeFirstFor_64 l G σ0 F hr hlocks Q (wX0_takeFirstFor_2 k51 Q n) (fun l0 l1 l2 σ9 H locs ls h C hl => ih l0 l1 l2 σ9 H locs ls h C hl) l0 l1 l2 σ18 H locs ls h C (lv_sub hl [1, 2, 3] rfl)
      · replace h := h.2 c25
        refine lv_aload_n F.1 F.2.1 dX0_takeFirstFor_40 rfl (lv_at hl 0 rfl) ?_
        refine xg_X6_size F C ht23 ux_222 (fun _ h9 => h9) dX0_takeFirstFor_41 ?_
        refine lv_aload_n F.1 F.2.1 dX0_takeFirstFor_44 rfl (lv_at hl 2 rfl) ?_
        refine xg_X7_size F C ht24 ux_223 (fun _ h9 => h9) dX0_takeFirstFor_45 ?_
        refine lv_icmp_lt (tgt := 64) F.1 F.2.1 dX0_takeFirstFor_48 (by decide) (fun c26 => ?_) (fun c26 => ?_)
        · replace h := h.1 c26
          exact tX0_takeFirstFor_64 l G σ0 F hr hlocks Q (wX0_takeFirstFor_2 k51 Q n) (fun l0 l1 l2 σ9 H locs ls h C hl => ih l0 l1 l2 σ9 H locs ls h C hl) l0 l1 l2 σ18 H locs ls h C (lv_sub hl [1, 2, 3] rfl)
        · replace h := h.2 c26
          exact hk51 l0 l2 a21 σ18 H locs ls h C (lv_sub hl [1, 3, 0] rfl)
set_option maxRecDepth 100000 in
set_option maxHeartbeats 4000000 in
theorem hx_X0_takeFirstFor (l : Launch) (G : kx_G) (l0 : Nat) (l1 : Nat) (σ : kx_S) (Q : Option Nat → kx_S → Prop) (h : wX0_takeFirstFor l0 l1 σ Q) : kx_M l G yX0_takeFirstFor cX0_takeFirstFor 4 (some (.object "LogRiver$Log")) (3) (146) [.ref l0, .ref l1] σ (kx_rq Q) := by
  refine kx_enter (by decide) rfl (Nat.le_of_ble_eq_true rfl) ?_
  intro p e s m below meth c ls F hr hlocks C hname hl
  have hl : lv_has ls 4 [(0, .ref l0), (1, .ref l1)] := hl
  obtain ⟨H, eH⟩ : ∃ z9, z9 = s.heap := ⟨_, rfl⟩
  obtain ⟨locs, eL⟩ : ∃ z9 : List Loc, z9 = [] := ⟨_, rfl⟩
  rw [← eH, ← eL] at C
  rw [← eH, ← eL]
  obtain ⟨σ0, e0⟩ : ∃ z9, z9 = σ := ⟨_, rfl⟩
  have C : kx_X G (xc σ0) s H locs σ := by rw [e0]; exact C
  suffices hgo : kx_W p l e (3) (146) (xc σ0) s m ([.ref l0, .ref l1] : List Value).toArray below meth c H locs σ (MQ below (kx_Q G σ0 (kx_rq Q)) ([.ref l0, .ref l1] : List Value).toArray s (kx_N - xc σ0) (600 * (kx_N - xc σ0)) (kx_A G)) (F0 m 0 ls []) by rw [e0] at hgo; exact hgo
  clear e0
  refine lv_iconst (v := 0) F.1 F.2.1 dX0_takeFirstFor_0 (by decide) ?_
  refine lv_istore_n (lv' := [(2, .int 0), (0, .ref l0), (1, .ref l1)]) F.1 F.2.1 dX0_takeFirstFor_1 rfl hl (by decide) rfl (fun ls hl => ?_)
  obtain ⟨n27, h⟩ := h
  exact tX0_takeFirstFor_2 l G σ0 F hr hlocks Q (wX0_takeFirstFor_51 Q) (tX0_takeFirstFor_51 l G σ0 F hr hlocks Q) n27 l0 l1 0 σ H locs ls h C (lv_sub hl [1, 2, 0] rfl)
section
variable {p : Program} {l : Launch} {e : Env} {fr lo c0 : Nat} {s : State} {m : MethodId} {args : Array Value} {below : List Frame} {meth : Method} {c : Code} {H : Heap} {locs : List Loc} {Q : State → Prop}
variable {cc : ByteArray} {pc nL index : Nat} {ls : Array Slot} {rest : List Value} {G : kx_G} {σ : kx_S} {own : String}
theorem xk_X0_takeFirstFor {P : Option Nat → kx_S → Prop} (F : CallFix p m c cc nL s args kt_ own) (C : kx_X G c0 s H locs σ) (l0 : Nat) (l1 : Nat) (ha : xt σ l0 = 2) (h : wX0_takeFirstFor l0 l1 σ P) (hw : Cond.methodLink own index yX0_takeFirstFor ∈ kt_) (h1 : (3) + 1 ≤ fr) (h2 : 8 + (4 + 11) + (146) ≤ lo) (hsz : ls.size = nL) (hW : (rest.map fun v => v.category).sum ≤ 8) (hdg : decode cc pc = .ok (.invokevirtual index, 3)) (kk : ∀ (r : Option Nat) (u : kx_S) (H1 : Heap) (locs1 : List Loc), P r u → kx_X G c0 s H1 locs1 u → kx_W p l e fr lo c0 s m args below meth c H1 locs1 u Q (F0 m (pc + 3) ls (va_rf r :: rest))) : kx_W p l e fr lo c0 s m args below meth c H locs σ Q (F0 m pc ls (.ref l1 :: .ref l0 :: rest)) :=
  kx_cV (n := 1) (As := [.ref l1]) (Cn := RX0) F C (hx_X0_takeFirstFor l G l0 l1 σ P h) (kt_V hw ux_225 ux_226 ux_31 ux_224) (by decide +kernel) ⟨h1, h2⟩ (kx_recv C (by rw [ha]; decide) (kx_e2 ha) rfl) rfl hsz hW hdg (fun v u H1 locs1 hP9 C9 => by obtain ⟨r, hv, hp⟩ := hP9; subst hv; exact kk r u H1 locs1 hp C9)
end
theorem dX1_init_0 : decode cX1_init 0 = .ok (.aload_n 0, 1) := by decide +kernel
theorem dX1_init_1 : decode cX1_init 1 = .ok (.invokespecial 3, 3) := by decide +kernel
theorem dX1_init_4 : decode cX1_init 4 = .ok (.aload_n 0, 1) := by decide +kernel
theorem dX1_init_5 : decode cX1_init 5 = .ok (.iload_n 1, 1) := by decide +kernel
theorem dX1_init_6 : decode cX1_init 6 = .ok (.putfield 9, 3) := by decide +kernel
theorem dX1_init_9 : decode cX1_init 9 = .ok (.aload_n 0, 1) := by decide +kernel
theorem dX1_init_10 : decode cX1_init 10 = .ok (.new 15, 3) := by decide +kernel
theorem dX1_init_13 : decode cX1_init 13 = .ok (.dup, 1) := by decide +kernel
theorem dX1_init_14 : decode cX1_init 14 = .ok (.invokespecial 17, 3) := by decide +kernel
theorem dX1_init_17 : decode cX1_init 17 = .ok (.putfield 18, 3) := by decide +kernel
theorem dX1_init_20 : decode cX1_init 20 = .ok (.return_, 1) := by decide +kernel
def wX1_init (l0 : Nat) (l1 : Int32) (σ : kx_S) (Q : kx_S → Prop) : Prop := xt σ l0 = 3 ∧ ∀ σ2, σ2 = xsi σ 48 l0 l1 → xc σ2 < kx_N ∧ ∀ p5, xt σ2 p5 = 0 → p5 ≠ xz σ2 → ∀ σ8, σ8 = xnew σ2 p5 1 → wJx4a65c_init_da8c8 p5 σ8 (fun σ10 => xt σ10 l0 = 3 ∧ ∀ σ12, σ12 = xsr σ10 49 l0 (some p5) → Q σ12)
set_option maxRecDepth 100000 in
set_option maxHeartbeats 4000000 in
theorem hx_X1_init (l : Launch) (G : kx_G) (l0 : Nat) (l1 : Int32) (σ : kx_S) (Q : kx_S → Prop) (h : wX1_init l0 l1 σ Q) : kx_M l G yX1_init cX1_init 2 none (4) (72) [.ref l0, .int l1] σ (kx_rv Q) := by
  refine kx_enter (by decide) rfl (Nat.le_of_ble_eq_true rfl) ?_
  intro p e s m below meth c ls F hr hlocks C hname hl
  have hini : meth.name = "<init>" := hname
  have hl : lv_has ls 2 [(0, .ref l0), (1, .int l1)] := hl
  obtain ⟨H, eH⟩ : ∃ z9, z9 = s.heap := ⟨_, rfl⟩
  obtain ⟨locs, eL⟩ : ∃ z9 : List Loc, z9 = [] := ⟨_, rfl⟩
  rw [← eH, ← eL] at C
  rw [← eH, ← eL]
  obtain ⟨σ0, e0⟩ : ∃ z9, z9 = σ := ⟨_, rfl⟩
  have C : kx_X G (xc σ0) s H locs σ := by rw [e0]; exact C
  suffices hgo : kx_W p l e (4) (72) (xc σ0) s m ([.ref l0, .int l1] : List Value).toArray below meth c H locs σ (MQ below (kx_Q G σ0 (kx_rv Q)) ([.ref l0, .int l1] : List Value).toArray s (kx_N - xc σ0) (600 * (kx_N - xc σ0)) (kx_A G)) (F0 m 0 ls []) by rw [e0] at hgo; exact hgo
  clear e0
  refine lv_aload_n F.1 F.2.1 dX1_init_0 rfl (lv_at hl 0 rfl) ?_
  refine kx_objI F ux_227 hl.1 (Nat.le_of_ble_eq_true rfl) (by simp [Value.category]) dX1_init_1 ?_
  refine lv_aload_n F.1 F.2.1 dX1_init_4 rfl (lv_at hl 0 rfl) ?_
  refine lv_iload_n F.1 F.2.1 dX1_init_5 rfl (lv_at hl 1 rfl) ?_
  obtain ⟨ht1, h⟩ := h
  refine xp_X1_carry (x := l1) F C ht1 ux_228 (fun _ h9 => h9) hini rfl dX1_init_6 (fun H locs C => ?_)
  generalize eσ2 : xsi σ 48 l0 l1 = σ2 at C ⊢
  replace h := h σ2 eσ2.symm
  have ht3 : xt σ2 l0 = 3 := by rw [← eσ2]; exact ht1
  refine lv_aload_n F.1 F.2.1 dX1_init_9 rfl (lv_at hl 0 rfl) ?_
  obtain ⟨hn4, h⟩ := h
  refine xw_Jx4a65c F C hn4 ux_229 dX1_init_10 (fun p5 H z6 z7 C => ?_)
  replace h := h p5 z6 (fun h9 => z7 (h9.trans (show xz σ2 = _ from C.2.1.1)))
  generalize eσ8 : xnew σ2 p5 1 = σ8 at C ⊢
  replace h := h σ8 eσ8.symm
  have ht9 : xt σ8 p5 = 1 := by rw [← eσ8]; exact va_up_self _ _ _
  refine lv_dup F.1 F.2.1 dX1_init_13 rfl ?_
  refine xk_Jx4a65c_init_da8c8 F C p5 h ux_230 (Nat.le_of_ble_eq_true rfl) (Nat.le_of_ble_eq_true rfl) hl.1 (by simp [Value.category]) dX1_init_14 (fun σ10 H locs h C => ?_)
  obtain ⟨ht11, h⟩ := h
  refine xp_X1_logs (x := some p5) F C ht11 ux_231 (fun _ h9 => h9) hini rfl dX1_init_17 (fun H locs C => ?_)
  generalize eσ12 : xsr σ10 49 l0 (some p5) = σ12 at C ⊢
  replace h := h σ12 eσ12.symm
  have ht13 : xt σ12 l0 = 3 := by rw [← eσ12]; exact ht11
  exact kx_vret F C hr hlocks h dX1_init_20
section
variable {p : Program} {l : Launch} {e : Env} {fr lo c0 : Nat} {s : State} {m : MethodId} {args : Array Value} {below : List Frame} {meth : Method} {c : Code} {H : Heap} {locs : List Loc} {Q : State → Prop}
variable {cc : ByteArray} {pc nL index : Nat} {ls : Array Slot} {rest : List Value} {G : kx_G} {σ : kx_S} {own : String}
theorem xk_X1_init {P : kx_S → Prop} (F : CallFix p m c cc nL s args kt_ own) (C : kx_X G c0 s H locs σ) (l0 : Nat) (l1 : Int32) (h : wX1_init l0 l1 σ P) (hw : Cond.methodLink own index yX1_init ∈ kt_) (h1 : (4) + 1 ≤ fr) (h2 : 8 + (2 + 11) + (72) ≤ lo) (hsz : ls.size = nL) (hW : (rest.map fun v => v.category).sum ≤ 8) (hdg : decode cc pc = .ok (.invokespecial index, 3)) (kk : ∀ (u : kx_S) (H1 : Heap) (locs1 : List Loc), P u → kx_X G c0 s H1 locs1 u → kx_W p l e fr lo c0 s m args below meth c H1 locs1 u Q (F0 m (pc + 3) ls rest)) : kx_W p l e fr lo c0 s m args below meth c H locs σ Q (F0 m pc ls (.int l1 :: .ref l0 :: rest)) :=
  kx_cI (n := 1) (As := [.int l1]) F C (hx_X1_init l G l0 l1 σ P h) ux_232 ux_37 hw ux_233 rfl (by decide +kernel) ⟨h1, h2⟩ rfl hsz hW hdg (fun v u H1 locs1 hP9 C9 => by obtain ⟨hv, hp⟩ := hP9; subst hv; exact kk u H1 locs1 hp C9)
end
theorem dX1_ageLogs_0 : decode cX1_ageLogs 0 = .ok (.aload_n 0, 1) := by decide +kernel
theorem dX1_ageLogs_1 : decode cX1_ageLogs 1 = .ok (.getfield 18, 3) := by decide +kernel
theorem dX1_ageLogs_4 : decode cX1_ageLogs 4 = .ok (.invokeinterface 22 1, 5) := by decide +kernel
theorem dX1_ageLogs_9 : decode cX1_ageLogs 9 = .ok (.iconst 1, 1) := by decide +kernel
theorem dX1_ageLogs_10 : decode cX1_ageLogs 10 = .ok (.isub, 1) := by decide +kernel
theorem dX1_ageLogs_11 : decode cX1_ageLogs 11 = .ok (.istore_n 1, 1) := by decide +kernel
theorem dX1_ageLogs_12 : decode cX1_ageLogs 12 = .ok (.iload_n 1, 1) := by decide +kernel
theorem dX1_ageLogs_13 : decode cX1_ageLogs 13 = .ok (.ifCond .lt 63, 3) := by decide +kernel
theorem dX1_ageLogs_16 : decode cX1_ageLogs 16 = .ok (.aload_n 0, 1) := by decide +kernel
theorem dX1_ageLogs_17 : decode cX1_ageLogs 17 = .ok (.getfield 18, 3) := by decide +kernel
theorem dX1_ageLogs_20 : decode cX1_ageLogs 20 = .ok (.iload_n 1, 1) := by decide +kernel
theorem dX1_ageLogs_21 : decode cX1_ageLogs 21 = .ok (.invokeinterface 28 2, 5) := by decide +kernel
theorem dX1_ageLogs_26 : decode cX1_ageLogs 26 = .ok (.checkcast 32, 3) := by decide +kernel
theorem dX1_ageLogs_29 : decode cX1_ageLogs 29 = .ok (.astore_n 2, 1) := by decide +kernel
theorem dX1_ageLogs_30 : decode cX1_ageLogs 30 = .ok (.aload_n 2, 1) := by decide +kernel
theorem dX1_ageLogs_31 : decode cX1_ageLogs 31 = .ok (.dup, 1) := by decide +kernel
theorem dX1_ageLogs_32 : decode cX1_ageLogs 32 = .ok (.getfield 34, 3) := by decide +kernel
theorem dX1_ageLogs_35 : decode cX1_ageLogs 35 = .ok (.iconst 1, 1) := by decide +kernel
theorem dX1_ageLogs_36 : decode cX1_ageLogs 36 = .ok (.iadd, 1) := by decide +kernel
theorem dX1_ageLogs_37 : decode cX1_ageLogs 37 = .ok (.putfield 34, 3) := by decide +kernel
theorem dX1_ageLogs_40 : decode cX1_ageLogs 40 = .ok (.aload_n 2, 1) := by decide +kernel
theorem dX1_ageLogs_41 : decode cX1_ageLogs 41 = .ok (.getfield 34, 3) := by decide +kernel
theorem dX1_ageLogs_44 : decode cX1_ageLogs 44 = .ok (.bipush 24, 2) := by decide +kernel
theorem dX1_ageLogs_46 : decode cX1_ageLogs 46 = .ok (.aload_n 2, 1) := by decide +kernel
theorem dX1_ageLogs_47 : decode cX1_ageLogs 47 = .ok (.getfield 37, 3) := by decide +kernel
theorem dX1_ageLogs_50 : decode cX1_ageLogs 50 = .ok (.imul, 1) := by decide +kernel
theorem dX1_ageLogs_51 : decode cX1_ageLogs 51 = .ok (.if_icmp .lt 19, 3) := by decide +kernel
theorem dX1_ageLogs_54 : decode cX1_ageLogs 54 = .ok (.aload_n 2, 1) := by decide +kernel
theorem dX1_ageLogs_55 : decode cX1_ageLogs 55 = .ok (.iconst 5, 1) := by decide +kernel
theorem dX1_ageLogs_56 : decode cX1_ageLogs 56 = .ok (.putfield 39, 3) := by decide +kernel
theorem dX1_ageLogs_59 : decode cX1_ageLogs 59 = .ok (.aload_n 0, 1) := by decide +kernel
theorem dX1_ageLogs_60 : decode cX1_ageLogs 60 = .ok (.getfield 18, 3) := by decide +kernel
theorem dX1_ageLogs_63 : decode cX1_ageLogs 63 = .ok (.iload_n 1, 1) := by decide +kernel
theorem dX1_ageLogs_64 : decode cX1_ageLogs 64 = .ok (.invokeinterface 42 2, 5) := by decide +kernel
theorem dX1_ageLogs_69 : decode cX1_ageLogs 69 = .ok (.pop, 1) := by decide +kernel
theorem dX1_ageLogs_70 : decode cX1_ageLogs 70 = .ok (.iinc 1 (-1), 3) := by decide +kernel
theorem dX1_ageLogs_73 : decode cX1_ageLogs 73 = .ok (.goto (-61), 3) := by decide +kernel
theorem dX1_ageLogs_76 : decode cX1_ageLogs 76 = .ok (.return_, 1) := by decide +kernel
def wX1_ageLogs_70 (k12 : Nat → Int32 → kx_S → Prop) (Q : kx_S → Prop) (l0 : Nat) (l1 : Int32) (σ : kx_S) : Prop := ∀ v1 : Int32, v1 = l1 + (-1) → k12 l0 v1 σ
def wX1_ageLogs_12 (Q : kx_S → Prop) : Nat → Nat → Int32 → kx_S → Prop
  | 0, _, _, _ => False
  | n + 1, l0, l1, σ => ((l1 < 0 → Q σ) ∧
    (¬ (l1 < 0) → xt σ l0 = 3 ∧ ∃ a4, xr σ 49 l0 = some a4 ∧ xt σ a4 = 1 ∧ wJx4a65c_get_915e3 a4 l1 σ (fun q7 σ6 => ∃ a9, q7 = some a9 ∧ xt σ6 a9 = 8 ∧ ∀ σ12, σ12 = xsi σ6 135 a9 ((xi σ6 135 a9) + 1) → (((xi σ12 135 a9) < (24 * (xi σ12 130 a9)) → wX1_ageLogs_70 (wX1_ageLogs_12 Q n) Q l0 l1 σ12) ∧
      (¬ ((xi σ12 135 a9) < (24 * (xi σ12 130 a9))) → ∀ σ15, σ15 = xsi σ12 132 a9 5 → xt σ15 l0 = 3 ∧ ∃ a18, xr σ15 49 l0 = some a18 ∧ xt σ15 a18 = 1 ∧ wJx4a65c_remove_915e3 a18 l1 σ15 (fun q21 σ20 => wX1_ageLogs_70 (wX1_ageLogs_12 Q n) Q l0 l1 σ20))))))
def wX1_ageLogs (l0 : Nat) (σ : kx_S) (Q : kx_S → Prop) : Prop := xt σ l0 = 3 ∧ ∃ a24, xr σ 49 l0 = some a24 ∧ xt σ a24 = 1 ∧ wJx4a65c_size_8abf5 a24 σ (fun r27 σ26 => ∀ v29, v29 = r27 - 1 → ∃ j, wX1_ageLogs_12 Q j l0 v29 σ26)
set_option maxRecDepth 100000 in
set_option maxHeartbeats 4000000 in
theorem tX1_ageLogs_70 (l : Launch) (G : kx_G) (σ0 : kx_S) {p : Program} {e : Env} {s : State} {m : MethodId} {args : Array Value} {below : List Frame} {meth : Method} {c : Code} (F : CallFix p m c cX1_ageLogs 3 s args kt_ RX1) (hr : meth.sig.returnType = none) (hlocks : meth.locks = false) (Q : kx_S → Prop) (k12 : Nat → Int32 → kx_S → Prop) (hk12 : ∀ (l0 : Nat) (l1 : Int32) (σ : kx_S) (H : Heap) (locs : List Loc) (ls : Array Slot), k12 l0 l1 σ → kx_X G (xc σ0) s H locs σ → lv_has ls 3 [(0, .ref l0), (1, .int l1)] → kx_W p l e (3) (146) (xc σ0) s m args below meth c H locs σ (MQ below (kx_Q G σ0 (kx_rv Q)) args s (kx_N - xc σ0) (600 * (kx_N - xc σ0)) (kx_A G)) (F0 m 12 ls [])) : ∀ (l0 : Nat) (l1 : Int32) (σ : kx_S) (H : Heap) (locs : List Loc) (ls : Array Slot), wX1_ageLogs_70 k12 Q l0 l1 σ → kx_X G (xc σ0) s H locs σ → lv_has ls 3 [(0, .ref l0), (1, .int l1)] → kx_W p l e (3) (146) (xc σ0) s m args below meth c H locs σ (MQ below (kx_Q G σ0 (kx_rv Q)) args s (kx_N - xc σ0) (600 * (kx_N - xc σ0)) (kx_A G)) (F0 m 70 ls []) := by
  intro l0 l1 σ H locs ls h C hl
  obtain ⟨v1, ev1⟩ : ∃ z9 : Int32, z9 = l1 + (-1) := ⟨_, rfl⟩
  replace h := h v1 ev1
  refine lv_iinc (v := v1) (lv' := [(1, .int v1), (0, .ref l0)]) F.1 F.2.1 dX1_ageLogs_70 hl (k := 1) rfl (by rw [ev1]; rfl) (by decide) rfl (fun ls hl => ?_)
  refine lv_goto (tgt := 12) F.1 F.2.1 dX1_ageLogs_73 (by decide) ?_
  exact hk12 l0 v1 σ H locs ls h C (lv_sub hl [1, 0] rfl)
set_option maxRecDepth 100000 in
set_option maxHeartbeats 4000000 in
theorem tX1_ageLogs_12 (l : Launch) (G : kx_G) (σ0 : kx_S) {p : Program} {e : Env} {s : State} {m : MethodId} {args : Array Value} {below : List Frame} {meth : Method} {c : Code} (F : CallFix p m c cX1_ageLogs 3 s args kt_ RX1) (hr : meth.sig.returnType = none) (hlocks : meth.locks = false) (Q : kx_S → Prop) : ∀ (n : Nat) (l0 : Nat) (l1 : Int32) (σ : kx_S) (H : Heap) (locs : List Loc) (ls : Array Slot), wX1_ageLogs_12 Q n l0 l1 σ → kx_X G (xc σ0) s H locs σ → lv_has ls 3 [(0, .ref l0), (1, .int l1)] → kx_W p l e (3) (146) (xc σ0) s m args below meth c H locs σ (MQ below (kx_Q G σ0 (kx_rv Q)) args s (kx_N - xc σ0) (600 * (kx_N - xc σ0)) (kx_A G)) (F0 m 12 ls []) := by
  intro n
  induction n with
  | zero => intro l0 l1 σ H locs ls h; exact h.elim
  | succ n ih =>
    intro l0 l1 σ H locs ls h C hl
    refine lv_iload_n F.1 F.2.1 dX1_ageLogs_12 rfl (lv_at hl 1 rfl) ?_
    refine lv_if_lt (tgt := 76) F.1 F.2.1 dX1_ageLogs_13 (by decide) (fun c2 => ?_) (fun c2 => ?_)
    · replace h := h.1 c2
      exact kx_vret F C hr hlocks h dX1_ageLogs_76
    · replace h := h.2 c2
      refine lv_aload_n F.1 F.2.1 dX1_ageLogs_16 rfl (lv_at hl 0 rfl) ?_
      obtain ⟨ht3, h⟩ := h
      refine xg_X1_logs F C ht3 ux_231 (fun _ h9 => h9) dX1_ageLogs_17 ?_
      obtain ⟨a4, ea5, h⟩ := h
      refine xq_nn ea5 ?_
      refine lv_iload_n F.1 F.2.1 dX1_ageLogs_20 rfl (lv_at hl 1 rfl) ?_
      obtain ⟨ht8, h⟩ := h
      refine xk_Jx4a65c_get_915e3 F C a4 l1 ht8 h ux_234 (Nat.le_of_ble_eq_true rfl) (Nat.le_of_ble_eq_true rfl) hl.1 (by simp [Value.category]) dX1_ageLogs_21 (fun q7 σ6 H locs h C => ?_)
      obtain ⟨a9, ea10, h⟩ := h
      refine xq_nn ea10 ?_
      obtain ⟨ht11, h⟩ := h
      refine kx_cast F C (by rw [ht11]; decide) (kx_e8 ht11) rfl ux_235 dX1_ageLogs_26 ?_
      refine lv_astore_n (lv' := [(2, .ref a9), (0, .ref l0), (1, .int l1)]) F.1 F.2.1 dX1_ageLogs_29 rfl hl (by decide) rfl (fun ls hl => ?_)
      refine lv_aload_n F.1 F.2.1 dX1_ageLogs_30 rfl (lv_at hl 0 rfl) ?_
      refine lv_dup F.1 F.2.1 dX1_ageLogs_31 rfl ?_
      refine xg_X6_age F C ht11 ux_236 (fun _ h9 => h9) dX1_ageLogs_32 ?_
      refine lv_iconst (v := 1) F.1 F.2.1 dX1_ageLogs_35 (by decide) ?_
      refine lv_iadd (x := xi σ6 135 a9) (y := 1) F.1 F.2.1 dX1_ageLogs_36 ?_
      refine xp_X6_age (x := (xi σ6 135 a9) + 1) F C ht11 ux_236 (fun _ h9 => h9) dX1_ageLogs_37 (fun H locs C => ?_)
      generalize eσ12 : xsi σ6 135 a9 ((xi σ6 135 a9) + 1) = σ12 at C ⊢
      replace h := h σ12 eσ12.symm
      have ht13 : xt σ12 a9 = 8 := by rw [← eσ12]; exact ht11
      refine lv_aload_n F.1 F.2.1 dX1_ageLogs_40 rfl (lv_at hl 0 rfl) ?_
      refine xg_X6_age F C ht13 ux_236 (fun _ h9 => h9) dX1_ageLogs_41 ?_
      refine lv_bipush (v := 24) F.1 F.2.1 dX1_ageLogs_44 (by decide) ?_
      refine lv_aload_n F.1 F.2.1 dX1_ageLogs_46 rfl (lv_at hl 0 rfl) ?_
      refine xg_X6_size F C ht13 ux_237 (fun _ h9 => h9) dX1_ageLogs_47 ?_
      refine lv_imul (x := 24) (y := xi σ12 130 a9) F.1 F.2.1 dX1_ageLogs_50 ?_
      refine lv_icmp_lt (tgt := 70) F.1 F.2.1 dX1_ageLogs_51 (by decide) (fun c14 => ?_) (fun c14 => ?_)
      · replace h := h.1 c14
        exact tX1_ageLogs_70 l G σ0 F hr hlocks Q (wX1_ageLogs_12 Q n) (fun l0 l1 σ9 H locs ls h C hl => ih l0 l1 σ9 H locs ls h C hl) l0 l1 σ12 H locs ls h C (lv_sub hl [1, 2] rfl)
      · replace h := h.2 c14
        refine lv_aload_n F.1 F.2.1 dX1_ageLogs_54 rfl (lv_at hl 0 rfl) ?_
        refine lv_iconst (v := 5) F.1 F.2.1 dX1_ageLogs_55 (by decide) ?_
        refine xp_X6_place (x := 5) F C ht13 ux_238 (fun _ h9 => h9) dX1_ageLogs_56 (fun H locs C => ?_)
        generalize eσ15 : xsi σ12 132 a9 5 = σ15 at C ⊢
        replace h := h σ15 eσ15.symm
        have ht16 : xt σ15 a9 = 8 := by rw [← eσ15]; exact ht13
        refine lv_aload_n F.1 F.2.1 dX1_ageLogs_59 rfl (lv_at hl 1 rfl) ?_
        obtain ⟨ht17, h⟩ := h
        refine xg_X1_logs F C ht17 ux_231 (fun _ h9 => h9) dX1_ageLogs_60 ?_
        obtain ⟨a18, ea19, h⟩ := h
        refine xq_nn ea19 ?_
        refine lv_iload_n F.1 F.2.1 dX1_ageLogs_63 rfl (lv_at hl 2 rfl) ?_
        obtain ⟨ht22, h⟩ := h
        refine xk_Jx4a65c_remove_915e3 F C a18 l1 ht22 h ux_239 (Nat.le_of_ble_eq_true rfl) (Nat.le_of_ble_eq_true rfl) hl.1 (by simp [Value.category]) dX1_ageLogs_64 (fun q21 σ20 H locs h C => ?_)
        refine lv_pop F.1 F.2.1 dX1_ageLogs_69 (by cases q21 <;> rfl) ?_
        exact tX1_ageLogs_70 l G σ0 F hr hlocks Q (wX1_ageLogs_12 Q n) (fun l0 l1 σ9 H locs ls h C hl => ih l0 l1 σ9 H locs ls h C hl) l0 l1 σ20 H locs ls h C (lv_sub hl [1, 2] rfl)
set_option maxRecDepth 100000 in
set_option maxHeartbeats 4000000 in
theorem hx_X1_ageLogs (l : Launch) (G : kx_G) (l0 : Nat) (σ : kx_S) (Q : kx_S → Prop) (h : wX1_ageLogs l0 σ Q) : kx_M l G yX1_ageLogs cX1_ageLogs 3 none (3) (146) [.ref l0] σ (kx_rv Q) := by
  refine kx_enter (by decide) rfl (Nat.le_of_ble_eq_true rfl) ?_
  intro p e s m below meth c ls F hr hlocks C hname hl
  have hl : lv_has ls 3 [(0, .ref l0)] := hl
  obtain ⟨H, eH⟩ : ∃ z9, z9 = s.heap := ⟨_, rfl⟩
  obtain ⟨locs, eL⟩ : ∃ z9 : List Loc, z9 = [] := ⟨_, rfl⟩
  rw [← eH, ← eL] at C
  rw [← eH, ← eL]
  obtain ⟨σ0, e0⟩ : ∃ z9, z9 = σ := ⟨_, rfl⟩
  have C : kx_X G (xc σ0) s H locs σ := by rw [e0]; exact C
  suffices hgo : kx_W p l e (3) (146) (xc σ0) s m ([.ref l0] : List Value).toArray below meth c H locs σ (MQ below (kx_Q G σ0 (kx_rv Q)) ([.ref l0] : List Value).toArray s (kx_N - xc σ0) (600 * (kx_N - xc σ0)) (kx_A G)) (F0 m 0 ls []) by rw [e0] at hgo; exact hgo
  clear e0
  refine lv_aload_n F.1 F.2.1 dX1_ageLogs_0 rfl (lv_at hl 0 rfl) ?_
  obtain ⟨ht23, h⟩ := h
  refine xg_X1_logs F C ht23 ux_231 (fun _ h9 => h9) dX1_ageLogs_1 ?_
  obtain ⟨a24, ea25, h⟩ := h
  refine xq_nn ea25 ?_
  obtain ⟨ht28, h⟩ := h
  refine xk_Jx4a65c_size_8abf5 F C a24 ht28 h ux_240 (Nat.le_of_ble_eq_true rfl) (Nat.le_of_ble_eq_true rfl) hl.1 (by simp [Value.category]) dX1_ageLogs_4 (fun r27 σ26 H locs h C => ?_)
  refine lv_iconst (v := 1) F.1 F.2.1 dX1_ageLogs_9 (by decide) ?_
  refine lv_isub (x := r27) (y := 1) F.1 F.2.1 dX1_ageLogs_10 ?_
  refine lv_topi (fun v29 ev29 => ?_)
  replace h := h v29 ev29
  refine lv_istore_n (lv' := [(1, .int v29), (0, .ref l0)]) F.1 F.2.1 dX1_ageLogs_11 rfl hl (by decide) rfl (fun ls hl => ?_)
  obtain ⟨n30, h⟩ := h
  exact tX1_ageLogs_12 l G σ0 F hr hlocks Q n30 l0 v29 σ26 H locs ls h C (lv_sub hl [1, 0] rfl)
section
variable {p : Program} {l : Launch} {e : Env} {fr lo c0 : Nat} {s : State} {m : MethodId} {args : Array Value} {below : List Frame} {meth : Method} {c : Code} {H : Heap} {locs : List Loc} {Q : State → Prop}
variable {cc : ByteArray} {pc nL index : Nat} {ls : Array Slot} {rest : List Value} {G : kx_G} {σ : kx_S} {own : String}
theorem xk_X1_ageLogs {P : kx_S → Prop} (F : CallFix p m c cc nL s args kt_ own) (C : kx_X G c0 s H locs σ) (l0 : Nat) (ha : xt σ l0 = 3) (h : wX1_ageLogs l0 σ P) (hw : Cond.methodLink own index yX1_ageLogs ∈ kt_) (h1 : (3) + 1 ≤ fr) (h2 : 8 + (3 + 11) + (146) ≤ lo) (hsz : ls.size = nL) (hW : (rest.map fun v => v.category).sum ≤ 8) (hdg : decode cc pc = .ok (.invokevirtual index, 3)) (kk : ∀ (u : kx_S) (H1 : Heap) (locs1 : List Loc), P u → kx_X G c0 s H1 locs1 u → kx_W p l e fr lo c0 s m args below meth c H1 locs1 u Q (F0 m (pc + 3) ls rest)) : kx_W p l e fr lo c0 s m args below meth c H locs σ Q (F0 m pc ls (.ref l0 :: rest)) :=
  kx_cV (n := 0) (As := []) (Cn := RX1) F C (hx_X1_ageLogs l G l0 σ P h) (kt_V hw ux_242 ux_243 ux_37 ux_241) (by decide +kernel) ⟨h1, h2⟩ (kx_recv C (by rw [ha]; decide) (kx_e3 ha) rfl) rfl hsz hW hdg (fun v u H1 locs1 hP9 C9 => by obtain ⟨hv, hp⟩ := hP9; subst hv; exact kk u H1 locs1 hp C9)
end
theorem dX2_init_0 : decode cX2_init 0 = .ok (.aload_n 0, 1) := by decide +kernel
theorem dX2_init_1 : decode cX2_init 1 = .ok (.invokespecial 1, 3) := by decide +kernel
theorem dX2_init_4 : decode cX2_init 4 = .ok (.aload_n 0, 1) := by decide +kernel
theorem dX2_init_5 : decode cX2_init 5 = .ok (.aload_n 1, 1) := by decide +kernel
theorem dX2_init_6 : decode cX2_init 6 = .ok (.putfield 7, 3) := by decide +kernel
theorem dX2_init_9 : decode cX2_init 9 = .ok (.aload_n 0, 1) := by decide +kernel
theorem dX2_init_10 : decode cX2_init 10 = .ok (.iload_n 2, 1) := by decide +kernel
theorem dX2_init_11 : decode cX2_init 11 = .ok (.iconst 1, 1) := by decide +kernel
theorem dX2_init_12 : decode cX2_init 12 = .ok (.iadd, 1) := by decide +kernel
theorem dX2_init_13 : decode cX2_init 13 = .ok (.putfield 13, 3) := by decide +kernel
theorem dX2_init_16 : decode cX2_init 16 = .ok (.return_, 1) := by decide +kernel
def wX2_init (l0 : Nat) (l1 : Nat) (l2 : Int32) (σ : kx_S) (Q : kx_S → Prop) : Prop := xt σ l0 = 4 ∧ ∀ σ2, σ2 = xsr σ 64 l0 (some l1) → ∀ σ4, σ4 = xsi σ2 65 l0 (l2 + 1) → Q σ4
set_option maxRecDepth 100000 in
set_option maxHeartbeats 4000000 in
theorem hx_X2_init (l : Launch) (G : kx_G) (l0 : Nat) (l1 : Nat) (l2 : Int32) (σ : kx_S) (Q : kx_S → Prop) (h : wX2_init l0 l1 l2 σ Q) : kx_M l G yX2_init cX2_init 3 none (1) (12) [.ref l0, .ref l1, .int l2] σ (kx_rv Q) := by
  refine kx_enter (by decide) rfl (Nat.le_of_ble_eq_true rfl) ?_
  intro p e s m below meth c ls F hr hlocks C hname hl
  have hini : meth.name = "<init>" := hname
  have hl : lv_has ls 3 [(0, .ref l0), (1, .ref l1), (2, .int l2)] := hl
  obtain ⟨H, eH⟩ : ∃ z9, z9 = s.heap := ⟨_, rfl⟩
  obtain ⟨locs, eL⟩ : ∃ z9 : List Loc, z9 = [] := ⟨_, rfl⟩
  rw [← eH, ← eL] at C
  rw [← eH, ← eL]
  obtain ⟨σ0, e0⟩ : ∃ z9, z9 = σ := ⟨_, rfl⟩
  have C : kx_X G (xc σ0) s H locs σ := by rw [e0]; exact C
  suffices hgo : kx_W p l e (1) (12) (xc σ0) s m ([.ref l0, .ref l1, .int l2] : List Value).toArray below meth c H locs σ (MQ below (kx_Q G σ0 (kx_rv Q)) ([.ref l0, .ref l1, .int l2] : List Value).toArray s (kx_N - xc σ0) (600 * (kx_N - xc σ0)) (kx_A G)) (F0 m 0 ls []) by rw [e0] at hgo; exact hgo
  clear e0
  refine lv_aload_n F.1 F.2.1 dX2_init_0 rfl (lv_at hl 0 rfl) ?_
  refine kx_objI F ux_244 hl.1 (Nat.le_of_ble_eq_true rfl) (by simp [Value.category]) dX2_init_1 ?_
  refine lv_aload_n F.1 F.2.1 dX2_init_4 rfl (lv_at hl 0 rfl) ?_
  refine lv_aload_n F.1 F.2.1 dX2_init_5 rfl (lv_at hl 1 rfl) ?_
  obtain ⟨ht1, h⟩ := h
  refine xp_X2_reach (x := some l1) F C ht1 ux_245 (fun _ h9 => h9) dX2_init_6 (fun H locs C => ?_)
  generalize eσ2 : xsr σ 64 l0 (some l1) = σ2 at C ⊢
  replace h := h σ2 eσ2.symm
  have ht3 : xt σ2 l0 = 4 := by rw [← eσ2]; exact ht1
  refine lv_aload_n F.1 F.2.1 dX2_init_9 rfl (lv_at hl 0 rfl) ?_
  refine lv_iload_n F.1 F.2.1 dX2_init_10 rfl (lv_at hl 2 rfl) ?_
  refine lv_iconst (v := 1) F.1 F.2.1 dX2_init_11 (by decide) ?_
  refine lv_iadd (x := l2) (y := 1) F.1 F.2.1 dX2_init_12 ?_
  refine xp_X2_readyAt (x := l2 + 1) F C ht3 ux_246 (fun _ h9 => h9) dX2_init_13 (fun H locs C => ?_)
  generalize eσ4 : xsi σ2 65 l0 (l2 + 1) = σ4 at C ⊢
  replace h := h σ4 eσ4.symm
  have ht5 : xt σ4 l0 = 4 := by rw [← eσ4]; exact ht3
  exact kx_vret F C hr hlocks h dX2_init_16
section
variable {p : Program} {l : Launch} {e : Env} {fr lo c0 : Nat} {s : State} {m : MethodId} {args : Array Value} {below : List Frame} {meth : Method} {c : Code} {H : Heap} {locs : List Loc} {Q : State → Prop}
variable {cc : ByteArray} {pc nL index : Nat} {ls : Array Slot} {rest : List Value} {G : kx_G} {σ : kx_S} {own : String}
theorem xk_X2_init {P : kx_S → Prop} (F : CallFix p m c cc nL s args kt_ own) (C : kx_X G c0 s H locs σ) (l0 : Nat) (l1 : Nat) (l2 : Int32) (h : wX2_init l0 l1 l2 σ P) (hw : Cond.methodLink own index yX2_init ∈ kt_) (h1 : (1) + 1 ≤ fr) (h2 : 8 + (3 + 11) + (12) ≤ lo) (hsz : ls.size = nL) (hW : (rest.map fun v => v.category).sum ≤ 8) (hdg : decode cc pc = .ok (.invokespecial index, 3)) (kk : ∀ (u : kx_S) (H1 : Heap) (locs1 : List Loc), P u → kx_X G c0 s H1 locs1 u → kx_W p l e fr lo c0 s m args below meth c H1 locs1 u Q (F0 m (pc + 3) ls rest)) : kx_W p l e fr lo c0 s m args below meth c H locs σ Q (F0 m pc ls (.int l2 :: .ref l1 :: .ref l0 :: rest)) :=
  kx_cI (n := 2) (As := [.ref l1, .int l2]) F C (hx_X2_init l G l0 l1 l2 σ P h) ux_247 ux_41 hw ux_248 rfl (by decide +kernel) ⟨h1, h2⟩ rfl hsz hW hdg (fun v u H1 locs1 hP9 C9 => by obtain ⟨hv, hp⟩ := hP9; subst hv; exact kk u H1 locs1 hp C9)
end
theorem dX2_come_0 : decode cX2_come 0 = .ok (.aload_n 0, 1) := by decide +kernel
theorem dX2_come_1 : decode cX2_come 1 = .ok (.aload_n 1, 1) := by decide +kernel
theorem dX2_come_2 : decode cX2_come 2 = .ok (.putfield 7, 3) := by decide +kernel
theorem dX2_come_5 : decode cX2_come 5 = .ok (.aload_n 0, 1) := by decide +kernel
theorem dX2_come_6 : decode cX2_come 6 = .ok (.iload_n 2, 1) := by decide +kernel
theorem dX2_come_7 : decode cX2_come 7 = .ok (.iconst 1, 1) := by decide +kernel
theorem dX2_come_8 : decode cX2_come 8 = .ok (.iadd, 1) := by decide +kernel
theorem dX2_come_9 : decode cX2_come 9 = .ok (.putfield 13, 3) := by decide +kernel
theorem dX2_come_12 : decode cX2_come 12 = .ok (.return_, 1) := by decide +kernel
def wX2_come (l0 : Nat) (l1 : Nat) (l2 : Int32) (σ : kx_S) (Q : kx_S → Prop) : Prop := xt σ l0 = 4 ∧ ∀ σ2, σ2 = xsr σ 64 l0 (some l1) → ∀ σ4, σ4 = xsi σ2 65 l0 (l2 + 1) → Q σ4
set_option maxRecDepth 100000 in
set_option maxHeartbeats 4000000 in
theorem hx_X2_come (l : Launch) (G : kx_G) (l0 : Nat) (l1 : Nat) (l2 : Int32) (σ : kx_S) (Q : kx_S → Prop) (h : wX2_come l0 l1 l2 σ Q) : kx_M l G yX2_come cX2_come 3 none (0) (0) [.ref l0, .ref l1, .int l2] σ (kx_rv Q) := by
  refine kx_enter (by decide) rfl (Nat.le_of_ble_eq_true rfl) ?_
  intro p e s m below meth c ls F hr hlocks C hname hl
  have hl : lv_has ls 3 [(0, .ref l0), (1, .ref l1), (2, .int l2)] := hl
  obtain ⟨H, eH⟩ : ∃ z9, z9 = s.heap := ⟨_, rfl⟩
  obtain ⟨locs, eL⟩ : ∃ z9 : List Loc, z9 = [] := ⟨_, rfl⟩
  rw [← eH, ← eL] at C
  rw [← eH, ← eL]
  obtain ⟨σ0, e0⟩ : ∃ z9, z9 = σ := ⟨_, rfl⟩
  have C : kx_X G (xc σ0) s H locs σ := by rw [e0]; exact C
  suffices hgo : kx_W p l e (0) (0) (xc σ0) s m ([.ref l0, .ref l1, .int l2] : List Value).toArray below meth c H locs σ (MQ below (kx_Q G σ0 (kx_rv Q)) ([.ref l0, .ref l1, .int l2] : List Value).toArray s (kx_N - xc σ0) (600 * (kx_N - xc σ0)) (kx_A G)) (F0 m 0 ls []) by rw [e0] at hgo; exact hgo
  clear e0
  refine lv_aload_n F.1 F.2.1 dX2_come_0 rfl (lv_at hl 0 rfl) ?_
  refine lv_aload_n F.1 F.2.1 dX2_come_1 rfl (lv_at hl 1 rfl) ?_
  obtain ⟨ht1, h⟩ := h
  refine xp_X2_reach (x := some l1) F C ht1 ux_245 (fun _ h9 => h9) dX2_come_2 (fun H locs C => ?_)
  generalize eσ2 : xsr σ 64 l0 (some l1) = σ2 at C ⊢
  replace h := h σ2 eσ2.symm
  have ht3 : xt σ2 l0 = 4 := by rw [← eσ2]; exact ht1
  refine lv_aload_n F.1 F.2.1 dX2_come_5 rfl (lv_at hl 0 rfl) ?_
  refine lv_iload_n F.1 F.2.1 dX2_come_6 rfl (lv_at hl 2 rfl) ?_
  refine lv_iconst (v := 1) F.1 F.2.1 dX2_come_7 (by decide) ?_
  refine lv_iadd (x := l2) (y := 1) F.1 F.2.1 dX2_come_8 ?_
  refine xp_X2_readyAt (x := l2 + 1) F C ht3 ux_246 (fun _ h9 => h9) dX2_come_9 (fun H locs C => ?_)
  generalize eσ4 : xsi σ2 65 l0 (l2 + 1) = σ4 at C ⊢
  replace h := h σ4 eσ4.symm
  have ht5 : xt σ4 l0 = 4 := by rw [← eσ4]; exact ht3
  exact kx_vret F C hr hlocks h dX2_come_12
section
variable {p : Program} {l : Launch} {e : Env} {fr lo c0 : Nat} {s : State} {m : MethodId} {args : Array Value} {below : List Frame} {meth : Method} {c : Code} {H : Heap} {locs : List Loc} {Q : State → Prop}
variable {cc : ByteArray} {pc nL index : Nat} {ls : Array Slot} {rest : List Value} {G : kx_G} {σ : kx_S} {own : String}
theorem xk_X2_come {P : kx_S → Prop} (F : CallFix p m c cc nL s args kt_ own) (C : kx_X G c0 s H locs σ) (l0 : Nat) (l1 : Nat) (l2 : Int32) (ha : xt σ l0 = 4) (h : wX2_come l0 l1 l2 σ P) (hw : Cond.methodLink own index yX2_come ∈ kt_) (h1 : (0) + 1 ≤ fr) (h2 : 8 + (3 + 11) + (0) ≤ lo) (hsz : ls.size = nL) (hW : (rest.map fun v => v.category).sum ≤ 8) (hdg : decode cc pc = .ok (.invokevirtual index, 3)) (kk : ∀ (u : kx_S) (H1 : Heap) (locs1 : List Loc), P u → kx_X G c0 s H1 locs1 u → kx_W p l e fr lo c0 s m args below meth c H1 locs1 u Q (F0 m (pc + 3) ls rest)) : kx_W p l e fr lo c0 s m args below meth c H locs σ Q (F0 m pc ls (.int l2 :: .ref l1 :: .ref l0 :: rest)) :=
  kx_cV (n := 2) (As := [.ref l1, .int l2]) (Cn := RX2) F C (hx_X2_come l G l0 l1 l2 σ P h) (kt_V hw ux_250 ux_251 ux_41 ux_249) (by decide +kernel) ⟨h1, h2⟩ (kx_recv C (by rw [ha]; decide) (kx_e4 ha) rfl) rfl hsz hW hdg (fun v u H1 locs1 hP9 C9 => by obtain ⟨hv, hp⟩ := hP9; subst hv; exact kk u H1 locs1 hp C9)
end
theorem dX2_rest_0 : decode cX2_rest 0 = .ok (.aload_n 0, 1) := by decide +kernel
theorem dX2_rest_1 : decode cX2_rest 1 = .ok (.iload_n 1, 1) := by decide +kernel
theorem dX2_rest_2 : decode cX2_rest 2 = .ok (.iconst 2, 1) := by decide +kernel
theorem dX2_rest_3 : decode cX2_rest 3 = .ok (.iadd, 1) := by decide +kernel
theorem dX2_rest_4 : decode cX2_rest 4 = .ok (.putfield 13, 3) := by decide +kernel
theorem dX2_rest_7 : decode cX2_rest 7 = .ok (.return_, 1) := by decide +kernel
def wX2_rest (l0 : Nat) (l1 : Int32) (σ : kx_S) (Q : kx_S → Prop) : Prop := xt σ l0 = 4 ∧ ∀ σ2, σ2 = xsi σ 65 l0 (l1 + 2) → Q σ2
set_option maxRecDepth 100000 in
set_option maxHeartbeats 4000000 in
theorem hx_X2_rest (l : Launch) (G : kx_G) (l0 : Nat) (l1 : Int32) (σ : kx_S) (Q : kx_S → Prop) (h : wX2_rest l0 l1 σ Q) : kx_M l G yX2_rest cX2_rest 2 none (0) (0) [.ref l0, .int l1] σ (kx_rv Q) := by
  refine kx_enter (by decide) rfl (Nat.le_of_ble_eq_true rfl) ?_
  intro p e s m below meth c ls F hr hlocks C hname hl
  have hl : lv_has ls 2 [(0, .ref l0), (1, .int l1)] := hl
  obtain ⟨H, eH⟩ : ∃ z9, z9 = s.heap := ⟨_, rfl⟩
  obtain ⟨locs, eL⟩ : ∃ z9 : List Loc, z9 = [] := ⟨_, rfl⟩
  rw [← eH, ← eL] at C
  rw [← eH, ← eL]
  obtain ⟨σ0, e0⟩ : ∃ z9, z9 = σ := ⟨_, rfl⟩
  have C : kx_X G (xc σ0) s H locs σ := by rw [e0]; exact C
  suffices hgo : kx_W p l e (0) (0) (xc σ0) s m ([.ref l0, .int l1] : List Value).toArray below meth c H locs σ (MQ below (kx_Q G σ0 (kx_rv Q)) ([.ref l0, .int l1] : List Value).toArray s (kx_N - xc σ0) (600 * (kx_N - xc σ0)) (kx_A G)) (F0 m 0 ls []) by rw [e0] at hgo; exact hgo
  clear e0
  refine lv_aload_n F.1 F.2.1 dX2_rest_0 rfl (lv_at hl 0 rfl) ?_
  refine lv_iload_n F.1 F.2.1 dX2_rest_1 rfl (lv_at hl 1 rfl) ?_
  refine lv_iconst (v := 2) F.1 F.2.1 dX2_rest_2 (by decide) ?_
  refine lv_iadd (x := l1) (y := 2) F.1 F.2.1 dX2_rest_3 ?_
  obtain ⟨ht1, h⟩ := h
  refine xp_X2_readyAt (x := l1 + 2) F C ht1 ux_246 (fun _ h9 => h9) dX2_rest_4 (fun H locs C => ?_)
  generalize eσ2 : xsi σ 65 l0 (l1 + 2) = σ2 at C ⊢
  replace h := h σ2 eσ2.symm
  have ht3 : xt σ2 l0 = 4 := by rw [← eσ2]; exact ht1
  exact kx_vret F C hr hlocks h dX2_rest_7
section
variable {p : Program} {l : Launch} {e : Env} {fr lo c0 : Nat} {s : State} {m : MethodId} {args : Array Value} {below : List Frame} {meth : Method} {c : Code} {H : Heap} {locs : List Loc} {Q : State → Prop}
variable {cc : ByteArray} {pc nL index : Nat} {ls : Array Slot} {rest : List Value} {G : kx_G} {σ : kx_S} {own : String}
theorem xk_X2_rest {P : kx_S → Prop} (F : CallFix p m c cc nL s args kt_ own) (C : kx_X G c0 s H locs σ) (l0 : Nat) (l1 : Int32) (ha : xt σ l0 = 4) (h : wX2_rest l0 l1 σ P) (hw : Cond.methodLink own index yX2_rest ∈ kt_) (h1 : (0) + 1 ≤ fr) (h2 : 8 + (2 + 11) + (0) ≤ lo) (hsz : ls.size = nL) (hW : (rest.map fun v => v.category).sum ≤ 8) (hdg : decode cc pc = .ok (.invokevirtual index, 3)) (kk : ∀ (u : kx_S) (H1 : Heap) (locs1 : List Loc), P u → kx_X G c0 s H1 locs1 u → kx_W p l e fr lo c0 s m args below meth c H1 locs1 u Q (F0 m (pc + 3) ls rest)) : kx_W p l e fr lo c0 s m args below meth c H locs σ Q (F0 m pc ls (.int l1 :: .ref l0 :: rest)) :=
  kx_cV (n := 1) (As := [.int l1]) (Cn := RX2) F C (hx_X2_rest l G l0 l1 σ P h) (kt_V hw ux_253 ux_254 ux_41 ux_252) (by decide +kernel) ⟨h1, h2⟩ (kx_recv C (by rw [ha]; decide) (kx_e4 ha) rfl) rfl hsz hW hdg (fun v u H1 locs1 hP9 C9 => by obtain ⟨hv, hp⟩ := hP9; subst hv; exact kk u H1 locs1 hp C9)
end
theorem dX3_init_0 : decode cX3_init 0 = .ok (.aload_n 0, 1) := by decide +kernel
theorem dX3_init_1 : decode cX3_init 1 = .ok (.invokespecial 5, 3) := by decide +kernel
theorem dX3_init_4 : decode cX3_init 4 = .ok (.aload_n 0, 1) := by decide +kernel
theorem dX3_init_5 : decode cX3_init 5 = .ok (.bipush 33, 2) := by decide +kernel
theorem dX3_init_7 : decode cX3_init 7 = .ok (.newarray .int, 2) := by decide +kernel
theorem dX3_init_9 : decode cX3_init 9 = .ok (.putfield 13, 3) := by decide +kernel
theorem dX3_init_12 : decode cX3_init 12 = .ok (.aload_n 0, 1) := by decide +kernel
theorem dX3_init_13 : decode cX3_init 13 = .ok (.bipush 7, 2) := by decide +kernel
theorem dX3_init_15 : decode cX3_init 15 = .ok (.newarray .int, 2) := by decide +kernel
theorem dX3_init_17 : decode cX3_init 17 = .ok (.putfield 19, 3) := by decide +kernel
theorem dX3_init_20 : decode cX3_init 20 = .ok (.return_, 1) := by decide +kernel
def wX3_init (l0 : Nat) (σ : kx_S) (Q : kx_S → Prop) : Prop := xc σ < kx_N ∧ ¬ (33 : Int32) < 0 ∧ (Int32.toNatClampNeg 33) ≤ 600 ∧ ∀ p1, xt σ p1 = 0 → p1 ≠ xz σ → ∀ σ7, σ7 = xnewA σ p1 20 (Int32.toNatClampNeg 33) → xt σ7 l0 = 5 ∧ ∀ σ10, σ10 = xsr σ7 80 l0 (some p1) → xc σ10 < kx_N ∧ ¬ (7 : Int32) < 0 ∧ (Int32.toNatClampNeg 7) ≤ 600 ∧ ∀ p13, xt σ10 p13 = 0 → p13 ≠ xz σ10 → ∀ σ19, σ19 = xnewA σ10 p13 20 (Int32.toNatClampNeg 7) → xt σ19 l0 = 5 ∧ ∀ σ22, σ22 = xsr σ19 81 l0 (some p13) → Q σ22
set_option maxRecDepth 100000 in
set_option maxHeartbeats 4000000 in
theorem hx_X3_init (l : Launch) (G : kx_G) (l0 : Nat) (σ : kx_S) (Q : kx_S → Prop) (h : wX3_init l0 σ Q) : kx_M l G yX3_init cX3_init 1 none (1) (12) [.ref l0] σ (kx_rv Q) := by
  refine kx_enter (by decide) rfl (Nat.le_of_ble_eq_true rfl) ?_
  intro p e s m below meth c ls F hr hlocks C hname hl
  have hini : meth.name = "<init>" := hname
  have hl : lv_has ls 1 [(0, .ref l0)] := hl
  obtain ⟨H, eH⟩ : ∃ z9, z9 = s.heap := ⟨_, rfl⟩
  obtain ⟨locs, eL⟩ : ∃ z9 : List Loc, z9 = [] := ⟨_, rfl⟩
  rw [← eH, ← eL] at C
  rw [← eH, ← eL]
  obtain ⟨σ0, e0⟩ : ∃ z9, z9 = σ := ⟨_, rfl⟩
  have C : kx_X G (xc σ0) s H locs σ := by rw [e0]; exact C
  suffices hgo : kx_W p l e (1) (12) (xc σ0) s m ([.ref l0] : List Value).toArray below meth c H locs σ (MQ below (kx_Q G σ0 (kx_rv Q)) ([.ref l0] : List Value).toArray s (kx_N - xc σ0) (600 * (kx_N - xc σ0)) (kx_A G)) (F0 m 0 ls []) by rw [e0] at hgo; exact hgo
  clear e0
  refine lv_aload_n F.1 F.2.1 dX3_init_0 rfl (lv_at hl 0 rfl) ?_
  refine kx_objI F ux_255 hl.1 (Nat.le_of_ble_eq_true rfl) (by simp [Value.category]) dX3_init_1 ?_
  refine lv_aload_n F.1 F.2.1 dX3_init_4 rfl (lv_at hl 0 rfl) ?_
  refine lv_bipush (v := 33) F.1 F.2.1 dX3_init_5 (by decide) ?_
  obtain ⟨hn2, hn3, hn4, h⟩ := h
  refine kx_newi F C ux_201 hn2 hn3 hn4 dX3_init_7 (fun p1 H z5 z6 C => ?_)
  replace h := h p1 z5 (fun h9 => z6 (h9.trans (show xz σ = _ from C.2.1.1)))
  generalize eσ7 : xnewA σ p1 20 (Int32.toNatClampNeg 33) = σ7 at C ⊢
  replace h := h σ7 eσ7.symm
  have ht8 : xt σ7 p1 = 20 := by rw [← eσ7]; exact va_up_self _ _ _
  obtain ⟨ht9, h⟩ := h
  refine xp_X3_stack (x := some p1) F C ht9 ux_256 (fun _ h9 => h9) hini rfl dX3_init_9 (fun H locs C => ?_)
  generalize eσ10 : xsr σ7 80 l0 (some p1) = σ10 at C ⊢
  replace h := h σ10 eσ10.symm
  have ht11 : xt σ10 p1 = 20 := by rw [← eσ10]; exact ht8
  have ht12 : xt σ10 l0 = 5 := by rw [← eσ10]; exact ht9
  refine lv_aload_n F.1 F.2.1 dX3_init_12 rfl (lv_at hl 0 rfl) ?_
  refine lv_bipush (v := 7) F.1 F.2.1 dX3_init_13 (by decide) ?_
  obtain ⟨hn14, hn15, hn16, h⟩ := h
  refine kx_newi F C ux_201 hn14 hn15 hn16 dX3_init_15 (fun p13 H z17 z18 C => ?_)
  replace h := h p13 z17 (fun h9 => z18 (h9.trans (show xz σ10 = _ from C.2.1.1)))
  generalize eσ19 : xnewA σ10 p13 20 (Int32.toNatClampNeg 7) = σ19 at C ⊢
  replace h := h σ19 eσ19.symm
  have ht20 : xt σ19 p13 = 20 := by rw [← eσ19]; exact va_up_self _ _ _
  obtain ⟨ht21, h⟩ := h
  refine xp_X3_names (x := some p13) F C ht21 ux_257 (fun _ h9 => h9) hini rfl dX3_init_17 (fun H locs C => ?_)
  generalize eσ22 : xsr σ19 81 l0 (some p13) = σ22 at C ⊢
  replace h := h σ22 eσ22.symm
  have ht23 : xt σ22 p13 = 20 := by rw [← eσ22]; exact ht20
  have ht24 : xt σ22 l0 = 5 := by rw [← eσ22]; exact ht21
  exact kx_vret F C hr hlocks h dX3_init_20
section
variable {p : Program} {l : Launch} {e : Env} {fr lo c0 : Nat} {s : State} {m : MethodId} {args : Array Value} {below : List Frame} {meth : Method} {c : Code} {H : Heap} {locs : List Loc} {Q : State → Prop}
variable {cc : ByteArray} {pc nL index : Nat} {ls : Array Slot} {rest : List Value} {G : kx_G} {σ : kx_S} {own : String}
theorem xk_X3_init {P : kx_S → Prop} (F : CallFix p m c cc nL s args kt_ own) (C : kx_X G c0 s H locs σ) (l0 : Nat) (h : wX3_init l0 σ P) (hw : Cond.methodLink own index yX3_init ∈ kt_) (h1 : (1) + 1 ≤ fr) (h2 : 8 + (1 + 11) + (12) ≤ lo) (hsz : ls.size = nL) (hW : (rest.map fun v => v.category).sum ≤ 8) (hdg : decode cc pc = .ok (.invokespecial index, 3)) (kk : ∀ (u : kx_S) (H1 : Heap) (locs1 : List Loc), P u → kx_X G c0 s H1 locs1 u → kx_W p l e fr lo c0 s m args below meth c H1 locs1 u Q (F0 m (pc + 3) ls rest)) : kx_W p l e fr lo c0 s m args below meth c H locs σ Q (F0 m pc ls (.ref l0 :: rest)) :=
  kx_cI (n := 0) (As := []) F C (hx_X3_init l G l0 σ P h) ux_258 ux_48 hw ux_259 rfl (by decide +kernel) ⟨h1, h2⟩ rfl hsz hW hdg (fun v u H1 locs1 hP9 C9 => by obtain ⟨hv, hp⟩ := hP9; subst hv; exact kk u H1 locs1 hp C9)
end
theorem dX3_name_0 : decode cX3_name 0 = .ok (.aload_n 0, 1) := by decide +kernel
theorem dX3_name_1 : decode cX3_name 1 = .ok (.getfield 19, 3) := by decide +kernel
theorem dX3_name_4 : decode cX3_name 4 = .ok (.iconst (-1), 1) := by decide +kernel
theorem dX3_name_5 : decode cX3_name 5 = .ok (.iload_n 1, 1) := by decide +kernel
theorem dX3_name_6 : decode cX3_name 6 = .ok (.isub, 1) := by decide +kernel
theorem dX3_name_7 : decode cX3_name 7 = .ok (.iload_n 2, 1) := by decide +kernel
theorem dX3_name_8 : decode cX3_name 8 = .ok (.iastore, 1) := by decide +kernel
theorem dX3_name_9 : decode cX3_name 9 = .ok (.return_, 1) := by decide +kernel
def wX3_name (l0 : Nat) (l1 : Int32) (l2 : Int32) (σ : kx_S) (Q : kx_S → Prop) : Prop := xt σ l0 = 5 ∧ ∃ a2, xr σ 81 l0 = some a2 ∧ xt σ a2 = 20 ∧ vp_in ((-1) - l1) (xn σ a2) ∧ ∀ σ6, σ6 = xsai σ a2 ((-1) - l1).toNatClampNeg l2 → Q σ6
set_option maxRecDepth 100000 in
set_option maxHeartbeats 4000000 in
theorem hx_X3_name (l : Launch) (G : kx_G) (l0 : Nat) (l1 : Int32) (l2 : Int32) (σ : kx_S) (Q : kx_S → Prop) (h : wX3_name l0 l1 l2 σ Q) : kx_M l G yX3_name cX3_name 3 none (0) (0) [.ref l0, .int l1, .int l2] σ (kx_rv Q) := by
  refine kx_enter (by decide) rfl (Nat.le_of_ble_eq_true rfl) ?_
  intro p e s m below meth c ls F hr hlocks C hname hl
  have hl : lv_has ls 3 [(0, .ref l0), (1, .int l1), (2, .int l2)] := hl
  obtain ⟨H, eH⟩ : ∃ z9, z9 = s.heap := ⟨_, rfl⟩
  obtain ⟨locs, eL⟩ : ∃ z9 : List Loc, z9 = [] := ⟨_, rfl⟩
  rw [← eH, ← eL] at C
  rw [← eH, ← eL]
  obtain ⟨σ0, e0⟩ : ∃ z9, z9 = σ := ⟨_, rfl⟩
  have C : kx_X G (xc σ0) s H locs σ := by rw [e0]; exact C
  suffices hgo : kx_W p l e (0) (0) (xc σ0) s m ([.ref l0, .int l1, .int l2] : List Value).toArray below meth c H locs σ (MQ below (kx_Q G σ0 (kx_rv Q)) ([.ref l0, .int l1, .int l2] : List Value).toArray s (kx_N - xc σ0) (600 * (kx_N - xc σ0)) (kx_A G)) (F0 m 0 ls []) by rw [e0] at hgo; exact hgo
  clear e0
  refine lv_aload_n F.1 F.2.1 dX3_name_0 rfl (lv_at hl 0 rfl) ?_
  obtain ⟨ht1, h⟩ := h
  refine xg_X3_names F C ht1 ux_257 (fun _ h9 => h9) dX3_name_1 ?_
  obtain ⟨a2, ea3, h⟩ := h
  refine xq_nn ea3 ?_
  refine lv_iconst (v := (-1)) F.1 F.2.1 dX3_name_4 (by decide) ?_
  refine lv_iload_n F.1 F.2.1 dX3_name_5 rfl (lv_at hl 1 rfl) ?_
  refine lv_isub (x := (-1)) (y := l1) F.1 F.2.1 dX3_name_6 ?_
  refine lv_iload_n F.1 F.2.1 dX3_name_7 rfl (lv_at hl 2 rfl) ?_
  obtain ⟨ht4, h⟩ := h
  obtain ⟨hn5, h⟩ := h
  refine kx_iast F C ht4 hn5 dX3_name_8 (fun H locs C => ?_)
  generalize eσ6 : xsai σ a2 ((-1) - l1).toNatClampNeg l2 = σ6 at C ⊢
  replace h := h σ6 eσ6.symm
  have ht7 : xt σ6 l0 = 5 := by rw [← eσ6]; exact ht1
  have ht8 : xt σ6 a2 = 20 := by rw [← eσ6]; exact ht4
  exact kx_vret F C hr hlocks h dX3_name_9
section
variable {p : Program} {l : Launch} {e : Env} {fr lo c0 : Nat} {s : State} {m : MethodId} {args : Array Value} {below : List Frame} {meth : Method} {c : Code} {H : Heap} {locs : List Loc} {Q : State → Prop}
variable {cc : ByteArray} {pc nL index : Nat} {ls : Array Slot} {rest : List Value} {G : kx_G} {σ : kx_S} {own : String}
theorem xk_X3_name {P : kx_S → Prop} (F : CallFix p m c cc nL s args kt_ own) (C : kx_X G c0 s H locs σ) (l0 : Nat) (l1 : Int32) (l2 : Int32) (ha : xt σ l0 = 5) (h : wX3_name l0 l1 l2 σ P) (hw : Cond.methodLink own index yX3_name ∈ kt_) (h1 : (0) + 1 ≤ fr) (h2 : 8 + (3 + 11) + (0) ≤ lo) (hsz : ls.size = nL) (hW : (rest.map fun v => v.category).sum ≤ 8) (hdg : decode cc pc = .ok (.invokevirtual index, 3)) (kk : ∀ (u : kx_S) (H1 : Heap) (locs1 : List Loc), P u → kx_X G c0 s H1 locs1 u → kx_W p l e fr lo c0 s m args below meth c H1 locs1 u Q (F0 m (pc + 3) ls rest)) : kx_W p l e fr lo c0 s m args below meth c H locs σ Q (F0 m pc ls (.int l2 :: .int l1 :: .ref l0 :: rest)) :=
  kx_cV (n := 2) (As := [.int l1, .int l2]) (Cn := RX3) F C (hx_X3_name l G l0 l1 l2 σ P h) (kt_V hw ux_261 ux_262 ux_48 ux_260) (by decide +kernel) ⟨h1, h2⟩ (kx_recv C (by rw [ha]; decide) (kx_e5 ha) rfl) rfl hsz hW hdg (fun v u H1 locs1 hP9 C9 => by obtain ⟨hv, hp⟩ := hP9; subst hv; exact kk u H1 locs1 hp C9)
end
theorem dX3_push_0 : decode cX3_push 0 = .ok (.aload_n 0, 1) := by decide +kernel
theorem dX3_push_1 : decode cX3_push 1 = .ok (.getfield 30, 3) := by decide +kernel
theorem dX3_push_4 : decode cX3_push 4 = .ok (.aload_n 0, 1) := by decide +kernel
theorem dX3_push_5 : decode cX3_push 5 = .ok (.getfield 13, 3) := by decide +kernel
theorem dX3_push_8 : decode cX3_push 8 = .ok (.arraylength, 1) := by decide +kernel
theorem dX3_push_9 : decode cX3_push 9 = .ok (.if_icmp .ge 23, 3) := by decide +kernel
theorem dX3_push_12 : decode cX3_push 12 = .ok (.aload_n 0, 1) := by decide +kernel
theorem dX3_push_13 : decode cX3_push 13 = .ok (.getfield 13, 3) := by decide +kernel
theorem dX3_push_16 : decode cX3_push 16 = .ok (.aload_n 0, 1) := by decide +kernel
theorem dX3_push_17 : decode cX3_push 17 = .ok (.getfield 30, 3) := by decide +kernel
theorem dX3_push_20 : decode cX3_push 20 = .ok (.iload_n 1, 1) := by decide +kernel
theorem dX3_push_21 : decode cX3_push 21 = .ok (.iastore, 1) := by decide +kernel
theorem dX3_push_22 : decode cX3_push 22 = .ok (.aload_n 0, 1) := by decide +kernel
theorem dX3_push_23 : decode cX3_push 23 = .ok (.dup, 1) := by decide +kernel
theorem dX3_push_24 : decode cX3_push 24 = .ok (.getfield 30, 3) := by decide +kernel
theorem dX3_push_27 : decode cX3_push 27 = .ok (.iconst 1, 1) := by decide +kernel
theorem dX3_push_28 : decode cX3_push 28 = .ok (.iadd, 1) := by decide +kernel
theorem dX3_push_29 : decode cX3_push 29 = .ok (.putfield 30, 3) := by decide +kernel
theorem dX3_push_32 : decode cX3_push 32 = .ok (.return_, 1) := by decide +kernel
def wX3_push (l0 : Nat) (l1 : Int32) (σ : kx_S) (Q : kx_S → Prop) : Prop := xt σ l0 = 5 ∧ ∃ a2, xr σ 80 l0 = some a2 ∧ xt σ a2 = 20 ∧ (((nI (xn σ a2)) ≤ (xi σ 82 l0) → Q σ) ∧
  (¬ ((nI (xn σ a2)) ≤ (xi σ 82 l0)) → ∃ a6, xr σ 80 l0 = some a6 ∧ xt σ a6 = 20 ∧ vp_in (xi σ 82 l0) (xn σ a6) ∧ ∀ σ10, σ10 = xsai σ a6 (xi σ 82 l0).toNatClampNeg l1 → ∀ σ14, σ14 = xsi σ10 82 l0 ((xi σ10 82 l0) + 1) → Q σ14))
set_option maxRecDepth 100000 in
set_option maxHeartbeats 4000000 in
theorem hx_X3_push (l : Launch) (G : kx_G) (l0 : Nat) (l1 : Int32) (σ : kx_S) (Q : kx_S → Prop) (h : wX3_push l0 l1 σ Q) : kx_M l G yX3_push cX3_push 2 none (0) (0) [.ref l0, .int l1] σ (kx_rv Q) := by
  refine kx_enter (by decide) rfl (Nat.le_of_ble_eq_true rfl) ?_
  intro p e s m below meth c ls F hr hlocks C hname hl
  have hl : lv_has ls 2 [(0, .ref l0), (1, .int l1)] := hl
  obtain ⟨H, eH⟩ : ∃ z9, z9 = s.heap := ⟨_, rfl⟩
  obtain ⟨locs, eL⟩ : ∃ z9 : List Loc, z9 = [] := ⟨_, rfl⟩
  rw [← eH, ← eL] at C
  rw [← eH, ← eL]
  obtain ⟨σ0, e0⟩ : ∃ z9, z9 = σ := ⟨_, rfl⟩
  have C : kx_X G (xc σ0) s H locs σ := by rw [e0]; exact C
  suffices hgo : kx_W p l e (0) (0) (xc σ0) s m ([.ref l0, .int l1] : List Value).toArray below meth c H locs σ (MQ below (kx_Q G σ0 (kx_rv Q)) ([.ref l0, .int l1] : List Value).toArray s (kx_N - xc σ0) (600 * (kx_N - xc σ0)) (kx_A G)) (F0 m 0 ls []) by rw [e0] at hgo; exact hgo
  clear e0
  refine lv_aload_n F.1 F.2.1 dX3_push_0 rfl (lv_at hl 0 rfl) ?_
  obtain ⟨ht1, h⟩ := h
  refine xg_X3_height F C ht1 ux_263 (fun _ h9 => h9) dX3_push_1 ?_
  refine lv_aload_n F.1 F.2.1 dX3_push_4 rfl (lv_at hl 0 rfl) ?_
  refine xg_X3_stack F C ht1 ux_256 (fun _ h9 => h9) dX3_push_5 ?_
  obtain ⟨a2, ea3, h⟩ := h
  refine xq_nn ea3 ?_
  obtain ⟨ht4, h⟩ := h
  refine kx_alen F C (Or.inl ht4) dX3_push_8 ?_
  refine lv_icmp_ge (tgt := 32) F.1 F.2.1 dX3_push_9 (by decide) (fun c5 => ?_) (fun c5 => ?_)
  · replace h := h.1 c5
    exact kx_vret F C hr hlocks h dX3_push_32
  · replace h := h.2 c5
    refine lv_aload_n F.1 F.2.1 dX3_push_12 rfl (lv_at hl 0 rfl) ?_
    refine xg_X3_stack F C ht1 ux_256 (fun _ h9 => h9) dX3_push_13 ?_
    obtain ⟨a6, ea7, h⟩ := h
    refine xq_nn ea7 ?_
    refine lv_aload_n F.1 F.2.1 dX3_push_16 rfl (lv_at hl 0 rfl) ?_
    refine xg_X3_height F C ht1 ux_263 (fun _ h9 => h9) dX3_push_17 ?_
    refine lv_iload_n F.1 F.2.1 dX3_push_20 rfl (lv_at hl 1 rfl) ?_
    obtain ⟨ht8, h⟩ := h
    obtain ⟨hn9, h⟩ := h
    refine kx_iast F C ht8 hn9 dX3_push_21 (fun H locs C => ?_)
    generalize eσ10 : xsai σ a6 (xi σ 82 l0).toNatClampNeg l1 = σ10 at C ⊢
    replace h := h σ10 eσ10.symm
    have ht11 : xt σ10 l0 = 5 := by rw [← eσ10]; exact ht1
    have ht12 : xt σ10 a2 = 20 := by rw [← eσ10]; exact ht4
    have ht13 : xt σ10 a6 = 20 := by rw [← eσ10]; exact ht8
    refine lv_aload_n F.1 F.2.1 dX3_push_22 rfl (lv_at hl 0 rfl) ?_
    refine lv_dup F.1 F.2.1 dX3_push_23 rfl ?_
    refine xg_X3_height F C ht11 ux_263 (fun _ h9 => h9) dX3_push_24 ?_
    refine lv_iconst (v := 1) F.1 F.2.1 dX3_push_27 (by decide) ?_
    refine lv_iadd (x := xi σ10 82 l0) (y := 1) F.1 F.2.1 dX3_push_28 ?_
    refine xp_X3_height (x := (xi σ10 82 l0) + 1) F C ht11 ux_263 (fun _ h9 => h9) dX3_push_29 (fun H locs C => ?_)
    generalize eσ14 : xsi σ10 82 l0 ((xi σ10 82 l0) + 1) = σ14 at C ⊢
    replace h := h σ14 eσ14.symm
    have ht15 : xt σ14 l0 = 5 := by rw [← eσ14]; exact ht11
    have ht16 : xt σ14 a2 = 20 := by rw [← eσ14]; exact ht12
    have ht17 : xt σ14 a6 = 20 := by rw [← eσ14]; exact ht13
    exact kx_vret F C hr hlocks h dX3_push_32
section
variable {p : Program} {l : Launch} {e : Env} {fr lo c0 : Nat} {s : State} {m : MethodId} {args : Array Value} {below : List Frame} {meth : Method} {c : Code} {H : Heap} {locs : List Loc} {Q : State → Prop}
variable {cc : ByteArray} {pc nL index : Nat} {ls : Array Slot} {rest : List Value} {G : kx_G} {σ : kx_S} {own : String}
theorem xk_X3_push {P : kx_S → Prop} (F : CallFix p m c cc nL s args kt_ own) (C : kx_X G c0 s H locs σ) (l0 : Nat) (l1 : Int32) (ha : xt σ l0 = 5) (h : wX3_push l0 l1 σ P) (hw : Cond.methodLink own index yX3_push ∈ kt_) (h1 : (0) + 1 ≤ fr) (h2 : 8 + (2 + 11) + (0) ≤ lo) (hsz : ls.size = nL) (hW : (rest.map fun v => v.category).sum ≤ 8) (hdg : decode cc pc = .ok (.invokevirtual index, 3)) (kk : ∀ (u : kx_S) (H1 : Heap) (locs1 : List Loc), P u → kx_X G c0 s H1 locs1 u → kx_W p l e fr lo c0 s m args below meth c H1 locs1 u Q (F0 m (pc + 3) ls rest)) : kx_W p l e fr lo c0 s m args below meth c H locs σ Q (F0 m pc ls (.int l1 :: .ref l0 :: rest)) :=
  kx_cV (n := 1) (As := [.int l1]) (Cn := RX3) F C (hx_X3_push l G l0 l1 σ P h) (kt_V hw ux_265 ux_266 ux_48 ux_264) (by decide +kernel) ⟨h1, h2⟩ (kx_recv C (by rw [ha]; decide) (kx_e5 ha) rfl) rfl hsz hW hdg (fun v u H1 locs1 hP9 C9 => by obtain ⟨hv, hp⟩ := hP9; subst hv; exact kk u H1 locs1 hp C9)
end
theorem dX3_pop_0 : decode cX3_pop 0 = .ok (.aload_n 0, 1) := by decide +kernel
theorem dX3_pop_1 : decode cX3_pop 1 = .ok (.getfield 30, 3) := by decide +kernel
theorem dX3_pop_4 : decode cX3_pop 4 = .ok (.ifCond .ne 5, 3) := by decide +kernel
theorem dX3_pop_7 : decode cX3_pop 7 = .ok (.iconst 0, 1) := by decide +kernel
theorem dX3_pop_8 : decode cX3_pop 8 = .ok (.ireturn, 1) := by decide +kernel
theorem dX3_pop_9 : decode cX3_pop 9 = .ok (.aload_n 0, 1) := by decide +kernel
theorem dX3_pop_10 : decode cX3_pop 10 = .ok (.dup, 1) := by decide +kernel
theorem dX3_pop_11 : decode cX3_pop 11 = .ok (.getfield 30, 3) := by decide +kernel
theorem dX3_pop_14 : decode cX3_pop 14 = .ok (.iconst 1, 1) := by decide +kernel
theorem dX3_pop_15 : decode cX3_pop 15 = .ok (.isub, 1) := by decide +kernel
theorem dX3_pop_16 : decode cX3_pop 16 = .ok (.putfield 30, 3) := by decide +kernel
theorem dX3_pop_19 : decode cX3_pop 19 = .ok (.aload_n 0, 1) := by decide +kernel
theorem dX3_pop_20 : decode cX3_pop 20 = .ok (.getfield 13, 3) := by decide +kernel
theorem dX3_pop_23 : decode cX3_pop 23 = .ok (.aload_n 0, 1) := by decide +kernel
theorem dX3_pop_24 : decode cX3_pop 24 = .ok (.getfield 30, 3) := by decide +kernel
theorem dX3_pop_27 : decode cX3_pop 27 = .ok (.iaload, 1) := by decide +kernel
theorem dX3_pop_28 : decode cX3_pop 28 = .ok (.ireturn, 1) := by decide +kernel
def wX3_pop (l0 : Nat) (σ : kx_S) (Q : Int32 → kx_S → Prop) : Prop := xt σ l0 = 5 ∧ ((¬ (xi σ 82 l0) = 0 → ∀ σ3, σ3 = xsi σ 82 l0 ((xi σ 82 l0) - 1) → ∃ a5, xr σ3 80 l0 = some a5 ∧ xt σ3 a5 = 20 ∧ vp_in (xi σ3 82 l0) (xn σ3 a5) ∧ Q (xai σ3 a5 (xi σ3 82 l0).toNatClampNeg) σ3) ∧
  ((xi σ 82 l0) = 0 → Q 0 σ))
set_option maxRecDepth 100000 in
set_option maxHeartbeats 4000000 in
theorem hx_X3_pop (l : Launch) (G : kx_G) (l0 : Nat) (σ : kx_S) (Q : Int32 → kx_S → Prop) (h : wX3_pop l0 σ Q) : kx_M l G yX3_pop cX3_pop 1 (some .int) (0) (0) [.ref l0] σ (kx_ri Q) := by
  refine kx_enter (by decide) rfl (Nat.le_of_ble_eq_true rfl) ?_
  intro p e s m below meth c ls F hr hlocks C hname hl
  have hl : lv_has ls 1 [(0, .ref l0)] := hl
  obtain ⟨H, eH⟩ : ∃ z9, z9 = s.heap := ⟨_, rfl⟩
  obtain ⟨locs, eL⟩ : ∃ z9 : List Loc, z9 = [] := ⟨_, rfl⟩
  rw [← eH, ← eL] at C
  rw [← eH, ← eL]
  obtain ⟨σ0, e0⟩ : ∃ z9, z9 = σ := ⟨_, rfl⟩
  have C : kx_X G (xc σ0) s H locs σ := by rw [e0]; exact C
  suffices hgo : kx_W p l e (0) (0) (xc σ0) s m ([.ref l0] : List Value).toArray below meth c H locs σ (MQ below (kx_Q G σ0 (kx_ri Q)) ([.ref l0] : List Value).toArray s (kx_N - xc σ0) (600 * (kx_N - xc σ0)) (kx_A G)) (F0 m 0 ls []) by rw [e0] at hgo; exact hgo
  clear e0
  refine lv_aload_n F.1 F.2.1 dX3_pop_0 rfl (lv_at hl 0 rfl) ?_
  obtain ⟨ht1, h⟩ := h
  refine xg_X3_height F C ht1 ux_263 (fun _ h9 => h9) dX3_pop_1 ?_
  refine lv_if_ne (tgt := 9) F.1 F.2.1 dX3_pop_4 (by decide) (fun c2 => ?_) (fun c2 => ?_)
  · replace h := h.1 c2
    refine lv_aload_n F.1 F.2.1 dX3_pop_9 rfl (lv_at hl 0 rfl) ?_
    refine lv_dup F.1 F.2.1 dX3_pop_10 rfl ?_
    refine xg_X3_height F C ht1 ux_263 (fun _ h9 => h9) dX3_pop_11 ?_
    refine lv_iconst (v := 1) F.1 F.2.1 dX3_pop_14 (by decide) ?_
    refine lv_isub (x := xi σ 82 l0) (y := 1) F.1 F.2.1 dX3_pop_15 ?_
    refine xp_X3_height (x := (xi σ 82 l0) - 1) F C ht1 ux_263 (fun _ h9 => h9) dX3_pop_16 (fun H locs C => ?_)
    generalize eσ3 : xsi σ 82 l0 ((xi σ 82 l0) - 1) = σ3 at C ⊢
    replace h := h σ3 eσ3.symm
    have ht4 : xt σ3 l0 = 5 := by rw [← eσ3]; exact ht1
    refine lv_aload_n F.1 F.2.1 dX3_pop_19 rfl (lv_at hl 0 rfl) ?_
    refine xg_X3_stack F C ht4 ux_256 (fun _ h9 => h9) dX3_pop_20 ?_
    obtain ⟨a5, ea6, h⟩ := h
    refine xq_nn ea6 ?_
    refine lv_aload_n F.1 F.2.1 dX3_pop_23 rfl (lv_at hl 0 rfl) ?_
    refine xg_X3_height F C ht4 ux_263 (fun _ h9 => h9) dX3_pop_24 ?_
    obtain ⟨ht7, h⟩ := h
    obtain ⟨hn8, h⟩ := h
    refine kx_iald F C ht7 hn8 dX3_pop_27 ?_
    exact kx_iret F C hr hlocks h dX3_pop_28
  · replace h := h.2 c2
    refine lv_iconst (v := 0) F.1 F.2.1 dX3_pop_7 (by decide) ?_
    exact kx_iret F C hr hlocks h dX3_pop_8
section
variable {p : Program} {l : Launch} {e : Env} {fr lo c0 : Nat} {s : State} {m : MethodId} {args : Array Value} {below : List Frame} {meth : Method} {c : Code} {H : Heap} {locs : List Loc} {Q : State → Prop}
variable {cc : ByteArray} {pc nL index : Nat} {ls : Array Slot} {rest : List Value} {G : kx_G} {σ : kx_S} {own : String}
theorem xk_X3_pop {P : Int32 → kx_S → Prop} (F : CallFix p m c cc nL s args kt_ own) (C : kx_X G c0 s H locs σ) (l0 : Nat) (ha : xt σ l0 = 5) (h : wX3_pop l0 σ P) (hw : Cond.methodLink own index yX3_pop ∈ kt_) (h1 : (0) + 1 ≤ fr) (h2 : 8 + (1 + 11) + (0) ≤ lo) (hsz : ls.size = nL) (hW : (rest.map fun v => v.category).sum ≤ 8) (hdg : decode cc pc = .ok (.invokevirtual index, 3)) (kk : ∀ (r : Int32) (u : kx_S) (H1 : Heap) (locs1 : List Loc), P r u → kx_X G c0 s H1 locs1 u → kx_W p l e fr lo c0 s m args below meth c H1 locs1 u Q (F0 m (pc + 3) ls (.int r :: rest))) : kx_W p l e fr lo c0 s m args below meth c H locs σ Q (F0 m pc ls (.ref l0 :: rest)) :=
  kx_cV (n := 0) (As := []) (Cn := RX3) F C (hx_X3_pop l G l0 σ P h) (kt_V hw ux_268 ux_269 ux_48 ux_267) (by decide +kernel) ⟨h1, h2⟩ (kx_recv C (by rw [ha]; decide) (kx_e5 ha) rfl) rfl hsz hW hdg (fun v u H1 locs1 hP9 C9 => by obtain ⟨r, hv, hp⟩ := hP9; subst hv; exact kk r u H1 locs1 hp C9)
end
theorem dX3_join_0 : decode cX3_join 0 = .ok (.iload_n 0, 1) := by decide +kernel
theorem dX3_join_1 : decode cX3_join 1 = .ok (.tableswitch 121 (-15) (-8) #[107, 93, 82, 71, 59, 55, 51, 47], 47) := by decide +kernel
theorem dX3_join_48 : decode cX3_join 48 = .ok (.iload_n 1, 1) := by decide +kernel
theorem dX3_join_49 : decode cX3_join 49 = .ok (.iload_n 2, 1) := by decide +kernel
theorem dX3_join_50 : decode cX3_join 50 = .ok (.iadd, 1) := by decide +kernel
theorem dX3_join_51 : decode cX3_join 51 = .ok (.ireturn, 1) := by decide +kernel
theorem dX3_join_52 : decode cX3_join 52 = .ok (.iload_n 1, 1) := by decide +kernel
theorem dX3_join_53 : decode cX3_join 53 = .ok (.iload_n 2, 1) := by decide +kernel
theorem dX3_join_54 : decode cX3_join 54 = .ok (.isub, 1) := by decide +kernel
theorem dX3_join_55 : decode cX3_join 55 = .ok (.ireturn, 1) := by decide +kernel
theorem dX3_join_56 : decode cX3_join 56 = .ok (.iload_n 1, 1) := by decide +kernel
theorem dX3_join_57 : decode cX3_join 57 = .ok (.iload_n 2, 1) := by decide +kernel
theorem dX3_join_58 : decode cX3_join 58 = .ok (.imul, 1) := by decide +kernel
theorem dX3_join_59 : decode cX3_join 59 = .ok (.ireturn, 1) := by decide +kernel
theorem dX3_join_60 : decode cX3_join 60 = .ok (.iload_n 2, 1) := by decide +kernel
theorem dX3_join_61 : decode cX3_join 61 = .ok (.ifCond .ne 7, 3) := by decide +kernel
theorem dX3_join_64 : decode cX3_join 64 = .ok (.iconst 0, 1) := by decide +kernel
theorem dX3_join_65 : decode cX3_join 65 = .ok (.goto 6, 3) := by decide +kernel
theorem dX3_join_68 : decode cX3_join 68 = .ok (.iload_n 1, 1) := by decide +kernel
theorem dX3_join_69 : decode cX3_join 69 = .ok (.iload_n 2, 1) := by decide +kernel
theorem dX3_join_70 : decode cX3_join 70 = .ok (.idiv, 1) := by decide +kernel
theorem dX3_join_71 : decode cX3_join 71 = .ok (.ireturn, 1) := by decide +kernel
theorem dX3_join_72 : decode cX3_join 72 = .ok (.iload_n 1, 1) := by decide +kernel
theorem dX3_join_73 : decode cX3_join 73 = .ok (.iload_n 2, 1) := by decide +kernel
theorem dX3_join_74 : decode cX3_join 74 = .ok (.if_icmp .ge 7, 3) := by decide +kernel
theorem dX3_join_77 : decode cX3_join 77 = .ok (.iconst 1, 1) := by decide +kernel
theorem dX3_join_78 : decode cX3_join 78 = .ok (.goto 4, 3) := by decide +kernel
theorem dX3_join_81 : decode cX3_join 81 = .ok (.iconst 0, 1) := by decide +kernel
theorem dX3_join_82 : decode cX3_join 82 = .ok (.ireturn, 1) := by decide +kernel
theorem dX3_join_83 : decode cX3_join 83 = .ok (.iload_n 1, 1) := by decide +kernel
theorem dX3_join_84 : decode cX3_join 84 = .ok (.iload_n 2, 1) := by decide +kernel
theorem dX3_join_85 : decode cX3_join 85 = .ok (.if_icmp .ne 7, 3) := by decide +kernel
theorem dX3_join_88 : decode cX3_join 88 = .ok (.iconst 1, 1) := by decide +kernel
theorem dX3_join_89 : decode cX3_join 89 = .ok (.goto 4, 3) := by decide +kernel
theorem dX3_join_92 : decode cX3_join 92 = .ok (.iconst 0, 1) := by decide +kernel
theorem dX3_join_93 : decode cX3_join 93 = .ok (.ireturn, 1) := by decide +kernel
theorem dX3_join_94 : decode cX3_join 94 = .ok (.iload_n 1, 1) := by decide +kernel
theorem dX3_join_95 : decode cX3_join 95 = .ok (.ifCond .eq 11, 3) := by decide +kernel
theorem dX3_join_98 : decode cX3_join 98 = .ok (.iload_n 2, 1) := by decide +kernel
theorem dX3_join_99 : decode cX3_join 99 = .ok (.ifCond .eq 7, 3) := by decide +kernel
theorem dX3_join_102 : decode cX3_join 102 = .ok (.iconst 1, 1) := by decide +kernel
theorem dX3_join_103 : decode cX3_join 103 = .ok (.goto 4, 3) := by decide +kernel
theorem dX3_join_106 : decode cX3_join 106 = .ok (.iconst 0, 1) := by decide +kernel
theorem dX3_join_107 : decode cX3_join 107 = .ok (.ireturn, 1) := by decide +kernel
theorem dX3_join_108 : decode cX3_join 108 = .ok (.iload_n 1, 1) := by decide +kernel
theorem dX3_join_109 : decode cX3_join 109 = .ok (.ifCond .ne 7, 3) := by decide +kernel
theorem dX3_join_112 : decode cX3_join 112 = .ok (.iload_n 2, 1) := by decide +kernel
theorem dX3_join_113 : decode cX3_join 113 = .ok (.ifCond .eq 7, 3) := by decide +kernel
theorem dX3_join_116 : decode cX3_join 116 = .ok (.iconst 1, 1) := by decide +kernel
theorem dX3_join_117 : decode cX3_join 117 = .ok (.goto 4, 3) := by decide +kernel
theorem dX3_join_120 : decode cX3_join 120 = .ok (.iconst 0, 1) := by decide +kernel
theorem dX3_join_121 : decode cX3_join 121 = .ok (.ireturn, 1) := by decide +kernel
theorem dX3_join_122 : decode cX3_join 122 = .ok (.iconst 0, 1) := by decide +kernel
theorem dX3_join_123 : decode cX3_join 123 = .ok (.ireturn, 1) := by decide +kernel
def wX3_join (l0 : Int32) (l1 : Int32) (l2 : Int32) (σ : kx_S) (Q : Int32 → kx_S → Prop) : Prop := ∀ v1, v1 = l0 → ((v1 = (-15) → ((¬ l1 = 0 → Q 1 σ) ∧
    (l1 = 0 → ((l2 = 0 → Q 0 σ) ∧
      (¬ (l2 = 0) → Q 1 σ))))) ∧
  ((v1 = (-14) → ((l1 = 0 → Q 0 σ) ∧
    (¬ (l1 = 0) → ((l2 = 0 → Q 0 σ) ∧
      (¬ (l2 = 0) → Q 1 σ))))) ∧
  ((v1 = (-13) → ((¬ l1 = l2 → Q 0 σ) ∧
    (l1 = l2 → Q 1 σ))) ∧
  ((v1 = (-12) → ((l2 ≤ l1 → Q 0 σ) ∧
    (¬ (l2 ≤ l1) → Q 1 σ))) ∧
  ((v1 = (-11) → ((¬ l2 = 0 → ¬ l2 = 0 ∧ Q (l1 / l2) σ) ∧
    (l2 = 0 → Q 0 σ))) ∧
  ((v1 = (-10) → Q (l1 * l2) σ) ∧
  ((v1 = (-9) → Q (l1 - l2) σ) ∧
  ((v1 = (-8) → Q (l1 + l2) σ) ∧
  (¬ v1 = (-15) → ¬ v1 = (-14) → ¬ v1 = (-13) → ¬ v1 = (-12) → ¬ v1 = (-11) → ¬ v1 = (-10) → ¬ v1 = (-9) → ¬ v1 = (-8) → Q 0 σ)))))))))
set_option maxRecDepth 100000 in
set_option maxHeartbeats 4000000 in
theorem hx_X3_join (l : Launch) (G : kx_G) (l0 : Int32) (l1 : Int32) (l2 : Int32) (σ : kx_S) (Q : Int32 → kx_S → Prop) (h : wX3_join l0 l1 l2 σ Q) : kx_M l G yX3_join cX3_join 3 (some .int) (0) (0) [.int l0, .int l1, .int l2] σ (kx_ri Q) := by
  refine kx_enter (by decide) rfl (Nat.le_of_ble_eq_true rfl) ?_
  intro p e s m below meth c ls F hr hlocks C hname hl
  have hl : lv_has ls 3 [(0, .int l0), (1, .int l1), (2, .int l2)] := hl
  obtain ⟨H, eH⟩ : ∃ z9, z9 = s.heap := ⟨_, rfl⟩
  obtain ⟨locs, eL⟩ : ∃ z9 : List Loc, z9 = [] := ⟨_, rfl⟩
  rw [← eH, ← eL] at C
  rw [← eH, ← eL]
  obtain ⟨σ0, e0⟩ : ∃ z9, z9 = σ := ⟨_, rfl⟩
  have C : kx_X G (xc σ0) s H locs σ := by rw [e0]; exact C
  suffices hgo : kx_W p l e (0) (0) (xc σ0) s m ([.int l0, .int l1, .int l2] : List Value).toArray below meth c H locs σ (MQ below (kx_Q G σ0 (kx_ri Q)) ([.int l0, .int l1, .int l2] : List Value).toArray s (kx_N - xc σ0) (600 * (kx_N - xc σ0)) (kx_A G)) (F0 m 0 ls []) by rw [e0] at hgo; exact hgo
  clear e0
  refine lv_iload_n F.1 F.2.1 dX3_join_0 rfl (lv_at hl 0 rfl) ?_
  refine lv_topi (fun v1 ev1 => ?_)
  replace h := h v1 ev1
  by_cases c2 : v1 = (-15)
  · replace h := h.1 c2
    refine lv_tableIn (off := 107) (tgt := 108) F.1 F.2.1 dX3_join_1 (by rw [c2]; decide) (by rw [c2]; decide) (by rw [c2]; decide) (by decide) ?_
    refine lv_iload_n F.1 F.2.1 dX3_join_108 rfl (lv_at hl 1 rfl) ?_
    refine lv_if_ne (tgt := 116) F.1 F.2.1 dX3_join_109 (by decide) (fun c3 => ?_) (fun c3 => ?_)
    · replace h := h.1 c3
      refine lv_iconst (v := 1) F.1 F.2.1 dX3_join_116 (by decide) ?_
      refine lv_goto (tgt := 121) F.1 F.2.1 dX3_join_117 (by decide) ?_
      exact kx_iret F C hr hlocks h dX3_join_121
    · replace h := h.2 c3
      refine lv_iload_n F.1 F.2.1 dX3_join_112 rfl (lv_at hl 2 rfl) ?_
      refine lv_if_eq (tgt := 120) F.1 F.2.1 dX3_join_113 (by decide) (fun c4 => ?_) (fun c4 => ?_)
      · replace h := h.1 c4
        refine lv_iconst (v := 0) F.1 F.2.1 dX3_join_120 (by decide) ?_
        exact kx_iret F C hr hlocks h dX3_join_121
      · replace h := h.2 c4
        refine lv_iconst (v := 1) F.1 F.2.1 dX3_join_116 (by decide) ?_
        refine lv_goto (tgt := 121) F.1 F.2.1 dX3_join_117 (by decide) ?_
        exact kx_iret F C hr hlocks h dX3_join_121
  replace h := h.2
  by_cases c5 : v1 = (-14)
  · replace h := h.1 c5
    refine lv_tableIn (off := 93) (tgt := 94) F.1 F.2.1 dX3_join_1 (by rw [c5]; decide) (by rw [c5]; decide) (by rw [c5]; decide) (by decide) ?_
    refine lv_iload_n F.1 F.2.1 dX3_join_94 rfl (lv_at hl 1 rfl) ?_
    refine lv_if_eq (tgt := 106) F.1 F.2.1 dX3_join_95 (by decide) (fun c6 => ?_) (fun c6 => ?_)
    · replace h := h.1 c6
      refine lv_iconst (v := 0) F.1 F.2.1 dX3_join_106 (by decide) ?_
      exact kx_iret F C hr hlocks h dX3_join_107
    · replace h := h.2 c6
      refine lv_iload_n F.1 F.2.1 dX3_join_98 rfl (lv_at hl 2 rfl) ?_
      refine lv_if_eq (tgt := 106) F.1 F.2.1 dX3_join_99 (by decide) (fun c7 => ?_) (fun c7 => ?_)
      · replace h := h.1 c7
        refine lv_iconst (v := 0) F.1 F.2.1 dX3_join_106 (by decide) ?_
        exact kx_iret F C hr hlocks h dX3_join_107
      · replace h := h.2 c7
        refine lv_iconst (v := 1) F.1 F.2.1 dX3_join_102 (by decide) ?_
        refine lv_goto (tgt := 107) F.1 F.2.1 dX3_join_103 (by decide) ?_
        exact kx_iret F C hr hlocks h dX3_join_107
  replace h := h.2
  by_cases c8 : v1 = (-13)
  · replace h := h.1 c8
    refine lv_tableIn (off := 82) (tgt := 83) F.1 F.2.1 dX3_join_1 (by rw [c8]; decide) (by rw [c8]; decide) (by rw [c8]; decide) (by decide) ?_
    refine lv_iload_n F.1 F.2.1 dX3_join_83 rfl (lv_at hl 1 rfl) ?_
    refine lv_iload_n F.1 F.2.1 dX3_join_84 rfl (lv_at hl 2 rfl) ?_
    refine lv_icmp_ne (tgt := 92) F.1 F.2.1 dX3_join_85 (by decide) (fun c9 => ?_) (fun c9 => ?_)
    · replace h := h.1 c9
      refine lv_iconst (v := 0) F.1 F.2.1 dX3_join_92 (by decide) ?_
      exact kx_iret F C hr hlocks h dX3_join_93
    · replace h := h.2 c9
      refine lv_iconst (v := 1) F.1 F.2.1 dX3_join_88 (by decide) ?_
      refine lv_goto (tgt := 93) F.1 F.2.1 dX3_join_89 (by decide) ?_
      exact kx_iret F C hr hlocks h dX3_join_93
  replace h := h.2
  by_cases c10 : v1 = (-12)
  · replace h := h.1 c10
    refine lv_tableIn (off := 71) (tgt := 72) F.1 F.2.1 dX3_join_1 (by rw [c10]; decide) (by rw [c10]; decide) (by rw [c10]; decide) (by decide) ?_
    refine lv_iload_n F.1 F.2.1 dX3_join_72 rfl (lv_at hl 1 rfl) ?_
    refine lv_iload_n F.1 F.2.1 dX3_join_73 rfl (lv_at hl 2 rfl) ?_
    refine lv_icmp_ge (tgt := 81) F.1 F.2.1 dX3_join_74 (by decide) (fun c11 => ?_) (fun c11 => ?_)
    · replace h := h.1 c11
      refine lv_iconst (v := 0) F.1 F.2.1 dX3_join_81 (by decide) ?_
      exact kx_iret F C hr hlocks h dX3_join_82
    · replace h := h.2 c11
      refine lv_iconst (v := 1) F.1 F.2.1 dX3_join_77 (by decide) ?_
      refine lv_goto (tgt := 82) F.1 F.2.1 dX3_join_78 (by decide) ?_
      exact kx_iret F C hr hlocks h dX3_join_82
  replace h := h.2
  by_cases c12 : v1 = (-11)
  · replace h := h.1 c12
    refine lv_tableIn (off := 59) (tgt := 60) F.1 F.2.1 dX3_join_1 (by rw [c12]; decide) (by rw [c12]; decide) (by rw [c12]; decide) (by decide) ?_
    refine lv_iload_n F.1 F.2.1 dX3_join_60 rfl (lv_at hl 2 rfl) ?_
    refine lv_if_ne (tgt := 68) F.1 F.2.1 dX3_join_61 (by decide) (fun c13 => ?_) (fun c13 => ?_)
    · replace h := h.1 c13
      refine lv_iload_n F.1 F.2.1 dX3_join_68 rfl (lv_at hl 1 rfl) ?_
      refine lv_iload_n F.1 F.2.1 dX3_join_69 rfl (lv_at hl 2 rfl) ?_
      obtain ⟨hn14, h⟩ := h
      refine lv_idiv (x := l1) (y := l2) F.1 F.2.1 dX3_join_70 hn14 ?_
      exact kx_iret F C hr hlocks h dX3_join_71
    · replace h := h.2 c13
      refine lv_iconst (v := 0) F.1 F.2.1 dX3_join_64 (by decide) ?_
      refine lv_goto (tgt := 71) F.1 F.2.1 dX3_join_65 (by decide) ?_
      exact kx_iret F C hr hlocks h dX3_join_71
  replace h := h.2
  by_cases c15 : v1 = (-10)
  · replace h := h.1 c15
    refine lv_tableIn (off := 55) (tgt := 56) F.1 F.2.1 dX3_join_1 (by rw [c15]; decide) (by rw [c15]; decide) (by rw [c15]; decide) (by decide) ?_
    refine lv_iload_n F.1 F.2.1 dX3_join_56 rfl (lv_at hl 1 rfl) ?_
    refine lv_iload_n F.1 F.2.1 dX3_join_57 rfl (lv_at hl 2 rfl) ?_
    refine lv_imul (x := l1) (y := l2) F.1 F.2.1 dX3_join_58 ?_
    exact kx_iret F C hr hlocks h dX3_join_59
  replace h := h.2
  by_cases c16 : v1 = (-9)
  · replace h := h.1 c16
    refine lv_tableIn (off := 51) (tgt := 52) F.1 F.2.1 dX3_join_1 (by rw [c16]; decide) (by rw [c16]; decide) (by rw [c16]; decide) (by decide) ?_
    refine lv_iload_n F.1 F.2.1 dX3_join_52 rfl (lv_at hl 1 rfl) ?_
    refine lv_iload_n F.1 F.2.1 dX3_join_53 rfl (lv_at hl 2 rfl) ?_
    refine lv_isub (x := l1) (y := l2) F.1 F.2.1 dX3_join_54 ?_
    exact kx_iret F C hr hlocks h dX3_join_55
  replace h := h.2
  by_cases c17 : v1 = (-8)
  · replace h := h.1 c17
    refine lv_tableIn (off := 47) (tgt := 48) F.1 F.2.1 dX3_join_1 (by rw [c17]; decide) (by rw [c17]; decide) (by rw [c17]; decide) (by decide) ?_
    refine lv_iload_n F.1 F.2.1 dX3_join_48 rfl (lv_at hl 1 rfl) ?_
    refine lv_iload_n F.1 F.2.1 dX3_join_49 rfl (lv_at hl 2 rfl) ?_
    refine lv_iadd (x := l1) (y := l2) F.1 F.2.1 dX3_join_50 ?_
    exact kx_iret F C hr hlocks h dX3_join_51
  replace h := h.2
  have ic2 : v1.toInt ≠ (-15) := fun h9 => c2 (Int32.toInt_inj.mp (h9.trans (by decide)))
  have ic5 : v1.toInt ≠ (-14) := fun h9 => c5 (Int32.toInt_inj.mp (h9.trans (by decide)))
  have ic8 : v1.toInt ≠ (-13) := fun h9 => c8 (Int32.toInt_inj.mp (h9.trans (by decide)))
  have ic10 : v1.toInt ≠ (-12) := fun h9 => c10 (Int32.toInt_inj.mp (h9.trans (by decide)))
  have ic12 : v1.toInt ≠ (-11) := fun h9 => c12 (Int32.toInt_inj.mp (h9.trans (by decide)))
  have ic15 : v1.toInt ≠ (-10) := fun h9 => c15 (Int32.toInt_inj.mp (h9.trans (by decide)))
  have ic16 : v1.toInt ≠ (-9) := fun h9 => c16 (Int32.toInt_inj.mp (h9.trans (by decide)))
  have ic17 : v1.toInt ≠ (-8) := fun h9 => c17 (Int32.toInt_inj.mp (h9.trans (by decide)))
  replace h := h c2 c5 c8 c10 c12 c15 c16 c17
  refine lv_tableOut (tgt := 122) F.1 F.2.1 dX3_join_1 (by omega) (by decide) ?_
  refine lv_iconst (v := 0) F.1 F.2.1 dX3_join_122 (by decide) ?_
  exact kx_iret F C hr hlocks h dX3_join_123
section
variable {p : Program} {l : Launch} {e : Env} {fr lo c0 : Nat} {s : State} {m : MethodId} {args : Array Value} {below : List Frame} {meth : Method} {c : Code} {H : Heap} {locs : List Loc} {Q : State → Prop}
variable {cc : ByteArray} {pc nL index : Nat} {ls : Array Slot} {rest : List Value} {G : kx_G} {σ : kx_S} {own : String}
theorem xk_X3_join {P : Int32 → kx_S → Prop} (F : CallFix p m c cc nL s args kt_ own) (C : kx_X G c0 s H locs σ) (l0 : Int32) (l1 : Int32) (l2 : Int32) (h : wX3_join l0 l1 l2 σ P) (hw : Cond.methodLink own index yX3_join ∈ kt_) (h1 : (0) + 1 ≤ fr) (h2 : 8 + (3 + 11) + (0) ≤ lo) (hsz : ls.size = nL) (hW : (rest.map fun v => v.category).sum ≤ 8) (hdg : decode cc pc = .ok (.invokestatic index, 3)) (kk : ∀ (r : Int32) (u : kx_S) (H1 : Heap) (locs1 : List Loc), P r u → kx_X G c0 s H1 locs1 u → kx_W p l e fr lo c0 s m args below meth c H1 locs1 u Q (F0 m (pc + 3) ls (.int r :: rest))) : kx_W p l e fr lo c0 s m args below meth c H locs σ Q (F0 m pc ls (.int l2 :: .int l1 :: .int l0 :: rest)) :=
  kx_cS (n := 3) (As := [.int l0, .int l1, .int l2]) F C (hx_X3_join l G l0 l1 l2 σ P h) (kt_S hw ux_271 ux_48 ux_270) (by decide +kernel) ⟨h1, h2⟩ rfl hsz hW hdg (fun v u H1 locs1 hP9 C9 => by obtain ⟨r, hv, hp⟩ := hP9; subst hv; exact kk r u H1 locs1 hp C9)
end
theorem dX3_step_0 : decode cX3_step 0 = .ok (.iload_n 1, 1) := by decide +kernel
theorem dX3_step_1 : decode cX3_step 1 = .ok (.ifCond .lt 11, 3) := by decide +kernel
theorem dX3_step_4 : decode cX3_step 4 = .ok (.aload_n 0, 1) := by decide +kernel
theorem dX3_step_5 : decode cX3_step 5 = .ok (.iload_n 1, 1) := by decide +kernel
theorem dX3_step_6 : decode cX3_step 6 = .ok (.invokevirtual 59, 3) := by decide +kernel
theorem dX3_step_9 : decode cX3_step 9 = .ok (.goto 122, 3) := by decide +kernel
theorem dX3_step_12 : decode cX3_step 12 = .ok (.iload_n 1, 1) := by decide +kernel
theorem dX3_step_13 : decode cX3_step 13 = .ok (.bipush (-7), 2) := by decide +kernel
theorem dX3_step_15 : decode cX3_step 15 = .ok (.if_icmp .lt 18, 3) := by decide +kernel
theorem dX3_step_18 : decode cX3_step 18 = .ok (.aload_n 0, 1) := by decide +kernel
theorem dX3_step_19 : decode cX3_step 19 = .ok (.aload_n 0, 1) := by decide +kernel
theorem dX3_step_20 : decode cX3_step 20 = .ok (.getfield 19, 3) := by decide +kernel
theorem dX3_step_23 : decode cX3_step 23 = .ok (.iconst (-1), 1) := by decide +kernel
theorem dX3_step_24 : decode cX3_step 24 = .ok (.iload_n 1, 1) := by decide +kernel
theorem dX3_step_25 : decode cX3_step 25 = .ok (.isub, 1) := by decide +kernel
theorem dX3_step_26 : decode cX3_step 26 = .ok (.iaload, 1) := by decide +kernel
theorem dX3_step_27 : decode cX3_step 27 = .ok (.invokevirtual 59, 3) := by decide +kernel
theorem dX3_step_30 : decode cX3_step 30 = .ok (.goto 101, 3) := by decide +kernel
theorem dX3_step_33 : decode cX3_step 33 = .ok (.iload_n 1, 1) := by decide +kernel
theorem dX3_step_34 : decode cX3_step 34 = .ok (.bipush (-16), 2) := by decide +kernel
theorem dX3_step_36 : decode cX3_step 36 = .ok (.if_icmp .ne 22, 3) := by decide +kernel
theorem dX3_step_39 : decode cX3_step 39 = .ok (.aload_n 0, 1) := by decide +kernel
theorem dX3_step_40 : decode cX3_step 40 = .ok (.aload_n 0, 1) := by decide +kernel
theorem dX3_step_41 : decode cX3_step 41 = .ok (.invokevirtual 62, 3) := by decide +kernel
theorem dX3_step_44 : decode cX3_step 44 = .ok (.ifCond .ne 7, 3) := by decide +kernel
theorem dX3_step_47 : decode cX3_step 47 = .ok (.iconst 1, 1) := by decide +kernel
theorem dX3_step_48 : decode cX3_step 48 = .ok (.goto 4, 3) := by decide +kernel
theorem dX3_step_51 : decode cX3_step 51 = .ok (.iconst 0, 1) := by decide +kernel
theorem dX3_step_52 : decode cX3_step 52 = .ok (.invokevirtual 59, 3) := by decide +kernel
theorem dX3_step_55 : decode cX3_step 55 = .ok (.goto 76, 3) := by decide +kernel
theorem dX3_step_58 : decode cX3_step 58 = .ok (.iload_n 1, 1) := by decide +kernel
theorem dX3_step_59 : decode cX3_step 59 = .ok (.bipush (-17), 2) := by decide +kernel
theorem dX3_step_61 : decode cX3_step 61 = .ok (.if_icmp .ne 27, 3) := by decide +kernel
theorem dX3_step_64 : decode cX3_step 64 = .ok (.aload_n 0, 1) := by decide +kernel
theorem dX3_step_65 : decode cX3_step 65 = .ok (.dup, 1) := by decide +kernel
theorem dX3_step_66 : decode cX3_step 66 = .ok (.getfield 22, 3) := by decide +kernel
theorem dX3_step_69 : decode cX3_step 69 = .ok (.aload_n 0, 1) := by decide +kernel
theorem dX3_step_70 : decode cX3_step 70 = .ok (.invokevirtual 62, 3) := by decide +kernel
theorem dX3_step_73 : decode cX3_step 73 = .ok (.ifCond .eq 7, 3) := by decide +kernel
theorem dX3_step_76 : decode cX3_step 76 = .ok (.iconst 1, 1) := by decide +kernel
theorem dX3_step_77 : decode cX3_step 77 = .ok (.goto 4, 3) := by decide +kernel
theorem dX3_step_80 : decode cX3_step 80 = .ok (.iconst 0, 1) := by decide +kernel
theorem dX3_step_81 : decode cX3_step 81 = .ok (.ior, 1) := by decide +kernel
theorem dX3_step_82 : decode cX3_step 82 = .ok (.putfield 22, 3) := by decide +kernel
theorem dX3_step_85 : decode cX3_step 85 = .ok (.goto 46, 3) := by decide +kernel
theorem dX3_step_88 : decode cX3_step 88 = .ok (.iload_n 1, 1) := by decide +kernel
theorem dX3_step_89 : decode cX3_step 89 = .ok (.bipush (-18), 2) := by decide +kernel
theorem dX3_step_91 : decode cX3_step 91 = .ok (.if_icmp .ne 20, 3) := by decide +kernel
theorem dX3_step_94 : decode cX3_step 94 = .ok (.aload_n 0, 1) := by decide +kernel
theorem dX3_step_95 : decode cX3_step 95 = .ok (.dup, 1) := by decide +kernel
theorem dX3_step_96 : decode cX3_step 96 = .ok (.getfield 26, 3) := by decide +kernel
theorem dX3_step_99 : decode cX3_step 99 = .ok (.aload_n 0, 1) := by decide +kernel
theorem dX3_step_100 : decode cX3_step 100 = .ok (.invokevirtual 62, 3) := by decide +kernel
theorem dX3_step_103 : decode cX3_step 103 = .ok (.i2l, 1) := by decide +kernel
theorem dX3_step_104 : decode cX3_step 104 = .ok (.ladd, 1) := by decide +kernel
theorem dX3_step_105 : decode cX3_step 105 = .ok (.putfield 26, 3) := by decide +kernel
theorem dX3_step_108 : decode cX3_step 108 = .ok (.goto 23, 3) := by decide +kernel
theorem dX3_step_111 : decode cX3_step 111 = .ok (.aload_n 0, 1) := by decide +kernel
theorem dX3_step_112 : decode cX3_step 112 = .ok (.invokevirtual 62, 3) := by decide +kernel
theorem dX3_step_115 : decode cX3_step 115 = .ok (.istore_n 2, 1) := by decide +kernel
theorem dX3_step_116 : decode cX3_step 116 = .ok (.aload_n 0, 1) := by decide +kernel
theorem dX3_step_117 : decode cX3_step 117 = .ok (.invokevirtual 62, 3) := by decide +kernel
theorem dX3_step_120 : decode cX3_step 120 = .ok (.istore_n 3, 1) := by decide +kernel
theorem dX3_step_121 : decode cX3_step 121 = .ok (.aload_n 0, 1) := by decide +kernel
theorem dX3_step_122 : decode cX3_step 122 = .ok (.iload_n 1, 1) := by decide +kernel
theorem dX3_step_123 : decode cX3_step 123 = .ok (.iload_n 3, 1) := by decide +kernel
theorem dX3_step_124 : decode cX3_step 124 = .ok (.iload_n 2, 1) := by decide +kernel
theorem dX3_step_125 : decode cX3_step 125 = .ok (.invokestatic 66, 3) := by decide +kernel
theorem dX3_step_128 : decode cX3_step 128 = .ok (.invokevirtual 59, 3) := by decide +kernel
theorem dX3_step_131 : decode cX3_step 131 = .ok (.return_, 1) := by decide +kernel
def wX3_step_52 (Q : kx_S → Prop) (s0 : Int32) (s1 : Nat) (σ : kx_S) : Prop := xt σ s1 = 5 ∧ wX3_push s1 s0 σ (fun σ1 => Q σ1)
def wX3_step_81 (Q : kx_S → Prop) (s0 : Int32) (s1 : Int32) (s2 : Nat) (σ : kx_S) : Prop := xt σ s2 = 5 ∧ (narrow .boolean (.int (s1 ||| s0)) = .int (s1 ||| s0) ∧ fits .boolean (.int (s1 ||| s0)) = true) ∧ ∀ σ5, σ5 = xsi σ 83 s2 (s1 ||| s0) → Q σ5
def wX3_step (l0 : Nat) (l1 : Int32) (σ : kx_S) (Q : kx_S → Prop) : Prop := ((l1 < 0 → ((l1 < (-7) → ((¬ l1 = (-16) → ((¬ l1 = (-17) → ((¬ l1 = (-18) → xt σ l0 = 5 ∧ wX3_pop l0 σ (fun r13 σ12 => xt σ12 l0 = 5 ∧ wX3_pop l0 σ12 (fun r16 σ15 => wX3_join l1 r16 r13 σ15 (fun r19 σ18 => xt σ18 l0 = 5 ∧ wX3_push l0 r19 σ18 (fun σ20 => Q σ20))))) ∧
          (l1 = (-18) → xt σ l0 = 5 ∧ wX3_pop l0 σ (fun r24 σ23 => xt σ23 l0 = 5 ∧ ∀ σ26, σ26 = xsl σ23 84 l0 ((xl σ 84 l0) + r24.toInt64) → Q σ26)))) ∧
        (l1 = (-17) → xt σ l0 = 5 ∧ wX3_pop l0 σ (fun r30 σ29 => ((r30 = 0 → wX3_step_81 Q 0 (xi σ 83 l0) l0 σ29) ∧
          (¬ (r30 = 0) → wX3_step_81 Q 1 (xi σ 83 l0) l0 σ29)))))) ∧
      (l1 = (-16) → xt σ l0 = 5 ∧ wX3_pop l0 σ (fun r33 σ32 => ((¬ r33 = 0 → wX3_step_52 Q 0 l0 σ32) ∧
        (r33 = 0 → wX3_step_52 Q 1 l0 σ32)))))) ∧
    (¬ (l1 < (-7)) → xt σ l0 = 5 ∧ ∃ a37, xr σ 81 l0 = some a37 ∧ xt σ a37 = 20 ∧ vp_in ((-1) - l1) (xn σ a37) ∧ wX3_push l0 (xai σ a37 ((-1) - l1).toNatClampNeg) σ (fun σ41 => Q σ41)))) ∧
  (¬ (l1 < 0) → xt σ l0 = 5 ∧ wX3_push l0 l1 σ (fun σ42 => Q σ42)))
set_option maxRecDepth 100000 in
set_option maxHeartbeats 4000000 in
theorem tX3_step_52 (l : Launch) (G : kx_G) (σ0 : kx_S) {p : Program} {e : Env} {s : State} {m : MethodId} {args : Array Value} {below : List Frame} {meth : Method} {c : Code} (F : CallFix p m c cX3_step 4 s args kt_ RX3) (hr : meth.sig.returnType = none) (hlocks : meth.locks = false) (Q : kx_S → Prop) : ∀ (s0 : Int32) (s1 : Nat) (σ : kx_S) (H : Heap) (locs : List Loc) (ls : Array Slot), wX3_step_52 Q s0 s1 σ → kx_X G (xc σ0) s H locs σ → lv_has ls 4 [] → kx_W p l e (1) (22) (xc σ0) s m args below meth c H locs σ (MQ below (kx_Q G σ0 (kx_rv Q)) args s (kx_N - xc σ0) (600 * (kx_N - xc σ0)) (kx_A G)) (F0 m 52 ls [.int s0, .ref s1]) := by
  intro s0 s1 σ H locs ls h C hl
  obtain ⟨ht2, h⟩ := h
  refine xk_X3_push F C s1 s0 ht2 h ux_272 (Nat.le_of_ble_eq_true rfl) (Nat.le_of_ble_eq_true rfl) hl.1 (by simp [Value.category]) dX3_step_52 (fun σ1 H locs h C => ?_)
  refine lv_goto (tgt := 131) F.1 F.2.1 dX3_step_55 (by decide) ?_
  exact kx_vret F C hr hlocks h dX3_step_131
set_option maxRecDepth 100000 in
set_option maxHeartbeats 4000000 in
theorem tX3_step_81 (l : Launch) (G : kx_G) (σ0 : kx_S) {p : Program} {e : Env} {s : State} {m : MethodId} {args : Array Value} {below : List Frame} {meth : Method} {c : Code} (F : CallFix p m c cX3_step 4 s args kt_ RX3) (hr : meth.sig.returnType = none) (hlocks : meth.locks = false) (Q : kx_S → Prop) : ∀ (s0 : Int32) (s1 : Int32) (s2 : Nat) (σ : kx_S) (H : Heap) (locs : List Loc) (ls : Array Slot), wX3_step_81 Q s0 s1 s2 σ → kx_X G (xc σ0) s H locs σ → lv_has ls 4 [] → kx_W p l e (1) (22) (xc σ0) s m args below meth c H locs σ (MQ below (kx_Q G σ0 (kx_rv Q)) args s (kx_N - xc σ0) (600 * (kx_N - xc σ0)) (kx_A G)) (F0 m 81 ls [.int s0, .int s1, .ref s2]) := by
  intro s0 s1 s2 σ H locs ls h C hl
  refine lv_ior (x := s1) (y := s0) F.1 F.2.1 dX3_step_81 ?_
  obtain ⟨ht3, h⟩ := h
  obtain ⟨hb4, h⟩ := h
  refine xp_X3_barred (x := s1 ||| s0) F C ht3 hb4 ux_273 (fun _ h9 => h9) dX3_step_82 (fun H locs C => ?_)
  generalize eσ5 : xsi σ 83 s2 (s1 ||| s0) = σ5 at C ⊢
  replace h := h σ5 eσ5.symm
  have ht6 : xt σ5 s2 = 5 := by rw [← eσ5]; exact ht3
  refine lv_goto (tgt := 131) F.1 F.2.1 dX3_step_85 (by decide) ?_
  exact kx_vret F C hr hlocks h dX3_step_131
set_option maxRecDepth 100000 in
set_option maxHeartbeats 4000000 in
theorem hx_X3_step (l : Launch) (G : kx_G) (l0 : Nat) (l1 : Int32) (σ : kx_S) (Q : kx_S → Prop) (h : wX3_step l0 l1 σ Q) : kx_M l G yX3_step cX3_step 4 none (1) (22) [.ref l0, .int l1] σ (kx_rv Q) := by
  refine kx_enter (by decide) rfl (Nat.le_of_ble_eq_true rfl) ?_
  intro p e s m below meth c ls F hr hlocks C hname hl
  have hl : lv_has ls 4 [(0, .ref l0), (1, .int l1)] := hl
  obtain ⟨H, eH⟩ : ∃ z9, z9 = s.heap := ⟨_, rfl⟩
  obtain ⟨locs, eL⟩ : ∃ z9 : List Loc, z9 = [] := ⟨_, rfl⟩
  rw [← eH, ← eL] at C
  rw [← eH, ← eL]
  obtain ⟨σ0, e0⟩ : ∃ z9, z9 = σ := ⟨_, rfl⟩
  have C : kx_X G (xc σ0) s H locs σ := by rw [e0]; exact C
  suffices hgo : kx_W p l e (1) (22) (xc σ0) s m ([.ref l0, .int l1] : List Value).toArray below meth c H locs σ (MQ below (kx_Q G σ0 (kx_rv Q)) ([.ref l0, .int l1] : List Value).toArray s (kx_N - xc σ0) (600 * (kx_N - xc σ0)) (kx_A G)) (F0 m 0 ls []) by rw [e0] at hgo; exact hgo
  clear e0
  refine lv_iload_n F.1 F.2.1 dX3_step_0 rfl (lv_at hl 1 rfl) ?_
  refine lv_if_lt (tgt := 12) F.1 F.2.1 dX3_step_1 (by decide) (fun c7 => ?_) (fun c7 => ?_)
  · replace h := h.1 c7
    refine lv_iload_n F.1 F.2.1 dX3_step_12 rfl (lv_at hl 1 rfl) ?_
    refine lv_bipush (v := (-7)) F.1 F.2.1 dX3_step_13 (by decide) ?_
    refine lv_icmp_lt (tgt := 33) F.1 F.2.1 dX3_step_15 (by decide) (fun c8 => ?_) (fun c8 => ?_)
    · replace h := h.1 c8
      refine lv_iload_n F.1 F.2.1 dX3_step_33 rfl (lv_at hl 1 rfl) ?_
      refine lv_bipush (v := (-16)) F.1 F.2.1 dX3_step_34 (by decide) ?_
      refine lv_icmp_ne (tgt := 58) F.1 F.2.1 dX3_step_36 (by decide) (fun c9 => ?_) (fun c9 => ?_)
      · replace h := h.1 c9
        refine lv_iload_n F.1 F.2.1 dX3_step_58 rfl (lv_at hl 1 rfl) ?_
        refine lv_bipush (v := (-17)) F.1 F.2.1 dX3_step_59 (by decide) ?_
        refine lv_icmp_ne (tgt := 88) F.1 F.2.1 dX3_step_61 (by decide) (fun c10 => ?_) (fun c10 => ?_)
        · replace h := h.1 c10
          refine lv_iload_n F.1 F.2.1 dX3_step_88 rfl (lv_at hl 1 rfl) ?_
          refine lv_bipush (v := (-18)) F.1 F.2.1 dX3_step_89 (by decide) ?_
          refine lv_icmp_ne (tgt := 111) F.1 F.2.1 dX3_step_91 (by decide) (fun c11 => ?_) (fun c11 => ?_)
          · replace h := h.1 c11
            refine lv_aload_n F.1 F.2.1 dX3_step_111 rfl (lv_at hl 0 rfl) ?_
            obtain ⟨ht14, h⟩ := h
            refine xk_X3_pop F C l0 ht14 h ux_274 (Nat.le_of_ble_eq_true rfl) (Nat.le_of_ble_eq_true rfl) hl.1 (by simp [Value.category]) dX3_step_112 (fun r13 σ12 H locs h C => ?_)
            refine lv_istore_n (lv' := [(2, .int r13), (0, .ref l0), (1, .int l1)]) F.1 F.2.1 dX3_step_115 rfl hl (by decide) rfl (fun ls hl => ?_)
            refine lv_aload_n F.1 F.2.1 dX3_step_116 rfl (lv_at hl 1 rfl) ?_
            obtain ⟨ht17, h⟩ := h
            refine xk_X3_pop F C l0 ht17 h ux_274 (Nat.le_of_ble_eq_true rfl) (Nat.le_of_ble_eq_true rfl) hl.1 (by simp [Value.category]) dX3_step_117 (fun r16 σ15 H locs h C => ?_)
            refine lv_istore_n (lv' := [(3, .int r16), (2, .int r13), (0, .ref l0), (1, .int l1)]) F.1 F.2.1 dX3_step_120 rfl hl (by decide) rfl (fun ls hl => ?_)
            refine lv_aload_n F.1 F.2.1 dX3_step_121 rfl (lv_at hl 2 rfl) ?_
            refine lv_iload_n F.1 F.2.1 dX3_step_122 rfl (lv_at hl 3 rfl) ?_
            refine lv_iload_n F.1 F.2.1 dX3_step_123 rfl (lv_at hl 0 rfl) ?_
            refine lv_iload_n F.1 F.2.1 dX3_step_124 rfl (lv_at hl 1 rfl) ?_
            refine xk_X3_join F C l1 r16 r13 h ux_275 (Nat.le_of_ble_eq_true rfl) (Nat.le_of_ble_eq_true rfl) hl.1 (by simp [Value.category]) dX3_step_125 (fun r19 σ18 H locs h C => ?_)
            obtain ⟨ht21, h⟩ := h
            refine xk_X3_push F C l0 r19 ht21 h ux_272 (Nat.le_of_ble_eq_true rfl) (Nat.le_of_ble_eq_true rfl) hl.1 (by simp [Value.category]) dX3_step_128 (fun σ20 H locs h C => ?_)
            exact kx_vret F C hr hlocks h dX3_step_131
          · replace h := h.2 c11
            refine lv_aload_n F.1 F.2.1 dX3_step_94 rfl (lv_at hl 0 rfl) ?_
            refine lv_dup F.1 F.2.1 dX3_step_95 rfl ?_
            obtain ⟨ht22, h⟩ := h
            refine xg_X3_toll F C ht22 ux_276 (fun _ h9 => h9) dX3_step_96 ?_
            refine lv_aload_n F.1 F.2.1 dX3_step_99 rfl (lv_at hl 0 rfl) ?_
            refine xk_X3_pop F C l0 ht22 h ux_274 (Nat.le_of_ble_eq_true rfl) (Nat.le_of_ble_eq_true rfl) hl.1 (by simp [Value.category]) dX3_step_100 (fun r24 σ23 H locs h C => ?_)
            refine lv_i2l F.1 F.2.1 dX3_step_103 rfl ?_
            refine lv_ladd (x := xl σ 84 l0) (y := r24.toInt64) F.1 F.2.1 dX3_step_104 ?_
            obtain ⟨ht25, h⟩ := h
            refine xp_X3_toll (x := (xl σ 84 l0) + r24.toInt64) F C ht25 ux_276 (fun _ h9 => h9) dX3_step_105 (fun H locs C => ?_)
            generalize eσ26 : xsl σ23 84 l0 ((xl σ 84 l0) + r24.toInt64) = σ26 at C ⊢
            replace h := h σ26 eσ26.symm
            have ht27 : xt σ26 l0 = 5 := by rw [← eσ26]; exact ht25
            refine lv_goto (tgt := 131) F.1 F.2.1 dX3_step_108 (by decide) ?_
            exact kx_vret F C hr hlocks h dX3_step_131
        · replace h := h.2 c10
          refine lv_aload_n F.1 F.2.1 dX3_step_64 rfl (lv_at hl 0 rfl) ?_
          refine lv_dup F.1 F.2.1 dX3_step_65 rfl ?_
          obtain ⟨ht28, h⟩ := h
          refine xg_X3_barred F C ht28 ux_273 (fun _ h9 => h9) dX3_step_66 ?_
          refine lv_aload_n F.1 F.2.1 dX3_step_69 rfl (lv_at hl 0 rfl) ?_
          refine xk_X3_pop F C l0 ht28 h ux_274 (Nat.le_of_ble_eq_true rfl) (Nat.le_of_ble_eq_true rfl) hl.1 (by simp [Value.category]) dX3_step_70 (fun r30 σ29 H locs h C => ?_)
          refine lv_if_eq (tgt := 80) F.1 F.2.1 dX3_step_73 (by decide) (fun c31 => ?_) (fun c31 => ?_)
          · replace h := h.1 c31
            refine lv_iconst (v := 0) F.1 F.2.1 dX3_step_80 (by decide) ?_
            exact tX3_step_81 l G σ0 F hr hlocks Q 0 (xi σ 83 l0) l0 σ29 H locs ls h C (lv_sub hl [] rfl)
          · replace h := h.2 c31
            refine lv_iconst (v := 1) F.1 F.2.1 dX3_step_76 (by decide) ?_
            refine lv_goto (tgt := 81) F.1 F.2.1 dX3_step_77 (by decide) ?_
            exact tX3_step_81 l G σ0 F hr hlocks Q 1 (xi σ 83 l0) l0 σ29 H locs ls h C (lv_sub hl [] rfl)
      · replace h := h.2 c9
        refine lv_aload_n F.1 F.2.1 dX3_step_39 rfl (lv_at hl 0 rfl) ?_
        refine lv_aload_n F.1 F.2.1 dX3_step_40 rfl (lv_at hl 0 rfl) ?_
        obtain ⟨ht34, h⟩ := h
        refine xk_X3_pop F C l0 ht34 h ux_274 (Nat.le_of_ble_eq_true rfl) (Nat.le_of_ble_eq_true rfl) hl.1 (by simp [Value.category]) dX3_step_41 (fun r33 σ32 H locs h C => ?_)
        refine lv_if_ne (tgt := 51) F.1 F.2.1 dX3_step_44 (by decide) (fun c35 => ?_) (fun c35 => ?_)
        · replace h := h.1 c35
          refine lv_iconst (v := 0) F.1 F.2.1 dX3_step_51 (by decide) ?_
          exact tX3_step_52 l G σ0 F hr hlocks Q 0 l0 σ32 H locs ls h C (lv_sub hl [] rfl)
        · replace h := h.2 c35
          refine lv_iconst (v := 1) F.1 F.2.1 dX3_step_47 (by decide) ?_
          refine lv_goto (tgt := 52) F.1 F.2.1 dX3_step_48 (by decide) ?_
          exact tX3_step_52 l G σ0 F hr hlocks Q 1 l0 σ32 H locs ls h C (lv_sub hl [] rfl)
    · replace h := h.2 c8
      refine lv_aload_n F.1 F.2.1 dX3_step_18 rfl (lv_at hl 0 rfl) ?_
      refine lv_aload_n F.1 F.2.1 dX3_step_19 rfl (lv_at hl 0 rfl) ?_
      obtain ⟨ht36, h⟩ := h
      refine xg_X3_names F C ht36 ux_257 (fun _ h9 => h9) dX3_step_20 ?_
      obtain ⟨a37, ea38, h⟩ := h
      refine xq_nn ea38 ?_
      refine lv_iconst (v := (-1)) F.1 F.2.1 dX3_step_23 (by decide) ?_
      refine lv_iload_n F.1 F.2.1 dX3_step_24 rfl (lv_at hl 1 rfl) ?_
      refine lv_isub (x := (-1)) (y := l1) F.1 F.2.1 dX3_step_25 ?_
      obtain ⟨ht39, h⟩ := h
      obtain ⟨hn40, h⟩ := h
      refine kx_iald F C ht39 hn40 dX3_step_26 ?_
      refine xk_X3_push F C l0 (xai σ a37 ((-1) - l1).toNatClampNeg) ht36 h ux_272 (Nat.le_of_ble_eq_true rfl) (Nat.le_of_ble_eq_true rfl) hl.1 (by simp [Value.category]) dX3_step_27 (fun σ41 H locs h C => ?_)
      refine lv_goto (tgt := 131) F.1 F.2.1 dX3_step_30 (by decide) ?_
      exact kx_vret F C hr hlocks h dX3_step_131
  · replace h := h.2 c7
    refine lv_aload_n F.1 F.2.1 dX3_step_4 rfl (lv_at hl 0 rfl) ?_
    refine lv_iload_n F.1 F.2.1 dX3_step_5 rfl (lv_at hl 1 rfl) ?_
    obtain ⟨ht43, h⟩ := h
    refine xk_X3_push F C l0 l1 ht43 h ux_272 (Nat.le_of_ble_eq_true rfl) (Nat.le_of_ble_eq_true rfl) hl.1 (by simp [Value.category]) dX3_step_6 (fun σ42 H locs h C => ?_)
    refine lv_goto (tgt := 131) F.1 F.2.1 dX3_step_9 (by decide) ?_
    exact kx_vret F C hr hlocks h dX3_step_131
section
variable {p : Program} {l : Launch} {e : Env} {fr lo c0 : Nat} {s : State} {m : MethodId} {args : Array Value} {below : List Frame} {meth : Method} {c : Code} {H : Heap} {locs : List Loc} {Q : State → Prop}
variable {cc : ByteArray} {pc nL index : Nat} {ls : Array Slot} {rest : List Value} {G : kx_G} {σ : kx_S} {own : String}
theorem xk_X3_step {P : kx_S → Prop} (F : CallFix p m c cc nL s args kt_ own) (C : kx_X G c0 s H locs σ) (l0 : Nat) (l1 : Int32) (ha : xt σ l0 = 5) (h : wX3_step l0 l1 σ P) (hw : Cond.methodLink own index yX3_step ∈ kt_) (h1 : (1) + 1 ≤ fr) (h2 : 8 + (4 + 11) + (22) ≤ lo) (hsz : ls.size = nL) (hW : (rest.map fun v => v.category).sum ≤ 8) (hdg : decode cc pc = .ok (.invokevirtual index, 3)) (kk : ∀ (u : kx_S) (H1 : Heap) (locs1 : List Loc), P u → kx_X G c0 s H1 locs1 u → kx_W p l e fr lo c0 s m args below meth c H1 locs1 u Q (F0 m (pc + 3) ls rest)) : kx_W p l e fr lo c0 s m args below meth c H locs σ Q (F0 m pc ls (.int l1 :: .ref l0 :: rest)) :=
  kx_cV (n := 1) (As := [.int l1]) (Cn := RX3) F C (hx_X3_step l G l0 l1 σ P h) (kt_V hw ux_278 ux_279 ux_48 ux_277) (by decide +kernel) ⟨h1, h2⟩ (kx_recv C (by rw [ha]; decide) (kx_e5 ha) rfl) rfl hsz hW hdg (fun v u H1 locs1 hP9 C9 => by obtain ⟨hv, hp⟩ := hP9; subst hv; exact kk u H1 locs1 hp C9)
end
theorem dX3_weigh_0 : decode cX3_weigh 0 = .ok (.aload_n 0, 1) := by decide +kernel
theorem dX3_weigh_1 : decode cX3_weigh 1 = .ok (.iconst 0, 1) := by decide +kernel
theorem dX3_weigh_2 : decode cX3_weigh 2 = .ok (.putfield 22, 3) := by decide +kernel
theorem dX3_weigh_5 : decode cX3_weigh 5 = .ok (.aload_n 0, 1) := by decide +kernel
theorem dX3_weigh_6 : decode cX3_weigh 6 = .ok (.lconst 0, 1) := by decide +kernel
theorem dX3_weigh_7 : decode cX3_weigh 7 = .ok (.putfield 26, 3) := by decide +kernel
theorem dX3_weigh_10 : decode cX3_weigh 10 = .ok (.aload_n 0, 1) := by decide +kernel
theorem dX3_weigh_11 : decode cX3_weigh 11 = .ok (.iconst 0, 1) := by decide +kernel
theorem dX3_weigh_12 : decode cX3_weigh 12 = .ok (.putfield 30, 3) := by decide +kernel
theorem dX3_weigh_15 : decode cX3_weigh 15 = .ok (.aload_n 1, 1) := by decide +kernel
theorem dX3_weigh_16 : decode cX3_weigh 16 = .ok (.ifnonnull 4, 3) := by decide +kernel
theorem dX3_weigh_19 : decode cX3_weigh 19 = .ok (.return_, 1) := by decide +kernel
theorem dX3_weigh_20 : decode cX3_weigh 20 = .ok (.aload_n 0, 1) := by decide +kernel
theorem dX3_weigh_21 : decode cX3_weigh 21 = .ok (.iconst (-1), 1) := by decide +kernel
theorem dX3_weigh_22 : decode cX3_weigh 22 = .ok (.aload_n 2, 1) := by decide +kernel
theorem dX3_weigh_23 : decode cX3_weigh 23 = .ok (.getfield 34, 3) := by decide +kernel
theorem dX3_weigh_26 : decode cX3_weigh 26 = .ok (.invokevirtual 39, 3) := by decide +kernel
theorem dX3_weigh_29 : decode cX3_weigh 29 = .ok (.aload_n 0, 1) := by decide +kernel
theorem dX3_weigh_30 : decode cX3_weigh 30 = .ok (.bipush (-2), 2) := by decide +kernel
theorem dX3_weigh_32 : decode cX3_weigh 32 = .ok (.aload_n 2, 1) := by decide +kernel
theorem dX3_weigh_33 : decode cX3_weigh 33 = .ok (.getfield 43, 3) := by decide +kernel
theorem dX3_weigh_36 : decode cX3_weigh 36 = .ok (.invokevirtual 39, 3) := by decide +kernel
theorem dX3_weigh_39 : decode cX3_weigh 39 = .ok (.aload_n 0, 1) := by decide +kernel
theorem dX3_weigh_40 : decode cX3_weigh 40 = .ok (.bipush (-3), 2) := by decide +kernel
theorem dX3_weigh_42 : decode cX3_weigh 42 = .ok (.aload_n 2, 1) := by decide +kernel
theorem dX3_weigh_43 : decode cX3_weigh 43 = .ok (.getfield 46, 3) := by decide +kernel
theorem dX3_weigh_46 : decode cX3_weigh 46 = .ok (.invokevirtual 39, 3) := by decide +kernel
theorem dX3_weigh_49 : decode cX3_weigh 49 = .ok (.aload_n 0, 1) := by decide +kernel
theorem dX3_weigh_50 : decode cX3_weigh 50 = .ok (.bipush (-4), 2) := by decide +kernel
theorem dX3_weigh_52 : decode cX3_weigh 52 = .ok (.iload 4, 2) := by decide +kernel
theorem dX3_weigh_54 : decode cX3_weigh 54 = .ok (.bipush 24, 2) := by decide +kernel
theorem dX3_weigh_56 : decode cX3_weigh 56 = .ok (.irem, 1) := by decide +kernel
theorem dX3_weigh_57 : decode cX3_weigh 57 = .ok (.invokevirtual 39, 3) := by decide +kernel
theorem dX3_weigh_60 : decode cX3_weigh 60 = .ok (.aload_n 0, 1) := by decide +kernel
theorem dX3_weigh_61 : decode cX3_weigh 61 = .ok (.bipush (-5), 2) := by decide +kernel
theorem dX3_weigh_63 : decode cX3_weigh 63 = .ok (.iload 4, 2) := by decide +kernel
theorem dX3_weigh_65 : decode cX3_weigh 65 = .ok (.bipush 24, 2) := by decide +kernel
theorem dX3_weigh_67 : decode cX3_weigh 67 = .ok (.idiv, 1) := by decide +kernel
theorem dX3_weigh_68 : decode cX3_weigh 68 = .ok (.invokevirtual 39, 3) := by decide +kernel
theorem dX3_weigh_71 : decode cX3_weigh 71 = .ok (.aload_n 0, 1) := by decide +kernel
theorem dX3_weigh_72 : decode cX3_weigh 72 = .ok (.bipush (-6), 2) := by decide +kernel
theorem dX3_weigh_74 : decode cX3_weigh 74 = .ok (.iload_n 3, 1) := by decide +kernel
theorem dX3_weigh_75 : decode cX3_weigh 75 = .ok (.invokevirtual 39, 3) := by decide +kernel
theorem dX3_weigh_78 : decode cX3_weigh 78 = .ok (.aload_n 0, 1) := by decide +kernel
theorem dX3_weigh_79 : decode cX3_weigh 79 = .ok (.bipush (-7), 2) := by decide +kernel
theorem dX3_weigh_81 : decode cX3_weigh 81 = .ok (.aload_n 2, 1) := by decide +kernel
theorem dX3_weigh_82 : decode cX3_weigh 82 = .ok (.getfield 49, 3) := by decide +kernel
theorem dX3_weigh_85 : decode cX3_weigh 85 = .ok (.invokevirtual 39, 3) := by decide +kernel
theorem dX3_weigh_88 : decode cX3_weigh 88 = .ok (.iconst 0, 1) := by decide +kernel
theorem dX3_weigh_89 : decode cX3_weigh 89 = .ok (.istore 5, 2) := by decide +kernel
theorem dX3_weigh_91 : decode cX3_weigh 91 = .ok (.iload 5, 2) := by decide +kernel
theorem dX3_weigh_93 : decode cX3_weigh 93 = .ok (.aload_n 1, 1) := by decide +kernel
theorem dX3_weigh_94 : decode cX3_weigh 94 = .ok (.getfield 52, 3) := by decide +kernel
theorem dX3_weigh_97 : decode cX3_weigh 97 = .ok (.arraylength, 1) := by decide +kernel
theorem dX3_weigh_98 : decode cX3_weigh 98 = .ok (.if_icmp .ge 20, 3) := by decide +kernel
theorem dX3_weigh_101 : decode cX3_weigh 101 = .ok (.aload_n 0, 1) := by decide +kernel
theorem dX3_weigh_102 : decode cX3_weigh 102 = .ok (.aload_n 1, 1) := by decide +kernel
theorem dX3_weigh_103 : decode cX3_weigh 103 = .ok (.getfield 52, 3) := by decide +kernel
theorem dX3_weigh_106 : decode cX3_weigh 106 = .ok (.iload 5, 2) := by decide +kernel
theorem dX3_weigh_108 : decode cX3_weigh 108 = .ok (.iaload, 1) := by decide +kernel
theorem dX3_weigh_109 : decode cX3_weigh 109 = .ok (.invokevirtual 55, 3) := by decide +kernel
theorem dX3_weigh_112 : decode cX3_weigh 112 = .ok (.iinc 5 1, 3) := by decide +kernel
theorem dX3_weigh_115 : decode cX3_weigh 115 = .ok (.goto (-24), 3) := by decide +kernel
theorem dX3_weigh_118 : decode cX3_weigh 118 = .ok (.return_, 1) := by decide +kernel
def wX3_weigh_91 (Q : kx_S → Prop) : Nat → Nat → (Option Nat) → Int32 → kx_S → Prop
  | 0, _, _, _, _ => False
  | n + 1, l0, l1, l5, σ => ∃ a1, l1 = some a1 ∧ xt σ a1 = 6 ∧ ∃ a4, xr σ 97 a1 = some a4 ∧ xt σ a4 = 20 ∧ (((nI (xn σ a4)) ≤ l5 → Q σ) ∧
    (¬ ((nI (xn σ a4)) ≤ l5) → ∃ a8, l1 = some a8 ∧ xt σ a8 = 6 ∧ ∃ a11, xr σ 97 a8 = some a11 ∧ xt σ a11 = 20 ∧ vp_in l5 (xn σ a11) ∧ xt σ l0 = 5 ∧ wX3_step l0 (xai σ a11 l5.toNatClampNeg) σ (fun σ15 => ∀ v17 : Int32, v17 = l5 + 1 → wX3_weigh_91 Q n l0 l1 v17 σ15)))
def wX3_weigh (l0 : Nat) (l1 : Option Nat) (l2 : Nat) (l3 : Int32) (l4 : Int32) (σ : kx_S) (Q : kx_S → Prop) : Prop := xt σ l0 = 5 ∧ ∀ σ19, σ19 = xsi σ 83 l0 0 → ∀ σ21, σ21 = xsl σ19 84 l0 (0 : Int64) → ∀ σ23, σ23 = xsi σ21 82 l0 0 → ((∀ a26, l1 = some a26 → xt σ23 l2 = 8 ∧ wX3_name l0 (-1) (xi σ23 129 l2) σ23 (fun σ28 => xt σ28 l2 = 8 ∧ xt σ28 l0 = 5 ∧ wX3_name l0 (-2) (xi σ28 130 l2) σ28 (fun σ30 => xt σ30 l2 = 8 ∧ xt σ30 l0 = 5 ∧ wX3_name l0 (-3) (xi σ30 131 l2) σ30 (fun σ33 => xt σ33 l0 = 5 ∧ wX3_name l0 (-4) (l4 - l4 / 24 * 24) σ33 (fun σ35 => xt σ35 l0 = 5 ∧ wX3_name l0 (-5) (l4 / 24) σ35 (fun σ37 => xt σ37 l0 = 5 ∧ wX3_name l0 (-6) l3 σ37 (fun σ39 => xt σ39 l2 = 8 ∧ xt σ39 l0 = 5 ∧ wX3_name l0 (-7) (xi σ39 135 l2) σ39 (fun σ42 => ∃ j, wX3_weigh_91 Q j l0 (some a26) 0 σ42)))))))) ∧
  (l1 = none → Q σ23))
set_option maxRecDepth 100000 in
set_option maxHeartbeats 4000000 in
theorem tX3_weigh_91 (l : Launch) (G : kx_G) (σ0 : kx_S) {p : Program} {e : Env} {s : State} {m : MethodId} {args : Array Value} {below : List Frame} {meth : Method} {c : Code} (F : CallFix p m c cX3_weigh 6 s args kt_ RX3) (hr : meth.sig.returnType = none) (hlocks : meth.locks = false) (Q : kx_S → Prop) : ∀ (n : Nat) (l0 : Nat) (l1 : Option Nat) (l5 : Int32) (σ : kx_S) (H : Heap) (locs : List Loc) (ls : Array Slot), wX3_weigh_91 Q n l0 l1 l5 σ → kx_X G (xc σ0) s H locs σ → lv_has ls 6 [(0, .ref l0), (1, va_rf l1), (5, .int l5)] → kx_W p l e (2) (45) (xc σ0) s m args below meth c H locs σ (MQ below (kx_Q G σ0 (kx_rv Q)) args s (kx_N - xc σ0) (600 * (kx_N - xc σ0)) (kx_A G)) (F0 m 91 ls []) := by
  intro n
  induction n with
  | zero => intro l0 l1 l5 σ H locs ls h; exact h.elim
  | succ n ih =>
    intro l0 l1 l5 σ H locs ls h C hl
    refine lv_iload F.1 F.2.1 dX3_weigh_91 (lv_at hl 2 rfl) ?_
    refine xq_aload_n F.1 F.2.1 dX3_weigh_93 rfl (lv_at hl 1 rfl) ?_
    obtain ⟨a1, ea2, h⟩ := h
    refine xq_nn ea2 ?_
    obtain ⟨ht3, h⟩ := h
    refine xg_X4_code F C ht3 ux_280 (fun _ h9 => h9) dX3_weigh_94 ?_
    obtain ⟨a4, ea5, h⟩ := h
    refine xq_nn ea5 ?_
    obtain ⟨ht6, h⟩ := h
    refine kx_alen F C (Or.inl ht6) dX3_weigh_97 ?_
    refine lv_icmp_ge (tgt := 118) F.1 F.2.1 dX3_weigh_98 (by decide) (fun c7 => ?_) (fun c7 => ?_)
    · replace h := h.1 c7
      exact kx_vret F C hr hlocks h dX3_weigh_118
    · replace h := h.2 c7
      refine lv_aload_n F.1 F.2.1 dX3_weigh_101 rfl (lv_at hl 0 rfl) ?_
      refine xq_aload_n F.1 F.2.1 dX3_weigh_102 rfl (lv_at hl 1 rfl) ?_
      obtain ⟨a8, ea9, h⟩ := h
      refine xq_nn ea9 ?_
      obtain ⟨ht10, h⟩ := h
      refine xg_X4_code F C ht10 ux_280 (fun _ h9 => h9) dX3_weigh_103 ?_
      obtain ⟨a11, ea12, h⟩ := h
      refine xq_nn ea12 ?_
      refine lv_iload F.1 F.2.1 dX3_weigh_106 (lv_at hl 2 rfl) ?_
      obtain ⟨ht13, h⟩ := h
      obtain ⟨hn14, h⟩ := h
      refine kx_iald F C ht13 hn14 dX3_weigh_108 ?_
      obtain ⟨ht16, h⟩ := h
      refine xk_X3_step F C l0 (xai σ a11 l5.toNatClampNeg) ht16 h ux_281 (Nat.le_of_ble_eq_true rfl) (Nat.le_of_ble_eq_true rfl) hl.1 (by simp [Value.category]) dX3_weigh_109 (fun σ15 H locs h C => ?_)
      obtain ⟨v17, ev17⟩ : ∃ z9 : Int32, z9 = l5 + 1 := ⟨_, rfl⟩
      replace h := h v17 ev17
      refine lv_iinc (v := v17) (lv' := [(5, .int v17), (0, .ref l0), (1, va_rf l1)]) F.1 F.2.1 dX3_weigh_112 hl (k := 2) rfl (by rw [ev17]; rfl) (by decide) rfl (fun ls hl => ?_)
      refine lv_goto (tgt := 91) F.1 F.2.1 dX3_weigh_115 (by decide) ?_
      exact ih l0 l1 v17 σ15 H locs ls h C (lv_sub hl [1, 2, 0] rfl)
set_option maxRecDepth 100000 in
set_option maxHeartbeats 4000000 in
theorem hx_X3_weigh (l : Launch) (G : kx_G) (l0 : Nat) (l1 : Option Nat) (l2 : Nat) (l3 : Int32) (l4 : Int32) (σ : kx_S) (Q : kx_S → Prop) (h : wX3_weigh l0 l1 l2 l3 l4 σ Q) : kx_M l G yX3_weigh cX3_weigh 6 none (2) (45) [.ref l0, va_rf l1, .ref l2, .int l3, .int l4] σ (kx_rv Q) := by
  refine kx_enter (by decide) rfl (by simp only [lg_sl, List.flatMap_cons, List.flatMap_nil]; cases l1 <;> exact Nat.le_of_ble_eq_true rfl) ?_
  intro p e s m below meth c ls F hr hlocks C hname hl
  have hl : lv_has ls 6 [(0, .ref l0), (1, va_rf l1), (2, .ref l2), (3, .int l3), (4, .int l4)] := (by cases l1 <;> exact hl)
  obtain ⟨H, eH⟩ : ∃ z9, z9 = s.heap := ⟨_, rfl⟩
  obtain ⟨locs, eL⟩ : ∃ z9 : List Loc, z9 = [] := ⟨_, rfl⟩
  rw [← eH, ← eL] at C
  rw [← eH, ← eL]
  obtain ⟨σ0, e0⟩ : ∃ z9, z9 = σ := ⟨_, rfl⟩
  have C : kx_X G (xc σ0) s H locs σ := by rw [e0]; exact C
  suffices hgo : kx_W p l e (2) (45) (xc σ0) s m ([.ref l0, va_rf l1, .ref l2, .int l3, .int l4] : List Value).toArray below meth c H locs σ (MQ below (kx_Q G σ0 (kx_rv Q)) ([.ref l0, va_rf l1, .ref l2, .int l3, .int l4] : List Value).toArray s (kx_N - xc σ0) (600 * (kx_N - xc σ0)) (kx_A G)) (F0 m 0 ls []) by rw [e0] at hgo; exact hgo
  clear e0
  refine lv_aload_n F.1 F.2.1 dX3_weigh_0 rfl (lv_at hl 0 rfl) ?_
  refine lv_iconst (v := 0) F.1 F.2.1 dX3_weigh_1 (by decide) ?_
  obtain ⟨ht18, h⟩ := h
  refine xp_X3_barred (x := 0) F C ht18 ⟨rfl, rfl⟩ ux_273 (fun _ h9 => h9) dX3_weigh_2 (fun H locs C => ?_)
  generalize eσ19 : xsi σ 83 l0 0 = σ19 at C ⊢
  replace h := h σ19 eσ19.symm
  have ht20 : xt σ19 l0 = 5 := by rw [← eσ19]; exact ht18
  refine lv_aload_n F.1 F.2.1 dX3_weigh_5 rfl (lv_at hl 0 rfl) ?_
  refine lv_lconst (v := 0) F.1 F.2.1 dX3_weigh_6 (by decide) ?_
  refine xp_X3_toll (x := (0 : Int64)) F C ht20 ux_276 (fun _ h9 => h9) dX3_weigh_7 (fun H locs C => ?_)
  generalize eσ21 : xsl σ19 84 l0 (0 : Int64) = σ21 at C ⊢
  replace h := h σ21 eσ21.symm
  have ht22 : xt σ21 l0 = 5 := by rw [← eσ21]; exact ht20
  refine lv_aload_n F.1 F.2.1 dX3_weigh_10 rfl (lv_at hl 0 rfl) ?_
  refine lv_iconst (v := 0) F.1 F.2.1 dX3_weigh_11 (by decide) ?_
  refine xp_X3_height (x := 0) F C ht22 ux_263 (fun _ h9 => h9) dX3_weigh_12 (fun H locs C => ?_)
  generalize eσ23 : xsi σ21 82 l0 0 = σ23 at C ⊢
  replace h := h σ23 eσ23.symm
  have ht24 : xt σ23 l0 = 5 := by rw [← eσ23]; exact ht22
  refine xq_aload_n F.1 F.2.1 dX3_weigh_15 rfl (lv_at hl 1 rfl) ?_
  refine xq_ifnonnull (tgt := 20) F.1 F.2.1 dX3_weigh_16 (by decide) (fun a26 c25 => ?_) (fun c25 => ?_)
  · replace h := h.1 a26 c25
    revert h
    revert hl
    revert C
    subst c25
    intro C
    intro hl
    intro h
    have hl : lv_has ls 6 [(0, .ref l0), (1, .ref a26), (2, .ref l2), (3, .int l3), (4, .int l4)] := hl
    refine lv_aload_n F.1 F.2.1 dX3_weigh_20 rfl (lv_at hl 0 rfl) ?_
    refine lv_iconst (v := (-1)) F.1 F.2.1 dX3_weigh_21 (by decide) ?_
    refine lv_aload_n F.1 F.2.1 dX3_weigh_22 rfl (lv_at hl 2 rfl) ?_
    obtain ⟨ht27, h⟩ := h
    refine xg_X6_mark F C ht27 ux_282 (fun _ h9 => h9) dX3_weigh_23 ?_
    refine xk_X3_name F C l0 (-1) (xi σ23 129 l2) ht24 h ux_283 (Nat.le_of_ble_eq_true rfl) (Nat.le_of_ble_eq_true rfl) hl.1 (by simp [Value.category]) dX3_weigh_26 (fun σ28 H locs h C => ?_)
    refine lv_aload_n F.1 F.2.1 dX3_weigh_29 rfl (lv_at hl 0 rfl) ?_
    refine lv_bipush (v := (-2)) F.1 F.2.1 dX3_weigh_30 (by decide) ?_
    refine lv_aload_n F.1 F.2.1 dX3_weigh_32 rfl (lv_at hl 2 rfl) ?_
    obtain ⟨ht29, h⟩ := h
    refine xg_X6_size F C ht29 ux_284 (fun _ h9 => h9) dX3_weigh_33 ?_
    obtain ⟨ht31, h⟩ := h
    refine xk_X3_name F C l0 (-2) (xi σ28 130 l2) ht31 h ux_283 (Nat.le_of_ble_eq_true rfl) (Nat.le_of_ble_eq_true rfl) hl.1 (by simp [Value.category]) dX3_weigh_36 (fun σ30 H locs h C => ?_)
    refine lv_aload_n F.1 F.2.1 dX3_weigh_39 rfl (lv_at hl 0 rfl) ?_
    refine lv_bipush (v := (-3)) F.1 F.2.1 dX3_weigh_40 (by decide) ?_
    refine lv_aload_n F.1 F.2.1 dX3_weigh_42 rfl (lv_at hl 2 rfl) ?_
    obtain ⟨ht32, h⟩ := h
    refine xg_X6_stump F C ht32 ux_285 (fun _ h9 => h9) dX3_weigh_43 ?_
    obtain ⟨ht34, h⟩ := h
    refine xk_X3_name F C l0 (-3) (xi σ30 131 l2) ht34 h ux_283 (Nat.le_of_ble_eq_true rfl) (Nat.le_of_ble_eq_true rfl) hl.1 (by simp [Value.category]) dX3_weigh_46 (fun σ33 H locs h C => ?_)
    refine lv_aload_n F.1 F.2.1 dX3_weigh_49 rfl (lv_at hl 0 rfl) ?_
    refine lv_bipush (v := (-4)) F.1 F.2.1 dX3_weigh_50 (by decide) ?_
    refine lv_iload F.1 F.2.1 dX3_weigh_52 (lv_at hl 4 rfl) ?_
    refine lv_bipush (v := 24) F.1 F.2.1 dX3_weigh_54 (by decide) ?_
    refine lv_irem (x := l4) (y := 24) F.1 F.2.1 dX3_weigh_56 (by decide) ?_
    obtain ⟨ht36, h⟩ := h
    refine xk_X3_name F C l0 (-4) (l4 - l4 / 24 * 24) ht36 h ux_283 (Nat.le_of_ble_eq_true rfl) (Nat.le_of_ble_eq_true rfl) hl.1 (by simp [Value.category]) dX3_weigh_57 (fun σ35 H locs h C => ?_)
    refine lv_aload_n F.1 F.2.1 dX3_weigh_60 rfl (lv_at hl 0 rfl) ?_
    refine lv_bipush (v := (-5)) F.1 F.2.1 dX3_weigh_61 (by decide) ?_
    refine lv_iload F.1 F.2.1 dX3_weigh_63 (lv_at hl 4 rfl) ?_
    refine lv_bipush (v := 24) F.1 F.2.1 dX3_weigh_65 (by decide) ?_
    refine lv_idiv (x := l4) (y := 24) F.1 F.2.1 dX3_weigh_67 (by decide) ?_
    obtain ⟨ht38, h⟩ := h
    refine xk_X3_name F C l0 (-5) (l4 / 24) ht38 h ux_283 (Nat.le_of_ble_eq_true rfl) (Nat.le_of_ble_eq_true rfl) hl.1 (by simp [Value.category]) dX3_weigh_68 (fun σ37 H locs h C => ?_)
    refine lv_aload_n F.1 F.2.1 dX3_weigh_71 rfl (lv_at hl 0 rfl) ?_
    refine lv_bipush (v := (-6)) F.1 F.2.1 dX3_weigh_72 (by decide) ?_
    refine lv_iload_n F.1 F.2.1 dX3_weigh_74 rfl (lv_at hl 3 rfl) ?_
    obtain ⟨ht40, h⟩ := h
    refine xk_X3_name F C l0 (-6) l3 ht40 h ux_283 (Nat.le_of_ble_eq_true rfl) (Nat.le_of_ble_eq_true rfl) hl.1 (by simp [Value.category]) dX3_weigh_75 (fun σ39 H locs h C => ?_)
    refine lv_aload_n F.1 F.2.1 dX3_weigh_78 rfl (lv_at hl 0 rfl) ?_
    refine lv_bipush (v := (-7)) F.1 F.2.1 dX3_weigh_79 (by decide) ?_
    refine lv_aload_n F.1 F.2.1 dX3_weigh_81 rfl (lv_at hl 2 rfl) ?_
    obtain ⟨ht41, h⟩ := h
    refine xg_X6_age F C ht41 ux_286 (fun _ h9 => h9) dX3_weigh_82 ?_
    obtain ⟨ht43, h⟩ := h
    refine xk_X3_name F C l0 (-7) (xi σ39 135 l2) ht43 h ux_283 (Nat.le_of_ble_eq_true rfl) (Nat.le_of_ble_eq_true rfl) hl.1 (by simp [Value.category]) dX3_weigh_85 (fun σ42 H locs h C => ?_)
    refine lv_iconst (v := 0) F.1 F.2.1 dX3_weigh_88 (by decide) ?_
    refine lv_istore (lv' := [(5, .int 0), (0, .ref l0), (1, .ref a26), (2, .ref l2), (3, .int l3), (4, .int l4)]) F.1 F.2.1 dX3_weigh_89 hl (by decide) rfl (fun ls hl => ?_)
    obtain ⟨n44, h⟩ := h
    exact tX3_weigh_91 l G σ0 F hr hlocks Q n44 l0 (some a26) 0 σ42 H locs ls h C (lv_sub hl [1, 2, 0] rfl)
  · replace h := h.2 c25
    exact kx_vret F C hr hlocks h dX3_weigh_19
section
variable {p : Program} {l : Launch} {e : Env} {fr lo c0 : Nat} {s : State} {m : MethodId} {args : Array Value} {below : List Frame} {meth : Method} {c : Code} {H : Heap} {locs : List Loc} {Q : State → Prop}
variable {cc : ByteArray} {pc nL index : Nat} {ls : Array Slot} {rest : List Value} {G : kx_G} {σ : kx_S} {own : String}
theorem xk_X3_weigh {P : kx_S → Prop} (F : CallFix p m c cc nL s args kt_ own) (C : kx_X G c0 s H locs σ) (l0 : Nat) (l1 : Option Nat) (l2 : Nat) (l3 : Int32) (l4 : Int32) (ha : xt σ l0 = 5) (h : wX3_weigh l0 l1 l2 l3 l4 σ P) (hw : Cond.methodLink own index yX3_weigh ∈ kt_) (h1 : (2) + 1 ≤ fr) (h2 : 8 + (6 + 11) + (45) ≤ lo) (hsz : ls.size = nL) (hW : (rest.map fun v => v.category).sum ≤ 8) (hdg : decode cc pc = .ok (.invokevirtual index, 3)) (kk : ∀ (u : kx_S) (H1 : Heap) (locs1 : List Loc), P u → kx_X G c0 s H1 locs1 u → kx_W p l e fr lo c0 s m args below meth c H1 locs1 u Q (F0 m (pc + 3) ls rest)) : kx_W p l e fr lo c0 s m args below meth c H locs σ Q (F0 m pc ls (.int l4 :: .int l3 :: .ref l2 :: va_rf l1 :: .ref l0 :: rest)) :=
  kx_cV (n := 4) (As := [va_rf l1, .ref l2, .int l3, .int l4]) (Cn := RX3) F C (hx_X3_weigh l G l0 l1 l2 l3 l4 σ P h) (kt_V hw ux_288 ux_289 ux_48 ux_287) (by decide +kernel) ⟨h1, h2⟩ (kx_recv C (by rw [ha]; decide) (kx_e5 ha) rfl) rfl hsz hW hdg (fun v u H1 locs1 hP9 C9 => by obtain ⟨hv, hp⟩ := hP9; subst hv; exact kk u H1 locs1 hp C9)
end
theorem dX4_init_0 : decode cX4_init 0 = .ok (.aload_n 0, 1) := by decide +kernel
theorem dX4_init_1 : decode cX4_init 1 = .ok (.invokespecial 1, 3) := by decide +kernel
theorem dX4_init_4 : decode cX4_init 4 = .ok (.aload_n 0, 1) := by decide +kernel
theorem dX4_init_5 : decode cX4_init 5 = .ok (.iload_n 1, 1) := by decide +kernel
theorem dX4_init_6 : decode cX4_init 6 = .ok (.putfield 7, 3) := by decide +kernel
theorem dX4_init_9 : decode cX4_init 9 = .ok (.aload_n 0, 1) := by decide +kernel
theorem dX4_init_10 : decode cX4_init 10 = .ok (.aload_n 2, 1) := by decide +kernel
theorem dX4_init_11 : decode cX4_init 11 = .ok (.putfield 13, 3) := by decide +kernel
theorem dX4_init_14 : decode cX4_init 14 = .ok (.return_, 1) := by decide +kernel
def wX4_init (l0 : Nat) (l1 : Int32) (l2 : Nat) (σ : kx_S) (Q : kx_S → Prop) : Prop := xt σ l0 = 6 ∧ ∀ σ2, σ2 = xsi σ 96 l0 l1 → ∀ σ4, σ4 = xsr σ2 97 l0 (some l2) → Q σ4
set_option maxRecDepth 100000 in
set_option maxHeartbeats 4000000 in
theorem hx_X4_init (l : Launch) (G : kx_G) (l0 : Nat) (l1 : Int32) (l2 : Nat) (σ : kx_S) (Q : kx_S → Prop) (h : wX4_init l0 l1 l2 σ Q) : kx_M l G yX4_init cX4_init 3 none (1) (12) [.ref l0, .int l1, .ref l2] σ (kx_rv Q) := by
  refine kx_enter (by decide) rfl (Nat.le_of_ble_eq_true rfl) ?_
  intro p e s m below meth c ls F hr hlocks C hname hl
  have hini : meth.name = "<init>" := hname
  have hl : lv_has ls 3 [(0, .ref l0), (1, .int l1), (2, .ref l2)] := hl
  obtain ⟨H, eH⟩ : ∃ z9, z9 = s.heap := ⟨_, rfl⟩
  obtain ⟨locs, eL⟩ : ∃ z9 : List Loc, z9 = [] := ⟨_, rfl⟩
  rw [← eH, ← eL] at C
  rw [← eH, ← eL]
  obtain ⟨σ0, e0⟩ : ∃ z9, z9 = σ := ⟨_, rfl⟩
  have C : kx_X G (xc σ0) s H locs σ := by rw [e0]; exact C
  suffices hgo : kx_W p l e (1) (12) (xc σ0) s m ([.ref l0, .int l1, .ref l2] : List Value).toArray below meth c H locs σ (MQ below (kx_Q G σ0 (kx_rv Q)) ([.ref l0, .int l1, .ref l2] : List Value).toArray s (kx_N - xc σ0) (600 * (kx_N - xc σ0)) (kx_A G)) (F0 m 0 ls []) by rw [e0] at hgo; exact hgo
  clear e0
  refine lv_aload_n F.1 F.2.1 dX4_init_0 rfl (lv_at hl 0 rfl) ?_
  refine kx_objI F ux_290 hl.1 (Nat.le_of_ble_eq_true rfl) (by simp [Value.category]) dX4_init_1 ?_
  refine lv_aload_n F.1 F.2.1 dX4_init_4 rfl (lv_at hl 0 rfl) ?_
  refine lv_iload_n F.1 F.2.1 dX4_init_5 rfl (lv_at hl 1 rfl) ?_
  obtain ⟨ht1, h⟩ := h
  refine xp_X4_day (x := l1) F C ht1 ux_291 (fun _ h9 => h9) hini rfl dX4_init_6 (fun H locs C => ?_)
  generalize eσ2 : xsi σ 96 l0 l1 = σ2 at C ⊢
  replace h := h σ2 eσ2.symm
  have ht3 : xt σ2 l0 = 6 := by rw [← eσ2]; exact ht1
  refine lv_aload_n F.1 F.2.1 dX4_init_9 rfl (lv_at hl 0 rfl) ?_
  refine lv_aload_n F.1 F.2.1 dX4_init_10 rfl (lv_at hl 2 rfl) ?_
  refine xp_X4_code (x := some l2) F C ht3 ux_292 (fun _ h9 => h9) hini rfl dX4_init_11 (fun H locs C => ?_)
  generalize eσ4 : xsr σ2 97 l0 (some l2) = σ4 at C ⊢
  replace h := h σ4 eσ4.symm
  have ht5 : xt σ4 l0 = 6 := by rw [← eσ4]; exact ht3
  exact kx_vret F C hr hlocks h dX4_init_14
section
variable {p : Program} {l : Launch} {e : Env} {fr lo c0 : Nat} {s : State} {m : MethodId} {args : Array Value} {below : List Frame} {meth : Method} {c : Code} {H : Heap} {locs : List Loc} {Q : State → Prop}
variable {cc : ByteArray} {pc nL index : Nat} {ls : Array Slot} {rest : List Value} {G : kx_G} {σ : kx_S} {own : String}
theorem xk_X4_init {P : kx_S → Prop} (F : CallFix p m c cc nL s args kt_ own) (C : kx_X G c0 s H locs σ) (l0 : Nat) (l1 : Int32) (l2 : Nat) (h : wX4_init l0 l1 l2 σ P) (hw : Cond.methodLink own index yX4_init ∈ kt_) (h1 : (1) + 1 ≤ fr) (h2 : 8 + (3 + 11) + (12) ≤ lo) (hsz : ls.size = nL) (hW : (rest.map fun v => v.category).sum ≤ 8) (hdg : decode cc pc = .ok (.invokespecial index, 3)) (kk : ∀ (u : kx_S) (H1 : Heap) (locs1 : List Loc), P u → kx_X G c0 s H1 locs1 u → kx_W p l e fr lo c0 s m args below meth c H1 locs1 u Q (F0 m (pc + 3) ls rest)) : kx_W p l e fr lo c0 s m args below meth c H locs σ Q (F0 m pc ls (.ref l2 :: .int l1 :: .ref l0 :: rest)) :=
  kx_cI (n := 2) (As := [.int l1, .ref l2]) F C (hx_X4_init l G l0 l1 l2 σ P h) ux_293 ux_52 hw ux_294 rfl (by decide +kernel) ⟨h1, h2⟩ rfl hsz hW hdg (fun v u H1 locs1 hP9 C9 => by obtain ⟨hv, hp⟩ := hP9; subst hv; exact kk u H1 locs1 hp C9)
end
theorem dX6_init_0 : decode cX6_init 0 = .ok (.aload_n 0, 1) := by decide +kernel
theorem dX6_init_1 : decode cX6_init 1 = .ok (.invokespecial 3, 3) := by decide +kernel
theorem dX6_init_4 : decode cX6_init 4 = .ok (.aload_n 0, 1) := by decide +kernel
theorem dX6_init_5 : decode cX6_init 5 = .ok (.iload_n 1, 1) := by decide +kernel
theorem dX6_init_6 : decode cX6_init 6 = .ok (.putfield 9, 3) := by decide +kernel
theorem dX6_init_9 : decode cX6_init 9 = .ok (.aload_n 0, 1) := by decide +kernel
theorem dX6_init_10 : decode cX6_init 10 = .ok (.iload_n 2, 1) := by decide +kernel
theorem dX6_init_11 : decode cX6_init 11 = .ok (.putfield 15, 3) := by decide +kernel
theorem dX6_init_14 : decode cX6_init 14 = .ok (.aload_n 0, 1) := by decide +kernel
theorem dX6_init_15 : decode cX6_init 15 = .ok (.iload_n 3, 1) := by decide +kernel
theorem dX6_init_16 : decode cX6_init 16 = .ok (.putfield 18, 3) := by decide +kernel
theorem dX6_init_19 : decode cX6_init 19 = .ok (.aload_n 0, 1) := by decide +kernel
theorem dX6_init_20 : decode cX6_init 20 = .ok (.iload 4, 2) := by decide +kernel
theorem dX6_init_22 : decode cX6_init 22 = .ok (.putfield 21, 3) := by decide +kernel
theorem dX6_init_25 : decode cX6_init 25 = .ok (.aload_n 0, 1) := by decide +kernel
theorem dX6_init_26 : decode cX6_init 26 = .ok (.iconst 0, 1) := by decide +kernel
theorem dX6_init_27 : decode cX6_init 27 = .ok (.putfield 24, 3) := by decide +kernel
theorem dX6_init_30 : decode cX6_init 30 = .ok (.aload_n 0, 1) := by decide +kernel
theorem dX6_init_31 : decode cX6_init 31 = .ok (.iconst (-1), 1) := by decide +kernel
theorem dX6_init_32 : decode cX6_init 32 = .ok (.putfield 27, 3) := by decide +kernel
theorem dX6_init_35 : decode cX6_init 35 = .ok (.aload_n 0, 1) := by decide +kernel
theorem dX6_init_36 : decode cX6_init 36 = .ok (.iconst (-1), 1) := by decide +kernel
theorem dX6_init_37 : decode cX6_init 37 = .ok (.putfield 30, 3) := by decide +kernel
theorem dX6_init_40 : decode cX6_init 40 = .ok (.aload_n 0, 1) := by decide +kernel
theorem dX6_init_41 : decode cX6_init 41 = .ok (.iconst (-1), 1) := by decide +kernel
theorem dX6_init_42 : decode cX6_init 42 = .ok (.putfield 33, 3) := by decide +kernel
theorem dX6_init_45 : decode cX6_init 45 = .ok (.return_, 1) := by decide +kernel
def wX6_init (l0 : Nat) (l1 : Int32) (l2 : Int32) (l3 : Int32) (l4 : Int32) (σ : kx_S) (Q : kx_S → Prop) : Prop := xt σ l0 = 8 ∧ ∀ σ2, σ2 = xsi σ 128 l0 l1 → ∀ σ4, σ4 = xsi σ2 129 l0 l2 → ∀ σ6, σ6 = xsi σ4 130 l0 l3 → ∀ σ8, σ8 = xsi σ6 131 l0 l4 → ∀ σ10, σ10 = xsi σ8 132 l0 0 → ∀ σ12, σ12 = xsi σ10 133 l0 (-1) → ∀ σ14, σ14 = xsi σ12 134 l0 (-1) → ∀ σ16, σ16 = xsi σ14 136 l0 (-1) → Q σ16
set_option maxRecDepth 100000 in
set_option maxHeartbeats 4000000 in
theorem hx_X6_init (l : Launch) (G : kx_G) (l0 : Nat) (l1 : Int32) (l2 : Int32) (l3 : Int32) (l4 : Int32) (σ : kx_S) (Q : kx_S → Prop) (h : wX6_init l0 l1 l2 l3 l4 σ Q) : kx_M l G yX6_init cX6_init 5 none (1) (12) [.ref l0, .int l1, .int l2, .int l3, .int l4] σ (kx_rv Q) := by
  refine kx_enter (by decide) rfl (Nat.le_of_ble_eq_true rfl) ?_
  intro p e s m below meth c ls F hr hlocks C hname hl
  have hini : meth.name = "<init>" := hname
  have hl : lv_has ls 5 [(0, .ref l0), (1, .int l1), (2, .int l2), (3, .int l3), (4, .int l4)] := hl
  obtain ⟨H, eH⟩ : ∃ z9, z9 = s.heap := ⟨_, rfl⟩
  obtain ⟨locs, eL⟩ : ∃ z9 : List Loc, z9 = [] := ⟨_, rfl⟩
  rw [← eH, ← eL] at C
  rw [← eH, ← eL]
  obtain ⟨σ0, e0⟩ : ∃ z9, z9 = σ := ⟨_, rfl⟩
  have C : kx_X G (xc σ0) s H locs σ := by rw [e0]; exact C
  suffices hgo : kx_W p l e (1) (12) (xc σ0) s m ([.ref l0, .int l1, .int l2, .int l3, .int l4] : List Value).toArray below meth c H locs σ (MQ below (kx_Q G σ0 (kx_rv Q)) ([.ref l0, .int l1, .int l2, .int l3, .int l4] : List Value).toArray s (kx_N - xc σ0) (600 * (kx_N - xc σ0)) (kx_A G)) (F0 m 0 ls []) by rw [e0] at hgo; exact hgo
  clear e0
  refine lv_aload_n F.1 F.2.1 dX6_init_0 rfl (lv_at hl 0 rfl) ?_
  refine kx_objI F ux_295 hl.1 (Nat.le_of_ble_eq_true rfl) (by simp [Value.category]) dX6_init_1 ?_
  refine lv_aload_n F.1 F.2.1 dX6_init_4 rfl (lv_at hl 0 rfl) ?_
  refine lv_iload_n F.1 F.2.1 dX6_init_5 rfl (lv_at hl 1 rfl) ?_
  obtain ⟨ht1, h⟩ := h
  refine xp_X6_number (x := l1) F C ht1 ux_296 (fun _ h9 => h9) hini rfl dX6_init_6 (fun H locs C => ?_)
  generalize eσ2 : xsi σ 128 l0 l1 = σ2 at C ⊢
  replace h := h σ2 eσ2.symm
  have ht3 : xt σ2 l0 = 8 := by rw [← eσ2]; exact ht1
  refine lv_aload_n F.1 F.2.1 dX6_init_9 rfl (lv_at hl 0 rfl) ?_
  refine lv_iload_n F.1 F.2.1 dX6_init_10 rfl (lv_at hl 2 rfl) ?_
  refine xp_X6_mark (x := l2) F C ht3 ux_297 (fun _ h9 => h9) hini rfl dX6_init_11 (fun H locs C => ?_)
  generalize eσ4 : xsi σ2 129 l0 l2 = σ4 at C ⊢
  replace h := h σ4 eσ4.symm
  have ht5 : xt σ4 l0 = 8 := by rw [← eσ4]; exact ht3
  refine lv_aload_n F.1 F.2.1 dX6_init_14 rfl (lv_at hl 0 rfl) ?_
  refine lv_iload_n F.1 F.2.1 dX6_init_15 rfl (lv_at hl 3 rfl) ?_
  refine xp_X6_size (x := l3) F C ht5 ux_298 (fun _ h9 => h9) hini rfl dX6_init_16 (fun H locs C => ?_)
  generalize eσ6 : xsi σ4 130 l0 l3 = σ6 at C ⊢
  replace h := h σ6 eσ6.symm
  have ht7 : xt σ6 l0 = 8 := by rw [← eσ6]; exact ht5
  refine lv_aload_n F.1 F.2.1 dX6_init_19 rfl (lv_at hl 0 rfl) ?_
  refine lv_iload F.1 F.2.1 dX6_init_20 (lv_at hl 4 rfl) ?_
  refine xp_X6_stump (x := l4) F C ht7 ux_299 (fun _ h9 => h9) hini rfl dX6_init_22 (fun H locs C => ?_)
  generalize eσ8 : xsi σ6 131 l0 l4 = σ8 at C ⊢
  replace h := h σ8 eσ8.symm
  have ht9 : xt σ8 l0 = 8 := by rw [← eσ8]; exact ht7
  refine lv_aload_n F.1 F.2.1 dX6_init_25 rfl (lv_at hl 0 rfl) ?_
  refine lv_iconst (v := 0) F.1 F.2.1 dX6_init_26 (by decide) ?_
  refine xp_X6_place (x := 0) F C ht9 ux_300 (fun _ h9 => h9) dX6_init_27 (fun H locs C => ?_)
  generalize eσ10 : xsi σ8 132 l0 0 = σ10 at C ⊢
  replace h := h σ10 eσ10.symm
  have ht11 : xt σ10 l0 = 8 := by rw [← eσ10]; exact ht9
  refine lv_aload_n F.1 F.2.1 dX6_init_30 rfl (lv_at hl 0 rfl) ?_
  refine lv_iconst (v := (-1)) F.1 F.2.1 dX6_init_31 (by decide) ?_
  refine xp_X6_reach (x := (-1)) F C ht11 ux_301 (fun _ h9 => h9) dX6_init_32 (fun H locs C => ?_)
  generalize eσ12 : xsi σ10 133 l0 (-1) = σ12 at C ⊢
  replace h := h σ12 eσ12.symm
  have ht13 : xt σ12 l0 = 8 := by rw [← eσ12]; exact ht11
  refine lv_aload_n F.1 F.2.1 dX6_init_35 rfl (lv_at hl 0 rfl) ?_
  refine lv_iconst (v := (-1)) F.1 F.2.1 dX6_init_36 (by decide) ?_
  refine xp_X6_cell (x := (-1)) F C ht13 ux_302 (fun _ h9 => h9) dX6_init_37 (fun H locs C => ?_)
  generalize eσ14 : xsi σ12 134 l0 (-1) = σ14 at C ⊢
  replace h := h σ14 eσ14.symm
  have ht15 : xt σ14 l0 = 8 := by rw [← eσ14]; exact ht13
  refine lv_aload_n F.1 F.2.1 dX6_init_40 rfl (lv_at hl 0 rfl) ?_
  refine lv_iconst (v := (-1)) F.1 F.2.1 dX6_init_41 (by decide) ?_
  refine xp_X6_firstBoard (x := (-1)) F C ht15 ux_303 (fun _ h9 => h9) dX6_init_42 (fun H locs C => ?_)
  generalize eσ16 : xsi σ14 136 l0 (-1) = σ16 at C ⊢
  replace h := h σ16 eσ16.symm
  have ht17 : xt σ16 l0 = 8 := by rw [← eσ16]; exact ht15
  exact kx_vret F C hr hlocks h dX6_init_45
section
variable {p : Program} {l : Launch} {e : Env} {fr lo c0 : Nat} {s : State} {m : MethodId} {args : Array Value} {below : List Frame} {meth : Method} {c : Code} {H : Heap} {locs : List Loc} {Q : State → Prop}
variable {cc : ByteArray} {pc nL index : Nat} {ls : Array Slot} {rest : List Value} {G : kx_G} {σ : kx_S} {own : String}
theorem xk_X6_init {P : kx_S → Prop} (F : CallFix p m c cc nL s args kt_ own) (C : kx_X G c0 s H locs σ) (l0 : Nat) (l1 : Int32) (l2 : Int32) (l3 : Int32) (l4 : Int32) (h : wX6_init l0 l1 l2 l3 l4 σ P) (hw : Cond.methodLink own index yX6_init ∈ kt_) (h1 : (1) + 1 ≤ fr) (h2 : 8 + (5 + 11) + (12) ≤ lo) (hsz : ls.size = nL) (hW : (rest.map fun v => v.category).sum ≤ 8) (hdg : decode cc pc = .ok (.invokespecial index, 3)) (kk : ∀ (u : kx_S) (H1 : Heap) (locs1 : List Loc), P u → kx_X G c0 s H1 locs1 u → kx_W p l e fr lo c0 s m args below meth c H1 locs1 u Q (F0 m (pc + 3) ls rest)) : kx_W p l e fr lo c0 s m args below meth c H locs σ Q (F0 m pc ls (.int l4 :: .int l3 :: .int l2 :: .int l1 :: .ref l0 :: rest)) :=
  kx_cI (n := 4) (As := [.int l1, .int l2, .int l3, .int l4]) F C (hx_X6_init l G l0 l1 l2 l3 l4 σ P h) ux_304 ux_70 hw ux_305 rfl (by decide +kernel) ⟨h1, h2⟩ rfl hsz hW hdg (fun v u H1 locs1 hP9 C9 => by obtain ⟨hv, hp⟩ := hP9; subst hv; exact kk u H1 locs1 hp C9)
end
theorem dX6_floatIn_0 : decode cX6_floatIn 0 = .ok (.aload_n 0, 1) := by decide +kernel
theorem dX6_floatIn_1 : decode cX6_floatIn 1 = .ok (.iconst 1, 1) := by decide +kernel
theorem dX6_floatIn_2 : decode cX6_floatIn 2 = .ok (.putfield 24, 3) := by decide +kernel
theorem dX6_floatIn_5 : decode cX6_floatIn 5 = .ok (.aload_n 0, 1) := by decide +kernel
theorem dX6_floatIn_6 : decode cX6_floatIn 6 = .ok (.iload_n 1, 1) := by decide +kernel
theorem dX6_floatIn_7 : decode cX6_floatIn 7 = .ok (.putfield 27, 3) := by decide +kernel
theorem dX6_floatIn_10 : decode cX6_floatIn 10 = .ok (.aload_n 0, 1) := by decide +kernel
theorem dX6_floatIn_11 : decode cX6_floatIn 11 = .ok (.iload_n 2, 1) := by decide +kernel
theorem dX6_floatIn_12 : decode cX6_floatIn 12 = .ok (.putfield 30, 3) := by decide +kernel
theorem dX6_floatIn_15 : decode cX6_floatIn 15 = .ok (.return_, 1) := by decide +kernel
def wX6_floatIn (l0 : Nat) (l1 : Int32) (l2 : Int32) (σ : kx_S) (Q : kx_S → Prop) : Prop := xt σ l0 = 8 ∧ ∀ σ2, σ2 = xsi σ 132 l0 1 → ∀ σ4, σ4 = xsi σ2 133 l0 l1 → ∀ σ6, σ6 = xsi σ4 134 l0 l2 → Q σ6
set_option maxRecDepth 100000 in
set_option maxHeartbeats 4000000 in
theorem hx_X6_floatIn (l : Launch) (G : kx_G) (l0 : Nat) (l1 : Int32) (l2 : Int32) (σ : kx_S) (Q : kx_S → Prop) (h : wX6_floatIn l0 l1 l2 σ Q) : kx_M l G yX6_floatIn cX6_floatIn 3 none (0) (0) [.ref l0, .int l1, .int l2] σ (kx_rv Q) := by
  refine kx_enter (by decide) rfl (Nat.le_of_ble_eq_true rfl) ?_
  intro p e s m below meth c ls F hr hlocks C hname hl
  have hl : lv_has ls 3 [(0, .ref l0), (1, .int l1), (2, .int l2)] := hl
  obtain ⟨H, eH⟩ : ∃ z9, z9 = s.heap := ⟨_, rfl⟩
  obtain ⟨locs, eL⟩ : ∃ z9 : List Loc, z9 = [] := ⟨_, rfl⟩
  rw [← eH, ← eL] at C
  rw [← eH, ← eL]
  obtain ⟨σ0, e0⟩ : ∃ z9, z9 = σ := ⟨_, rfl⟩
  have C : kx_X G (xc σ0) s H locs σ := by rw [e0]; exact C
  suffices hgo : kx_W p l e (0) (0) (xc σ0) s m ([.ref l0, .int l1, .int l2] : List Value).toArray below meth c H locs σ (MQ below (kx_Q G σ0 (kx_rv Q)) ([.ref l0, .int l1, .int l2] : List Value).toArray s (kx_N - xc σ0) (600 * (kx_N - xc σ0)) (kx_A G)) (F0 m 0 ls []) by rw [e0] at hgo; exact hgo
  clear e0
  refine lv_aload_n F.1 F.2.1 dX6_floatIn_0 rfl (lv_at hl 0 rfl) ?_
  refine lv_iconst (v := 1) F.1 F.2.1 dX6_floatIn_1 (by decide) ?_
  obtain ⟨ht1, h⟩ := h
  refine xp_X6_place (x := 1) F C ht1 ux_300 (fun _ h9 => h9) dX6_floatIn_2 (fun H locs C => ?_)
  generalize eσ2 : xsi σ 132 l0 1 = σ2 at C ⊢
  replace h := h σ2 eσ2.symm
  have ht3 : xt σ2 l0 = 8 := by rw [← eσ2]; exact ht1
  refine lv_aload_n F.1 F.2.1 dX6_floatIn_5 rfl (lv_at hl 0 rfl) ?_
  refine lv_iload_n F.1 F.2.1 dX6_floatIn_6 rfl (lv_at hl 1 rfl) ?_
  refine xp_X6_reach (x := l1) F C ht3 ux_301 (fun _ h9 => h9) dX6_floatIn_7 (fun H locs C => ?_)
  generalize eσ4 : xsi σ2 133 l0 l1 = σ4 at C ⊢
  replace h := h σ4 eσ4.symm
  have ht5 : xt σ4 l0 = 8 := by rw [← eσ4]; exact ht3
  refine lv_aload_n F.1 F.2.1 dX6_floatIn_10 rfl (lv_at hl 0 rfl) ?_
  refine lv_iload_n F.1 F.2.1 dX6_floatIn_11 rfl (lv_at hl 2 rfl) ?_
  refine xp_X6_cell (x := l2) F C ht5 ux_302 (fun _ h9 => h9) dX6_floatIn_12 (fun H locs C => ?_)
  generalize eσ6 : xsi σ4 134 l0 l2 = σ6 at C ⊢
  replace h := h σ6 eσ6.symm
  have ht7 : xt σ6 l0 = 8 := by rw [← eσ6]; exact ht5
  exact kx_vret F C hr hlocks h dX6_floatIn_15
section
variable {p : Program} {l : Launch} {e : Env} {fr lo c0 : Nat} {s : State} {m : MethodId} {args : Array Value} {below : List Frame} {meth : Method} {c : Code} {H : Heap} {locs : List Loc} {Q : State → Prop}
variable {cc : ByteArray} {pc nL index : Nat} {ls : Array Slot} {rest : List Value} {G : kx_G} {σ : kx_S} {own : String}
theorem xk_X6_floatIn {P : kx_S → Prop} (F : CallFix p m c cc nL s args kt_ own) (C : kx_X G c0 s H locs σ) (l0 : Nat) (l1 : Int32) (l2 : Int32) (ha : xt σ l0 = 8) (h : wX6_floatIn l0 l1 l2 σ P) (hw : Cond.methodLink own index yX6_floatIn ∈ kt_) (h1 : (0) + 1 ≤ fr) (h2 : 8 + (3 + 11) + (0) ≤ lo) (hsz : ls.size = nL) (hW : (rest.map fun v => v.category).sum ≤ 8) (hdg : decode cc pc = .ok (.invokevirtual index, 3)) (kk : ∀ (u : kx_S) (H1 : Heap) (locs1 : List Loc), P u → kx_X G c0 s H1 locs1 u → kx_W p l e fr lo c0 s m args below meth c H1 locs1 u Q (F0 m (pc + 3) ls rest)) : kx_W p l e fr lo c0 s m args below meth c H locs σ Q (F0 m pc ls (.int l2 :: .int l1 :: .ref l0 :: rest)) :=
  kx_cV (n := 2) (As := [.int l1, .int l2]) (Cn := RX6) F C (hx_X6_floatIn l G l0 l1 l2 σ P h) (kt_V hw ux_307 ux_308 ux_70 ux_306) (by decide +kernel) ⟨h1, h2⟩ (kx_recv C (by rw [ha]; decide) (kx_e8 ha) rfl) rfl hsz hW hdg (fun v u H1 locs1 hP9 C9 => by obtain ⟨hv, hp⟩ := hP9; subst hv; exact kk u H1 locs1 hp C9)
end
theorem dX6_lieInHeap_0 : decode cX6_lieInHeap 0 = .ok (.aload_n 0, 1) := by decide +kernel
theorem dX6_lieInHeap_1 : decode cX6_lieInHeap 1 = .ok (.iconst 2, 1) := by decide +kernel
theorem dX6_lieInHeap_2 : decode cX6_lieInHeap 2 = .ok (.putfield 24, 3) := by decide +kernel
theorem dX6_lieInHeap_5 : decode cX6_lieInHeap 5 = .ok (.aload_n 0, 1) := by decide +kernel
theorem dX6_lieInHeap_6 : decode cX6_lieInHeap 6 = .ok (.iconst (-1), 1) := by decide +kernel
theorem dX6_lieInHeap_7 : decode cX6_lieInHeap 7 = .ok (.putfield 30, 3) := by decide +kernel
theorem dX6_lieInHeap_10 : decode cX6_lieInHeap 10 = .ok (.return_, 1) := by decide +kernel
def wX6_lieInHeap (l0 : Nat) (σ : kx_S) (Q : kx_S → Prop) : Prop := xt σ l0 = 8 ∧ ∀ σ2, σ2 = xsi σ 132 l0 2 → ∀ σ4, σ4 = xsi σ2 134 l0 (-1) → Q σ4
set_option maxRecDepth 100000 in
set_option maxHeartbeats 4000000 in
theorem hx_X6_lieInHeap (l : Launch) (G : kx_G) (l0 : Nat) (σ : kx_S) (Q : kx_S → Prop) (h : wX6_lieInHeap l0 σ Q) : kx_M l G yX6_lieInHeap cX6_lieInHeap 1 none (0) (0) [.ref l0] σ (kx_rv Q) := by
  refine kx_enter (by decide) rfl (Nat.le_of_ble_eq_true rfl) ?_
  intro p e s m below meth c ls F hr hlocks C hname hl
  have hl : lv_has ls 1 [(0, .ref l0)] := hl
  obtain ⟨H, eH⟩ : ∃ z9, z9 = s.heap := ⟨_, rfl⟩
  obtain ⟨locs, eL⟩ : ∃ z9 : List Loc, z9 = [] := ⟨_, rfl⟩
  rw [← eH, ← eL] at C
  rw [← eH, ← eL]
  obtain ⟨σ0, e0⟩ : ∃ z9, z9 = σ := ⟨_, rfl⟩
  have C : kx_X G (xc σ0) s H locs σ := by rw [e0]; exact C
  suffices hgo : kx_W p l e (0) (0) (xc σ0) s m ([.ref l0] : List Value).toArray below meth c H locs σ (MQ below (kx_Q G σ0 (kx_rv Q)) ([.ref l0] : List Value).toArray s (kx_N - xc σ0) (600 * (kx_N - xc σ0)) (kx_A G)) (F0 m 0 ls []) by rw [e0] at hgo; exact hgo
  clear e0
  refine lv_aload_n F.1 F.2.1 dX6_lieInHeap_0 rfl (lv_at hl 0 rfl) ?_
  refine lv_iconst (v := 2) F.1 F.2.1 dX6_lieInHeap_1 (by decide) ?_
  obtain ⟨ht1, h⟩ := h
  refine xp_X6_place (x := 2) F C ht1 ux_300 (fun _ h9 => h9) dX6_lieInHeap_2 (fun H locs C => ?_)
  generalize eσ2 : xsi σ 132 l0 2 = σ2 at C ⊢
  replace h := h σ2 eσ2.symm
  have ht3 : xt σ2 l0 = 8 := by rw [← eσ2]; exact ht1
  refine lv_aload_n F.1 F.2.1 dX6_lieInHeap_5 rfl (lv_at hl 0 rfl) ?_
  refine lv_iconst (v := (-1)) F.1 F.2.1 dX6_lieInHeap_6 (by decide) ?_
  refine xp_X6_cell (x := (-1)) F C ht3 ux_302 (fun _ h9 => h9) dX6_lieInHeap_7 (fun H locs C => ?_)
  generalize eσ4 : xsi σ2 134 l0 (-1) = σ4 at C ⊢
  replace h := h σ4 eσ4.symm
  have ht5 : xt σ4 l0 = 8 := by rw [← eσ4]; exact ht3
  exact kx_vret F C hr hlocks h dX6_lieInHeap_10
section
variable {p : Program} {l : Launch} {e : Env} {fr lo c0 : Nat} {s : State} {m : MethodId} {args : Array Value} {below : List Frame} {meth : Method} {c : Code} {H : Heap} {locs : List Loc} {Q : State → Prop}
variable {cc : ByteArray} {pc nL index : Nat} {ls : Array Slot} {rest : List Value} {G : kx_G} {σ : kx_S} {own : String}
theorem xk_X6_lieInHeap {P : kx_S → Prop} (F : CallFix p m c cc nL s args kt_ own) (C : kx_X G c0 s H locs σ) (l0 : Nat) (ha : xt σ l0 = 8) (h : wX6_lieInHeap l0 σ P) (hw : Cond.methodLink own index yX6_lieInHeap ∈ kt_) (h1 : (0) + 1 ≤ fr) (h2 : 8 + (1 + 11) + (0) ≤ lo) (hsz : ls.size = nL) (hW : (rest.map fun v => v.category).sum ≤ 8) (hdg : decode cc pc = .ok (.invokevirtual index, 3)) (kk : ∀ (u : kx_S) (H1 : Heap) (locs1 : List Loc), P u → kx_X G c0 s H1 locs1 u → kx_W p l e fr lo c0 s m args below meth c H1 locs1 u Q (F0 m (pc + 3) ls rest)) : kx_W p l e fr lo c0 s m args below meth c H locs σ Q (F0 m pc ls (.ref l0 :: rest)) :=
  kx_cV (n := 0) (As := []) (Cn := RX6) F C (hx_X6_lieInHeap l G l0 σ P h) (kt_V hw ux_310 ux_311 ux_70 ux_309) (by decide +kernel) ⟨h1, h2⟩ (kx_recv C (by rw [ha]; decide) (kx_e8 ha) rfl) rfl hsz hW hdg (fun v u H1 locs1 hP9 C9 => by obtain ⟨hv, hp⟩ := hP9; subst hv; exact kk u H1 locs1 hp C9)
end
theorem dX6_goToSea_0 : decode cX6_goToSea 0 = .ok (.aload_n 0, 1) := by decide +kernel
theorem dX6_goToSea_1 : decode cX6_goToSea 1 = .ok (.iconst 4, 1) := by decide +kernel
theorem dX6_goToSea_2 : decode cX6_goToSea 2 = .ok (.putfield 24, 3) := by decide +kernel
theorem dX6_goToSea_5 : decode cX6_goToSea 5 = .ok (.aload_n 0, 1) := by decide +kernel
theorem dX6_goToSea_6 : decode cX6_goToSea 6 = .ok (.iconst (-1), 1) := by decide +kernel
theorem dX6_goToSea_7 : decode cX6_goToSea 7 = .ok (.putfield 27, 3) := by decide +kernel
theorem dX6_goToSea_10 : decode cX6_goToSea 10 = .ok (.aload_n 0, 1) := by decide +kernel
theorem dX6_goToSea_11 : decode cX6_goToSea 11 = .ok (.iconst (-1), 1) := by decide +kernel
theorem dX6_goToSea_12 : decode cX6_goToSea 12 = .ok (.putfield 30, 3) := by decide +kernel
theorem dX6_goToSea_15 : decode cX6_goToSea 15 = .ok (.return_, 1) := by decide +kernel
def wX6_goToSea (l0 : Nat) (σ : kx_S) (Q : kx_S → Prop) : Prop := xt σ l0 = 8 ∧ ∀ σ2, σ2 = xsi σ 132 l0 4 → ∀ σ4, σ4 = xsi σ2 133 l0 (-1) → ∀ σ6, σ6 = xsi σ4 134 l0 (-1) → Q σ6
set_option maxRecDepth 100000 in
set_option maxHeartbeats 4000000 in
theorem hx_X6_goToSea (l : Launch) (G : kx_G) (l0 : Nat) (σ : kx_S) (Q : kx_S → Prop) (h : wX6_goToSea l0 σ Q) : kx_M l G yX6_goToSea cX6_goToSea 1 none (0) (0) [.ref l0] σ (kx_rv Q) := by
  refine kx_enter (by decide) rfl (Nat.le_of_ble_eq_true rfl) ?_
  intro p e s m below meth c ls F hr hlocks C hname hl
  have hl : lv_has ls 1 [(0, .ref l0)] := hl
  obtain ⟨H, eH⟩ : ∃ z9, z9 = s.heap := ⟨_, rfl⟩
  obtain ⟨locs, eL⟩ : ∃ z9 : List Loc, z9 = [] := ⟨_, rfl⟩
  rw [← eH, ← eL] at C
  rw [← eH, ← eL]
  obtain ⟨σ0, e0⟩ : ∃ z9, z9 = σ := ⟨_, rfl⟩
  have C : kx_X G (xc σ0) s H locs σ := by rw [e0]; exact C
  suffices hgo : kx_W p l e (0) (0) (xc σ0) s m ([.ref l0] : List Value).toArray below meth c H locs σ (MQ below (kx_Q G σ0 (kx_rv Q)) ([.ref l0] : List Value).toArray s (kx_N - xc σ0) (600 * (kx_N - xc σ0)) (kx_A G)) (F0 m 0 ls []) by rw [e0] at hgo; exact hgo
  clear e0
  refine lv_aload_n F.1 F.2.1 dX6_goToSea_0 rfl (lv_at hl 0 rfl) ?_
  refine lv_iconst (v := 4) F.1 F.2.1 dX6_goToSea_1 (by decide) ?_
  obtain ⟨ht1, h⟩ := h
  refine xp_X6_place (x := 4) F C ht1 ux_300 (fun _ h9 => h9) dX6_goToSea_2 (fun H locs C => ?_)
  generalize eσ2 : xsi σ 132 l0 4 = σ2 at C ⊢
  replace h := h σ2 eσ2.symm
  have ht3 : xt σ2 l0 = 8 := by rw [← eσ2]; exact ht1
  refine lv_aload_n F.1 F.2.1 dX6_goToSea_5 rfl (lv_at hl 0 rfl) ?_
  refine lv_iconst (v := (-1)) F.1 F.2.1 dX6_goToSea_6 (by decide) ?_
  refine xp_X6_reach (x := (-1)) F C ht3 ux_301 (fun _ h9 => h9) dX6_goToSea_7 (fun H locs C => ?_)
  generalize eσ4 : xsi σ2 133 l0 (-1) = σ4 at C ⊢
  replace h := h σ4 eσ4.symm
  have ht5 : xt σ4 l0 = 8 := by rw [← eσ4]; exact ht3
  refine lv_aload_n F.1 F.2.1 dX6_goToSea_10 rfl (lv_at hl 0 rfl) ?_
  refine lv_iconst (v := (-1)) F.1 F.2.1 dX6_goToSea_11 (by decide) ?_
  refine xp_X6_cell (x := (-1)) F C ht5 ux_302 (fun _ h9 => h9) dX6_goToSea_12 (fun H locs C => ?_)
  generalize eσ6 : xsi σ4 134 l0 (-1) = σ6 at C ⊢
  replace h := h σ6 eσ6.symm
  have ht7 : xt σ6 l0 = 8 := by rw [← eσ6]; exact ht5
  exact kx_vret F C hr hlocks h dX6_goToSea_15
section
variable {p : Program} {l : Launch} {e : Env} {fr lo c0 : Nat} {s : State} {m : MethodId} {args : Array Value} {below : List Frame} {meth : Method} {c : Code} {H : Heap} {locs : List Loc} {Q : State → Prop}
variable {cc : ByteArray} {pc nL index : Nat} {ls : Array Slot} {rest : List Value} {G : kx_G} {σ : kx_S} {own : String}
theorem xk_X6_goToSea {P : kx_S → Prop} (F : CallFix p m c cc nL s args kt_ own) (C : kx_X G c0 s H locs σ) (l0 : Nat) (ha : xt σ l0 = 8) (h : wX6_goToSea l0 σ P) (hw : Cond.methodLink own index yX6_goToSea ∈ kt_) (h1 : (0) + 1 ≤ fr) (h2 : 8 + (1 + 11) + (0) ≤ lo) (hsz : ls.size = nL) (hW : (rest.map fun v => v.category).sum ≤ 8) (hdg : decode cc pc = .ok (.invokevirtual index, 3)) (kk : ∀ (u : kx_S) (H1 : Heap) (locs1 : List Loc), P u → kx_X G c0 s H1 locs1 u → kx_W p l e fr lo c0 s m args below meth c H1 locs1 u Q (F0 m (pc + 3) ls rest)) : kx_W p l e fr lo c0 s m args below meth c H locs σ Q (F0 m pc ls (.ref l0 :: rest)) :=
  kx_cV (n := 0) (As := []) (Cn := RX6) F C (hx_X6_goToSea l G l0 σ P h) (kt_V hw ux_313 ux_314 ux_70 ux_312) (by decide +kernel) ⟨h1, h2⟩ (kx_recv C (by rw [ha]; decide) (kx_e8 ha) rfl) rfl hsz hW hdg (fun v u H1 locs1 hP9 C9 => by obtain ⟨hv, hp⟩ := hP9; subst hv; exact kk u H1 locs1 hp C9)
end
theorem dX6_becomeBoards_0 : decode cX6_becomeBoards 0 = .ok (.aload_n 0, 1) := by decide +kernel
theorem dX6_becomeBoards_1 : decode cX6_becomeBoards 1 = .ok (.iconst 3, 1) := by decide +kernel
theorem dX6_becomeBoards_2 : decode cX6_becomeBoards 2 = .ok (.putfield 24, 3) := by decide +kernel
theorem dX6_becomeBoards_5 : decode cX6_becomeBoards 5 = .ok (.aload_n 0, 1) := by decide +kernel
theorem dX6_becomeBoards_6 : decode cX6_becomeBoards 6 = .ok (.iload_n 1, 1) := by decide +kernel
theorem dX6_becomeBoards_7 : decode cX6_becomeBoards 7 = .ok (.putfield 33, 3) := by decide +kernel
theorem dX6_becomeBoards_10 : decode cX6_becomeBoards 10 = .ok (.return_, 1) := by decide +kernel
def wX6_becomeBoards (l0 : Nat) (l1 : Int32) (σ : kx_S) (Q : kx_S → Prop) : Prop := xt σ l0 = 8 ∧ ∀ σ2, σ2 = xsi σ 132 l0 3 → ∀ σ4, σ4 = xsi σ2 136 l0 l1 → Q σ4
set_option maxRecDepth 100000 in
set_option maxHeartbeats 4000000 in
theorem hx_X6_becomeBoards (l : Launch) (G : kx_G) (l0 : Nat) (l1 : Int32) (σ : kx_S) (Q : kx_S → Prop) (h : wX6_becomeBoards l0 l1 σ Q) : kx_M l G yX6_becomeBoards cX6_becomeBoards 2 none (0) (0) [.ref l0, .int l1] σ (kx_rv Q) := by
  refine kx_enter (by decide) rfl (Nat.le_of_ble_eq_true rfl) ?_
  intro p e s m below meth c ls F hr hlocks C hname hl
  have hl : lv_has ls 2 [(0, .ref l0), (1, .int l1)] := hl
  obtain ⟨H, eH⟩ : ∃ z9, z9 = s.heap := ⟨_, rfl⟩
  obtain ⟨locs, eL⟩ : ∃ z9 : List Loc, z9 = [] := ⟨_, rfl⟩
  rw [← eH, ← eL] at C
  rw [← eH, ← eL]
  obtain ⟨σ0, e0⟩ : ∃ z9, z9 = σ := ⟨_, rfl⟩
  have C : kx_X G (xc σ0) s H locs σ := by rw [e0]; exact C
  suffices hgo : kx_W p l e (0) (0) (xc σ0) s m ([.ref l0, .int l1] : List Value).toArray below meth c H locs σ (MQ below (kx_Q G σ0 (kx_rv Q)) ([.ref l0, .int l1] : List Value).toArray s (kx_N - xc σ0) (600 * (kx_N - xc σ0)) (kx_A G)) (F0 m 0 ls []) by rw [e0] at hgo; exact hgo
  clear e0
  refine lv_aload_n F.1 F.2.1 dX6_becomeBoards_0 rfl (lv_at hl 0 rfl) ?_
  refine lv_iconst (v := 3) F.1 F.2.1 dX6_becomeBoards_1 (by decide) ?_
  obtain ⟨ht1, h⟩ := h
  refine xp_X6_place (x := 3) F C ht1 ux_300 (fun _ h9 => h9) dX6_becomeBoards_2 (fun H locs C => ?_)
  generalize eσ2 : xsi σ 132 l0 3 = σ2 at C ⊢
  replace h := h σ2 eσ2.symm
  have ht3 : xt σ2 l0 = 8 := by rw [← eσ2]; exact ht1
  refine lv_aload_n F.1 F.2.1 dX6_becomeBoards_5 rfl (lv_at hl 0 rfl) ?_
  refine lv_iload_n F.1 F.2.1 dX6_becomeBoards_6 rfl (lv_at hl 1 rfl) ?_
  refine xp_X6_firstBoard (x := l1) F C ht3 ux_303 (fun _ h9 => h9) dX6_becomeBoards_7 (fun H locs C => ?_)
  generalize eσ4 : xsi σ2 136 l0 l1 = σ4 at C ⊢
  replace h := h σ4 eσ4.symm
  have ht5 : xt σ4 l0 = 8 := by rw [← eσ4]; exact ht3
  exact kx_vret F C hr hlocks h dX6_becomeBoards_10
section
variable {p : Program} {l : Launch} {e : Env} {fr lo c0 : Nat} {s : State} {m : MethodId} {args : Array Value} {below : List Frame} {meth : Method} {c : Code} {H : Heap} {locs : List Loc} {Q : State → Prop}
variable {cc : ByteArray} {pc nL index : Nat} {ls : Array Slot} {rest : List Value} {G : kx_G} {σ : kx_S} {own : String}
theorem xk_X6_becomeBoards {P : kx_S → Prop} (F : CallFix p m c cc nL s args kt_ own) (C : kx_X G c0 s H locs σ) (l0 : Nat) (l1 : Int32) (ha : xt σ l0 = 8) (h : wX6_becomeBoards l0 l1 σ P) (hw : Cond.methodLink own index yX6_becomeBoards ∈ kt_) (h1 : (0) + 1 ≤ fr) (h2 : 8 + (2 + 11) + (0) ≤ lo) (hsz : ls.size = nL) (hW : (rest.map fun v => v.category).sum ≤ 8) (hdg : decode cc pc = .ok (.invokevirtual index, 3)) (kk : ∀ (u : kx_S) (H1 : Heap) (locs1 : List Loc), P u → kx_X G c0 s H1 locs1 u → kx_W p l e fr lo c0 s m args below meth c H1 locs1 u Q (F0 m (pc + 3) ls rest)) : kx_W p l e fr lo c0 s m args below meth c H locs σ Q (F0 m pc ls (.int l1 :: .ref l0 :: rest)) :=
  kx_cV (n := 1) (As := [.int l1]) (Cn := RX6) F C (hx_X6_becomeBoards l G l0 l1 σ P h) (kt_V hw ux_316 ux_317 ux_70 ux_315) (by decide +kernel) ⟨h1, h2⟩ (kx_recv C (by rw [ha]; decide) (kx_e8 ha) rfl) rfl hsz hW hdg (fun v u H1 locs1 hP9 C9 => by obtain ⟨hv, hp⟩ := hP9; subst hv; exact kk u H1 locs1 hp C9)
end
theorem dX7_init_0 : decode cX7_init 0 = .ok (.aload_n 0, 1) := by decide +kernel
theorem dX7_init_1 : decode cX7_init 1 = .ok (.invokespecial 1, 3) := by decide +kernel
theorem dX7_init_4 : decode cX7_init 4 = .ok (.aload_n 0, 1) := by decide +kernel
theorem dX7_init_5 : decode cX7_init 5 = .ok (.iload_n 1, 1) := by decide +kernel
theorem dX7_init_6 : decode cX7_init 6 = .ok (.putfield 7, 3) := by decide +kernel
theorem dX7_init_9 : decode cX7_init 9 = .ok (.aload_n 0, 1) := by decide +kernel
theorem dX7_init_10 : decode cX7_init 10 = .ok (.iload_n 2, 1) := by decide +kernel
theorem dX7_init_11 : decode cX7_init 11 = .ok (.putfield 13, 3) := by decide +kernel
theorem dX7_init_14 : decode cX7_init 14 = .ok (.aload_n 0, 1) := by decide +kernel
theorem dX7_init_15 : decode cX7_init 15 = .ok (.iload_n 3, 1) := by decide +kernel
theorem dX7_init_16 : decode cX7_init 16 = .ok (.putfield 16, 3) := by decide +kernel
theorem dX7_init_19 : decode cX7_init 19 = .ok (.return_, 1) := by decide +kernel
def wX7_init (l0 : Nat) (l1 : Int32) (l2 : Int32) (l3 : Int32) (σ : kx_S) (Q : kx_S → Prop) : Prop := xt σ l0 = 9 ∧ ∀ σ2, σ2 = xsi σ 144 l0 l1 → ∀ σ4, σ4 = xsi σ2 145 l0 l2 → ∀ σ6, σ6 = xsi σ4 146 l0 l3 → Q σ6
set_option maxRecDepth 100000 in
set_option maxHeartbeats 4000000 in
theorem hx_X7_init (l : Launch) (G : kx_G) (l0 : Nat) (l1 : Int32) (l2 : Int32) (l3 : Int32) (σ : kx_S) (Q : kx_S → Prop) (h : wX7_init l0 l1 l2 l3 σ Q) : kx_M l G yX7_init cX7_init 4 none (1) (12) [.ref l0, .int l1, .int l2, .int l3] σ (kx_rv Q) := by
  refine kx_enter (by decide) rfl (Nat.le_of_ble_eq_true rfl) ?_
  intro p e s m below meth c ls F hr hlocks C hname hl
  have hini : meth.name = "<init>" := hname
  have hl : lv_has ls 4 [(0, .ref l0), (1, .int l1), (2, .int l2), (3, .int l3)] := hl
  obtain ⟨H, eH⟩ : ∃ z9, z9 = s.heap := ⟨_, rfl⟩
  obtain ⟨locs, eL⟩ : ∃ z9 : List Loc, z9 = [] := ⟨_, rfl⟩
  rw [← eH, ← eL] at C
  rw [← eH, ← eL]
  obtain ⟨σ0, e0⟩ : ∃ z9, z9 = σ := ⟨_, rfl⟩
  have C : kx_X G (xc σ0) s H locs σ := by rw [e0]; exact C
  suffices hgo : kx_W p l e (1) (12) (xc σ0) s m ([.ref l0, .int l1, .int l2, .int l3] : List Value).toArray below meth c H locs σ (MQ below (kx_Q G σ0 (kx_rv Q)) ([.ref l0, .int l1, .int l2, .int l3] : List Value).toArray s (kx_N - xc σ0) (600 * (kx_N - xc σ0)) (kx_A G)) (F0 m 0 ls []) by rw [e0] at hgo; exact hgo
  clear e0
  refine lv_aload_n F.1 F.2.1 dX7_init_0 rfl (lv_at hl 0 rfl) ?_
  refine kx_objI F ux_318 hl.1 (Nat.le_of_ble_eq_true rfl) (by simp [Value.category]) dX7_init_1 ?_
  refine lv_aload_n F.1 F.2.1 dX7_init_4 rfl (lv_at hl 0 rfl) ?_
  refine lv_iload_n F.1 F.2.1 dX7_init_5 rfl (lv_at hl 1 rfl) ?_
  obtain ⟨ht1, h⟩ := h
  refine xp_X7_mark (x := l1) F C ht1 ux_319 (fun _ h9 => h9) hini rfl dX7_init_6 (fun H locs C => ?_)
  generalize eσ2 : xsi σ 144 l0 l1 = σ2 at C ⊢
  replace h := h σ2 eσ2.symm
  have ht3 : xt σ2 l0 = 9 := by rw [← eσ2]; exact ht1
  refine lv_aload_n F.1 F.2.1 dX7_init_9 rfl (lv_at hl 0 rfl) ?_
  refine lv_iload_n F.1 F.2.1 dX7_init_10 rfl (lv_at hl 2 rfl) ?_
  refine xp_X7_size (x := l2) F C ht3 ux_320 (fun _ h9 => h9) hini rfl dX7_init_11 (fun H locs C => ?_)
  generalize eσ4 : xsi σ2 145 l0 l2 = σ4 at C ⊢
  replace h := h σ4 eσ4.symm
  have ht5 : xt σ4 l0 = 9 := by rw [← eσ4]; exact ht3
  refine lv_aload_n F.1 F.2.1 dX7_init_14 rfl (lv_at hl 0 rfl) ?_
  refine lv_iload_n F.1 F.2.1 dX7_init_15 rfl (lv_at hl 3 rfl) ?_
  refine xp_X7_wanted (x := l3) F C ht5 ux_321 (fun _ h9 => h9) dX7_init_16 (fun H locs C => ?_)
  generalize eσ6 : xsi σ4 146 l0 l3 = σ6 at C ⊢
  replace h := h σ6 eσ6.symm
  have ht7 : xt σ6 l0 = 9 := by rw [← eσ6]; exact ht5
  exact kx_vret F C hr hlocks h dX7_init_19
section
variable {p : Program} {l : Launch} {e : Env} {fr lo c0 : Nat} {s : State} {m : MethodId} {args : Array Value} {below : List Frame} {meth : Method} {c : Code} {H : Heap} {locs : List Loc} {Q : State → Prop}
variable {cc : ByteArray} {pc nL index : Nat} {ls : Array Slot} {rest : List Value} {G : kx_G} {σ : kx_S} {own : String}
theorem xk_X7_init {P : kx_S → Prop} (F : CallFix p m c cc nL s args kt_ own) (C : kx_X G c0 s H locs σ) (l0 : Nat) (l1 : Int32) (l2 : Int32) (l3 : Int32) (h : wX7_init l0 l1 l2 l3 σ P) (hw : Cond.methodLink own index yX7_init ∈ kt_) (h1 : (1) + 1 ≤ fr) (h2 : 8 + (4 + 11) + (12) ≤ lo) (hsz : ls.size = nL) (hW : (rest.map fun v => v.category).sum ≤ 8) (hdg : decode cc pc = .ok (.invokespecial index, 3)) (kk : ∀ (u : kx_S) (H1 : Heap) (locs1 : List Loc), P u → kx_X G c0 s H1 locs1 u → kx_W p l e fr lo c0 s m args below meth c H1 locs1 u Q (F0 m (pc + 3) ls rest)) : kx_W p l e fr lo c0 s m args below meth c H locs σ Q (F0 m pc ls (.int l3 :: .int l2 :: .int l1 :: .ref l0 :: rest)) :=
  kx_cI (n := 3) (As := [.int l1, .int l2, .int l3]) F C (hx_X7_init l G l0 l1 l2 l3 σ P h) ux_322 ux_75 hw ux_323 rfl (by decide +kernel) ⟨h1, h2⟩ rfl hsz hW hdg (fun v u H1 locs1 hP9 C9 => by obtain ⟨hv, hp⟩ := hP9; subst hv; exact kk u H1 locs1 hp C9)
end
theorem dX8_init_0 : decode cX8_init 0 = .ok (.aload_n 0, 1) := by decide +kernel
theorem dX8_init_1 : decode cX8_init 1 = .ok (.invokespecial 1, 3) := by decide +kernel
theorem dX8_init_4 : decode cX8_init 4 = .ok (.aload_n 0, 1) := by decide +kernel
theorem dX8_init_5 : decode cX8_init 5 = .ok (.iload_n 1, 1) := by decide +kernel
theorem dX8_init_6 : decode cX8_init 6 = .ok (.putfield 7, 3) := by decide +kernel
theorem dX8_init_9 : decode cX8_init 9 = .ok (.aload_n 0, 1) := by decide +kernel
theorem dX8_init_10 : decode cX8_init 10 = .ok (.aload_n 2, 1) := by decide +kernel
theorem dX8_init_11 : decode cX8_init 11 = .ok (.putfield 13, 3) := by decide +kernel
theorem dX8_init_14 : decode cX8_init 14 = .ok (.aload_n 0, 1) := by decide +kernel
theorem dX8_init_15 : decode cX8_init 15 = .ok (.iload_n 3, 1) := by decide +kernel
theorem dX8_init_16 : decode cX8_init 16 = .ok (.putfield 17, 3) := by decide +kernel
theorem dX8_init_19 : decode cX8_init 19 = .ok (.aload_n 0, 1) := by decide +kernel
theorem dX8_init_20 : decode cX8_init 20 = .ok (.new 20, 3) := by decide +kernel
theorem dX8_init_23 : decode cX8_init 23 = .ok (.dup, 1) := by decide +kernel
theorem dX8_init_24 : decode cX8_init 24 = .ok (.invokespecial 22, 3) := by decide +kernel
theorem dX8_init_27 : decode cX8_init 27 = .ok (.putfield 23, 3) := by decide +kernel
theorem dX8_init_30 : decode cX8_init 30 = .ok (.return_, 1) := by decide +kernel
def wX8_init (l0 : Nat) (l1 : Int32) (l2 : Option Nat) (l3 : Int32) (σ : kx_S) (Q : kx_S → Prop) : Prop := xt σ l0 = 10 ∧ ∀ σ2, σ2 = xsi σ 160 l0 l1 → ∀ σ4, σ4 = xsr σ2 161 l0 l2 → ∀ σ6, σ6 = xsi σ4 162 l0 l3 → xc σ6 < kx_N ∧ ∀ p9, xt σ6 p9 = 0 → p9 ≠ xz σ6 → ∀ σ12, σ12 = xnew σ6 p9 1 → wJx4a65c_init_da8c8 p9 σ12 (fun σ14 => xt σ14 l0 = 10 ∧ ∀ σ16, σ16 = xsr σ14 163 l0 (some p9) → Q σ16)
set_option maxRecDepth 100000 in
set_option maxHeartbeats 4000000 in
theorem hx_X8_init (l : Launch) (G : kx_G) (l0 : Nat) (l1 : Int32) (l2 : Option Nat) (l3 : Int32) (σ : kx_S) (Q : kx_S → Prop) (h : wX8_init l0 l1 l2 l3 σ Q) : kx_M l G yX8_init cX8_init 4 none (4) (72) [.ref l0, .int l1, va_rf l2, .int l3] σ (kx_rv Q) := by
  refine kx_enter (by decide) rfl (by simp only [lg_sl, List.flatMap_cons, List.flatMap_nil]; cases l2 <;> exact Nat.le_of_ble_eq_true rfl) ?_
  intro p e s m below meth c ls F hr hlocks C hname hl
  have hini : meth.name = "<init>" := hname
  have hl : lv_has ls 4 [(0, .ref l0), (1, .int l1), (2, va_rf l2), (3, .int l3)] := (by cases l2 <;> exact hl)
  obtain ⟨H, eH⟩ : ∃ z9, z9 = s.heap := ⟨_, rfl⟩
  obtain ⟨locs, eL⟩ : ∃ z9 : List Loc, z9 = [] := ⟨_, rfl⟩
  rw [← eH, ← eL] at C
  rw [← eH, ← eL]
  obtain ⟨σ0, e0⟩ : ∃ z9, z9 = σ := ⟨_, rfl⟩
  have C : kx_X G (xc σ0) s H locs σ := by rw [e0]; exact C
  suffices hgo : kx_W p l e (4) (72) (xc σ0) s m ([.ref l0, .int l1, va_rf l2, .int l3] : List Value).toArray below meth c H locs σ (MQ below (kx_Q G σ0 (kx_rv Q)) ([.ref l0, .int l1, va_rf l2, .int l3] : List Value).toArray s (kx_N - xc σ0) (600 * (kx_N - xc σ0)) (kx_A G)) (F0 m 0 ls []) by rw [e0] at hgo; exact hgo
  clear e0
  refine lv_aload_n F.1 F.2.1 dX8_init_0 rfl (lv_at hl 0 rfl) ?_
  refine kx_objI F ux_324 hl.1 (Nat.le_of_ble_eq_true rfl) (by simp [Value.category]) dX8_init_1 ?_
  refine lv_aload_n F.1 F.2.1 dX8_init_4 rfl (lv_at hl 0 rfl) ?_
  refine lv_iload_n F.1 F.2.1 dX8_init_5 rfl (lv_at hl 1 rfl) ?_
  obtain ⟨ht1, h⟩ := h
  refine xp_X8_number (x := l1) F C ht1 ux_325 (fun _ h9 => h9) hini rfl dX8_init_6 (fun H locs C => ?_)
  generalize eσ2 : xsi σ 160 l0 l1 = σ2 at C ⊢
  replace h := h σ2 eσ2.symm
  have ht3 : xt σ2 l0 = 10 := by rw [← eσ2]; exact ht1
  refine lv_aload_n F.1 F.2.1 dX8_init_9 rfl (lv_at hl 0 rfl) ?_
  refine xq_aload_n F.1 F.2.1 dX8_init_10 rfl (lv_at hl 2 rfl) ?_
  refine xp_X8_below (x := l2) F C ht3 ux_326 (fun _ h9 => h9) hini rfl dX8_init_11 (fun H locs C => ?_)
  generalize eσ4 : xsr σ2 161 l0 l2 = σ4 at C ⊢
  replace h := h σ4 eσ4.symm
  have ht5 : xt σ4 l0 = 10 := by rw [← eσ4]; exact ht3
  refine lv_aload_n F.1 F.2.1 dX8_init_14 rfl (lv_at hl 0 rfl) ?_
  refine lv_iload_n F.1 F.2.1 dX8_init_15 rfl (lv_at hl 3 rfl) ?_
  refine xp_X8_jam (x := l3) F C ht5 ux_327 (fun _ h9 => h9) hini rfl dX8_init_16 (fun H locs C => ?_)
  generalize eσ6 : xsi σ4 162 l0 l3 = σ6 at C ⊢
  replace h := h σ6 eσ6.symm
  have ht7 : xt σ6 l0 = 10 := by rw [← eσ6]; exact ht5
  refine lv_aload_n F.1 F.2.1 dX8_init_19 rfl (lv_at hl 0 rfl) ?_
  obtain ⟨hn8, h⟩ := h
  refine xw_Jx4a65c F C hn8 ux_328 dX8_init_20 (fun p9 H z10 z11 C => ?_)
  replace h := h p9 z10 (fun h9 => z11 (h9.trans (show xz σ6 = _ from C.2.1.1)))
  generalize eσ12 : xnew σ6 p9 1 = σ12 at C ⊢
  replace h := h σ12 eσ12.symm
  have ht13 : xt σ12 p9 = 1 := by rw [← eσ12]; exact va_up_self _ _ _
  refine lv_dup F.1 F.2.1 dX8_init_23 rfl ?_
  refine xk_Jx4a65c_init_da8c8 F C p9 h ux_329 (Nat.le_of_ble_eq_true rfl) (Nat.le_of_ble_eq_true rfl) hl.1 (by simp [Value.category]) dX8_init_24 (fun σ14 H locs h C => ?_)
  obtain ⟨ht15, h⟩ := h
  refine xp_X8_cells (x := some p9) F C ht15 ux_330 (fun _ h9 => h9) hini rfl dX8_init_27 (fun H locs C => ?_)
  generalize eσ16 : xsr σ14 163 l0 (some p9) = σ16 at C ⊢
  replace h := h σ16 eσ16.symm
  have ht17 : xt σ16 l0 = 10 := by rw [← eσ16]; exact ht15
  exact kx_vret F C hr hlocks h dX8_init_30
section
variable {p : Program} {l : Launch} {e : Env} {fr lo c0 : Nat} {s : State} {m : MethodId} {args : Array Value} {below : List Frame} {meth : Method} {c : Code} {H : Heap} {locs : List Loc} {Q : State → Prop}
variable {cc : ByteArray} {pc nL index : Nat} {ls : Array Slot} {rest : List Value} {G : kx_G} {σ : kx_S} {own : String}
theorem xk_X8_init {P : kx_S → Prop} (F : CallFix p m c cc nL s args kt_ own) (C : kx_X G c0 s H locs σ) (l0 : Nat) (l1 : Int32) (l2 : Option Nat) (l3 : Int32) (h : wX8_init l0 l1 l2 l3 σ P) (hw : Cond.methodLink own index yX8_init ∈ kt_) (h1 : (4) + 1 ≤ fr) (h2 : 8 + (4 + 11) + (72) ≤ lo) (hsz : ls.size = nL) (hW : (rest.map fun v => v.category).sum ≤ 8) (hdg : decode cc pc = .ok (.invokespecial index, 3)) (kk : ∀ (u : kx_S) (H1 : Heap) (locs1 : List Loc), P u → kx_X G c0 s H1 locs1 u → kx_W p l e fr lo c0 s m args below meth c H1 locs1 u Q (F0 m (pc + 3) ls rest)) : kx_W p l e fr lo c0 s m args below meth c H locs σ Q (F0 m pc ls (.int l3 :: va_rf l2 :: .int l1 :: .ref l0 :: rest)) :=
  kx_cI (n := 3) (As := [.int l1, va_rf l2, .int l3]) F C (hx_X8_init l G l0 l1 l2 l3 σ P h) ux_331 ux_90 hw ux_332 rfl (by decide +kernel) ⟨h1, h2⟩ rfl hsz hW hdg (fun v u H1 locs1 hP9 C9 => by obtain ⟨hv, hp⟩ := hP9; subst hv; exact kk u H1 locs1 hp C9)
end
theorem dX8_passWater_0 : decode cX8_passWater 0 = .ok (.aload_n 0, 1) := by decide +kernel
theorem dX8_passWater_1 : decode cX8_passWater 1 = .ok (.getfield 27, 3) := by decide +kernel
theorem dX8_passWater_4 : decode cX8_passWater 4 = .ok (.ifCond .ne 12, 3) := by decide +kernel
theorem dX8_passWater_7 : decode cX8_passWater 7 = .ok (.aload_n 0, 1) := by decide +kernel
theorem dX8_passWater_8 : decode cX8_passWater 8 = .ok (.aload_n 0, 1) := by decide +kernel
theorem dX8_passWater_9 : decode cX8_passWater 9 = .ok (.getfield 31, 3) := by decide +kernel
theorem dX8_passWater_12 : decode cX8_passWater 12 = .ok (.putfield 34, 3) := by decide +kernel
theorem dX8_passWater_15 : decode cX8_passWater 15 = .ok (.return_, 1) := by decide +kernel
theorem dX8_passWater_16 : decode cX8_passWater 16 = .ok (.aload_n 0, 1) := by decide +kernel
theorem dX8_passWater_17 : decode cX8_passWater 17 = .ok (.dup, 1) := by decide +kernel
theorem dX8_passWater_18 : decode cX8_passWater 18 = .ok (.getfield 37, 3) := by decide +kernel
theorem dX8_passWater_21 : decode cX8_passWater 21 = .ok (.aload_n 0, 1) := by decide +kernel
theorem dX8_passWater_22 : decode cX8_passWater 22 = .ok (.getfield 31, 3) := by decide +kernel
theorem dX8_passWater_25 : decode cX8_passWater 25 = .ok (.iadd, 1) := by decide +kernel
theorem dX8_passWater_26 : decode cX8_passWater 26 = .ok (.putfield 37, 3) := by decide +kernel
theorem dX8_passWater_29 : decode cX8_passWater 29 = .ok (.aload_n 0, 1) := by decide +kernel
theorem dX8_passWater_30 : decode cX8_passWater 30 = .ok (.getfield 37, 3) := by decide +kernel
theorem dX8_passWater_33 : decode cX8_passWater 33 = .ok (.aload_n 0, 1) := by decide +kernel
theorem dX8_passWater_34 : decode cX8_passWater 34 = .ok (.getfield 40, 3) := by decide +kernel
theorem dX8_passWater_37 : decode cX8_passWater 37 = .ok (.isub, 1) := by decide +kernel
theorem dX8_passWater_38 : decode cX8_passWater 38 = .ok (.iconst 0, 1) := by decide +kernel
theorem dX8_passWater_39 : decode cX8_passWater 39 = .ok (.invokestatic 43, 3) := by decide +kernel
theorem dX8_passWater_42 : decode cX8_passWater 42 = .ok (.istore_n 1, 1) := by decide +kernel
theorem dX8_passWater_43 : decode cX8_passWater 43 = .ok (.aload_n 0, 1) := by decide +kernel
theorem dX8_passWater_44 : decode cX8_passWater 44 = .ok (.iload_n 1, 1) := by decide +kernel
theorem dX8_passWater_45 : decode cX8_passWater 45 = .ok (.aload_n 0, 1) := by decide +kernel
theorem dX8_passWater_46 : decode cX8_passWater 46 = .ok (.getfield 49, 3) := by decide +kernel
theorem dX8_passWater_49 : decode cX8_passWater 49 = .ok (.aload_n 0, 1) := by decide +kernel
theorem dX8_passWater_50 : decode cX8_passWater 50 = .ok (.getfield 37, 3) := by decide +kernel
theorem dX8_passWater_53 : decode cX8_passWater 53 = .ok (.iload_n 1, 1) := by decide +kernel
theorem dX8_passWater_54 : decode cX8_passWater 54 = .ok (.isub, 1) := by decide +kernel
theorem dX8_passWater_55 : decode cX8_passWater 55 = .ok (.invokestatic 52, 3) := by decide +kernel
theorem dX8_passWater_58 : decode cX8_passWater 58 = .ok (.iadd, 1) := by decide +kernel
theorem dX8_passWater_59 : decode cX8_passWater 59 = .ok (.putfield 34, 3) := by decide +kernel
theorem dX8_passWater_62 : decode cX8_passWater 62 = .ok (.aload_n 0, 1) := by decide +kernel
theorem dX8_passWater_63 : decode cX8_passWater 63 = .ok (.dup, 1) := by decide +kernel
theorem dX8_passWater_64 : decode cX8_passWater 64 = .ok (.getfield 37, 3) := by decide +kernel
theorem dX8_passWater_67 : decode cX8_passWater 67 = .ok (.aload_n 0, 1) := by decide +kernel
theorem dX8_passWater_68 : decode cX8_passWater 68 = .ok (.getfield 34, 3) := by decide +kernel
theorem dX8_passWater_71 : decode cX8_passWater 71 = .ok (.isub, 1) := by decide +kernel
theorem dX8_passWater_72 : decode cX8_passWater 72 = .ok (.putfield 37, 3) := by decide +kernel
theorem dX8_passWater_75 : decode cX8_passWater 75 = .ok (.return_, 1) := by decide +kernel
def wX8_passWater (l0 : Nat) (σ : kx_S) (Q : kx_S → Prop) : Prop := xt σ l0 = 10 ∧ ((¬ (xi σ 165 l0) = 0 → ∀ σ3, σ3 = xsi σ 167 l0 ((xi σ 167 l0) + (xi σ 169 l0)) → ∀ v5, v5 = (if ((xi σ3 167 l0) - (xi σ3 166 l0)) < 0 then 0 else ((xi σ3 167 l0) - (xi σ3 166 l0))) → ∀ v6, v6 = (if ((xi σ3 167 l0) - v5) < (xi σ3 168 l0) then ((xi σ3 167 l0) - v5) else (xi σ3 168 l0)) → ∀ σ7, σ7 = xsi σ3 170 l0 (v5 + v6) → ∀ σ9, σ9 = xsi σ7 167 l0 ((xi σ7 167 l0) - (xi σ7 170 l0)) → Q σ9) ∧
  ((xi σ 165 l0) = 0 → ∀ σ11, σ11 = xsi σ 170 l0 (xi σ 169 l0) → Q σ11))
set_option maxRecDepth 100000 in
set_option maxHeartbeats 4000000 in
theorem hx_X8_passWater (l : Launch) (G : kx_G) (l0 : Nat) (σ : kx_S) (Q : kx_S → Prop) (h : wX8_passWater l0 σ Q) : kx_M l G yX8_passWater cX8_passWater 2 none (1) (15) [.ref l0] σ (kx_rv Q) := by
  refine kx_enter (by decide) rfl (Nat.le_of_ble_eq_true rfl) ?_
  intro p e s m below meth c ls F hr hlocks C hname hl
  have hl : lv_has ls 2 [(0, .ref l0)] := hl
  obtain ⟨H, eH⟩ : ∃ z9, z9 = s.heap := ⟨_, rfl⟩
  obtain ⟨locs, eL⟩ : ∃ z9 : List Loc, z9 = [] := ⟨_, rfl⟩
  rw [← eH, ← eL] at C
  rw [← eH, ← eL]
  obtain ⟨σ0, e0⟩ : ∃ z9, z9 = σ := ⟨_, rfl⟩
  have C : kx_X G (xc σ0) s H locs σ := by rw [e0]; exact C
  suffices hgo : kx_W p l e (1) (15) (xc σ0) s m ([.ref l0] : List Value).toArray below meth c H locs σ (MQ below (kx_Q G σ0 (kx_rv Q)) ([.ref l0] : List Value).toArray s (kx_N - xc σ0) (600 * (kx_N - xc σ0)) (kx_A G)) (F0 m 0 ls []) by rw [e0] at hgo; exact hgo
  clear e0
  refine lv_aload_n F.1 F.2.1 dX8_passWater_0 rfl (lv_at hl 0 rfl) ?_
  obtain ⟨ht1, h⟩ := h
  refine xg_X8_dammed F C ht1 ux_333 (fun _ h9 => h9) dX8_passWater_1 ?_
  refine lv_if_ne (tgt := 16) F.1 F.2.1 dX8_passWater_4 (by decide) (fun c2 => ?_) (fun c2 => ?_)
  · replace h := h.1 c2
    refine lv_aload_n F.1 F.2.1 dX8_passWater_16 rfl (lv_at hl 0 rfl) ?_
    refine lv_dup F.1 F.2.1 dX8_passWater_17 rfl ?_
    refine xg_X8_store F C ht1 ux_334 (fun _ h9 => h9) dX8_passWater_18 ?_
    refine lv_aload_n F.1 F.2.1 dX8_passWater_21 rfl (lv_at hl 0 rfl) ?_
    refine xg_X8_flow F C ht1 ux_335 (fun _ h9 => h9) dX8_passWater_22 ?_
    refine lv_iadd (x := xi σ 167 l0) (y := xi σ 169 l0) F.1 F.2.1 dX8_passWater_25 ?_
    refine xp_X8_store (x := (xi σ 167 l0) + (xi σ 169 l0)) F C ht1 ux_334 (fun _ h9 => h9) dX8_passWater_26 (fun H locs C => ?_)
    generalize eσ3 : xsi σ 167 l0 ((xi σ 167 l0) + (xi σ 169 l0)) = σ3 at C ⊢
    replace h := h σ3 eσ3.symm
    have ht4 : xt σ3 l0 = 10 := by rw [← eσ3]; exact ht1
    refine lv_aload_n F.1 F.2.1 dX8_passWater_29 rfl (lv_at hl 0 rfl) ?_
    refine xg_X8_store F C ht4 ux_334 (fun _ h9 => h9) dX8_passWater_30 ?_
    refine lv_aload_n F.1 F.2.1 dX8_passWater_33 rfl (lv_at hl 0 rfl) ?_
    refine xg_X8_room F C ht4 ux_336 (fun _ h9 => h9) dX8_passWater_34 ?_
    refine lv_isub (x := xi σ3 167 l0) (y := xi σ3 166 l0) F.1 F.2.1 dX8_passWater_37 ?_
    refine lv_iconst (v := 0) F.1 F.2.1 dX8_passWater_38 (by decide) ?_
    refine kx_max F C ux_337 (Nat.le_of_ble_eq_true rfl) (by simp [Value.category]) hl.1 dX8_passWater_39 ?_
    refine lv_topi (fun v5 ev5 => ?_)
    replace h := h v5 ev5
    refine lv_istore_n (lv' := [(1, .int v5), (0, .ref l0)]) F.1 F.2.1 dX8_passWater_42 rfl hl (by decide) rfl (fun ls hl => ?_)
    refine lv_aload_n F.1 F.2.1 dX8_passWater_43 rfl (lv_at hl 1 rfl) ?_
    refine lv_iload_n F.1 F.2.1 dX8_passWater_44 rfl (lv_at hl 0 rfl) ?_
    refine lv_aload_n F.1 F.2.1 dX8_passWater_45 rfl (lv_at hl 1 rfl) ?_
    refine xg_X8_gate F C ht4 ux_338 (fun _ h9 => h9) dX8_passWater_46 ?_
    refine lv_aload_n F.1 F.2.1 dX8_passWater_49 rfl (lv_at hl 1 rfl) ?_
    refine xg_X8_store F C ht4 ux_334 (fun _ h9 => h9) dX8_passWater_50 ?_
    refine lv_iload_n F.1 F.2.1 dX8_passWater_53 rfl (lv_at hl 0 rfl) ?_
    refine lv_isub (x := xi σ3 167 l0) (y := v5) F.1 F.2.1 dX8_passWater_54 ?_
    refine kx_min F C ux_339 (Nat.le_of_ble_eq_true rfl) (by simp [Value.category]) hl.1 dX8_passWater_55 ?_
    refine lv_topi (fun v6 ev6 => ?_)
    replace h := h v6 ev6
    refine lv_iadd (x := v5) (y := v6) F.1 F.2.1 dX8_passWater_58 ?_
    refine xp_X8_out (x := v5 + v6) F C ht4 ux_340 (fun _ h9 => h9) dX8_passWater_59 (fun H locs C => ?_)
    generalize eσ7 : xsi σ3 170 l0 (v5 + v6) = σ7 at C ⊢
    replace h := h σ7 eσ7.symm
    have ht8 : xt σ7 l0 = 10 := by rw [← eσ7]; exact ht4
    refine lv_aload_n F.1 F.2.1 dX8_passWater_62 rfl (lv_at hl 1 rfl) ?_
    refine lv_dup F.1 F.2.1 dX8_passWater_63 rfl ?_
    refine xg_X8_store F C ht8 ux_334 (fun _ h9 => h9) dX8_passWater_64 ?_
    refine lv_aload_n F.1 F.2.1 dX8_passWater_67 rfl (lv_at hl 1 rfl) ?_
    refine xg_X8_out F C ht8 ux_340 (fun _ h9 => h9) dX8_passWater_68 ?_
    refine lv_isub (x := xi σ7 167 l0) (y := xi σ7 170 l0) F.1 F.2.1 dX8_passWater_71 ?_
    refine xp_X8_store (x := (xi σ7 167 l0) - (xi σ7 170 l0)) F C ht8 ux_334 (fun _ h9 => h9) dX8_passWater_72 (fun H locs C => ?_)
    generalize eσ9 : xsi σ7 167 l0 ((xi σ7 167 l0) - (xi σ7 170 l0)) = σ9 at C ⊢
    replace h := h σ9 eσ9.symm
    have ht10 : xt σ9 l0 = 10 := by rw [← eσ9]; exact ht8
    exact kx_vret F C hr hlocks h dX8_passWater_75
  · replace h := h.2 c2
    refine lv_aload_n F.1 F.2.1 dX8_passWater_7 rfl (lv_at hl 0 rfl) ?_
    refine lv_aload_n F.1 F.2.1 dX8_passWater_8 rfl (lv_at hl 0 rfl) ?_
    refine xg_X8_flow F C ht1 ux_335 (fun _ h9 => h9) dX8_passWater_9 ?_
    refine xp_X8_out (x := xi σ 169 l0) F C ht1 ux_340 (fun _ h9 => h9) dX8_passWater_12 (fun H locs C => ?_)
    generalize eσ11 : xsi σ 170 l0 (xi σ 169 l0) = σ11 at C ⊢
    replace h := h σ11 eσ11.symm
    have ht12 : xt σ11 l0 = 10 := by rw [← eσ11]; exact ht1
    exact kx_vret F C hr hlocks h dX8_passWater_15
section
variable {p : Program} {l : Launch} {e : Env} {fr lo c0 : Nat} {s : State} {m : MethodId} {args : Array Value} {below : List Frame} {meth : Method} {c : Code} {H : Heap} {locs : List Loc} {Q : State → Prop}
variable {cc : ByteArray} {pc nL index : Nat} {ls : Array Slot} {rest : List Value} {G : kx_G} {σ : kx_S} {own : String}
theorem xk_X8_passWater {P : kx_S → Prop} (F : CallFix p m c cc nL s args kt_ own) (C : kx_X G c0 s H locs σ) (l0 : Nat) (ha : xt σ l0 = 10) (h : wX8_passWater l0 σ P) (hw : Cond.methodLink own index yX8_passWater ∈ kt_) (h1 : (1) + 1 ≤ fr) (h2 : 8 + (2 + 11) + (15) ≤ lo) (hsz : ls.size = nL) (hW : (rest.map fun v => v.category).sum ≤ 8) (hdg : decode cc pc = .ok (.invokevirtual index, 3)) (kk : ∀ (u : kx_S) (H1 : Heap) (locs1 : List Loc), P u → kx_X G c0 s H1 locs1 u → kx_W p l e fr lo c0 s m args below meth c H1 locs1 u Q (F0 m (pc + 3) ls rest)) : kx_W p l e fr lo c0 s m args below meth c H locs σ Q (F0 m pc ls (.ref l0 :: rest)) :=
  kx_cV (n := 0) (As := []) (Cn := RX8) F C (hx_X8_passWater l G l0 σ P h) (kt_V hw ux_342 ux_343 ux_90 ux_341) (by decide +kernel) ⟨h1, h2⟩ (kx_recv C (by rw [ha]; decide) (kx_e10 ha) rfl) rfl hsz hW hdg (fun v u H1 locs1 hP9 C9 => by obtain ⟨hv, hp⟩ := hP9; subst hv; exact kk u H1 locs1 hp C9)
end
theorem dX8_canTake_0 : decode cX8_canTake 0 = .ok (.iload_n 1, 1) := by decide +kernel
theorem dX8_canTake_1 : decode cX8_canTake 1 = .ok (.ifCond .lt 16, 3) := by decide +kernel
theorem dX8_canTake_4 : decode cX8_canTake 4 = .ok (.iload_n 1, 1) := by decide +kernel
theorem dX8_canTake_5 : decode cX8_canTake 5 = .ok (.aload_n 0, 1) := by decide +kernel
theorem dX8_canTake_6 : decode cX8_canTake 6 = .ok (.getfield 23, 3) := by decide +kernel
theorem dX8_canTake_9 : decode cX8_canTake 9 = .ok (.invokeinterface 55 1, 5) := by decide +kernel
theorem dX8_canTake_14 : decode cX8_canTake 14 = .ok (.if_icmp .lt 5, 3) := by decide +kernel
theorem dX8_canTake_17 : decode cX8_canTake 17 = .ok (.iconst 0, 1) := by decide +kernel
theorem dX8_canTake_18 : decode cX8_canTake 18 = .ok (.ireturn, 1) := by decide +kernel
theorem dX8_canTake_19 : decode cX8_canTake 19 = .ok (.aload_n 0, 1) := by decide +kernel
theorem dX8_canTake_20 : decode cX8_canTake 20 = .ok (.getfield 23, 3) := by decide +kernel
theorem dX8_canTake_23 : decode cX8_canTake 23 = .ok (.iload_n 1, 1) := by decide +kernel
theorem dX8_canTake_24 : decode cX8_canTake 24 = .ok (.invokeinterface 61 2, 5) := by decide +kernel
theorem dX8_canTake_29 : decode cX8_canTake 29 = .ok (.checkcast 65, 3) := by decide +kernel
theorem dX8_canTake_32 : decode cX8_canTake 32 = .ok (.astore_n 2, 1) := by decide +kernel
theorem dX8_canTake_33 : decode cX8_canTake 33 = .ok (.aload_n 2, 1) := by decide +kernel
theorem dX8_canTake_34 : decode cX8_canTake 34 = .ok (.getfield 67, 3) := by decide +kernel
theorem dX8_canTake_37 : decode cX8_canTake 37 = .ok (.ifCond .ne 23, 3) := by decide +kernel
theorem dX8_canTake_40 : decode cX8_canTake 40 = .ok (.aload_n 2, 1) := by decide +kernel
theorem dX8_canTake_41 : decode cX8_canTake 41 = .ok (.getfield 70, 3) := by decide +kernel
theorem dX8_canTake_44 : decode cX8_canTake 44 = .ok (.invokeinterface 55 1, 5) := by decide +kernel
theorem dX8_canTake_49 : decode cX8_canTake 49 = .ok (.aload_n 2, 1) := by decide +kernel
theorem dX8_canTake_50 : decode cX8_canTake 50 = .ok (.getfield 73, 3) := by decide +kernel
theorem dX8_canTake_53 : decode cX8_canTake 53 = .ok (.if_icmp .ge 7, 3) := by decide +kernel
theorem dX8_canTake_56 : decode cX8_canTake 56 = .ok (.iconst 1, 1) := by decide +kernel
theorem dX8_canTake_57 : decode cX8_canTake 57 = .ok (.goto 4, 3) := by decide +kernel
theorem dX8_canTake_60 : decode cX8_canTake 60 = .ok (.iconst 0, 1) := by decide +kernel
theorem dX8_canTake_61 : decode cX8_canTake 61 = .ok (.ireturn, 1) := by decide +kernel
def wX8_canTake (l0 : Nat) (l1 : Int32) (σ : kx_S) (Q : Int32 → kx_S → Prop) : Prop := ((l1 < 0 → Q 0 σ) ∧
  (¬ (l1 < 0) → xt σ l0 = 10 ∧ ∃ a3, xr σ 163 l0 = some a3 ∧ xt σ a3 = 1 ∧ wJx4a65c_size_8abf5 a3 σ (fun r6 σ5 => ((l1 < r6 → xt σ5 l0 = 10 ∧ ∃ a10, xr σ5 163 l0 = some a10 ∧ xt σ5 a10 = 1 ∧ wJx4a65c_get_915e3 a10 l1 σ5 (fun q13 σ12 => ∃ a15, q13 = some a15 ∧ xt σ12 a15 = 3 ∧ ((¬ (xi σ12 50 a15) = 0 → Q 0 σ12) ∧
      ((xi σ12 50 a15) = 0 → ∃ a19, xr σ12 49 a15 = some a19 ∧ xt σ12 a19 = 1 ∧ wJx4a65c_size_8abf5 a19 σ12 (fun r22 σ21 => xt σ21 a15 = 3 ∧ (((xi σ21 48 a15) ≤ r22 → Q 0 σ21) ∧
        (¬ ((xi σ21 48 a15) ≤ r22) → Q 1 σ21))))))) ∧
    (¬ (l1 < r6) → Q 0 σ5)))))
set_option maxRecDepth 100000 in
set_option maxHeartbeats 4000000 in
theorem hx_X8_canTake (l : Launch) (G : kx_G) (l0 : Nat) (l1 : Int32) (σ : kx_S) (Q : Int32 → kx_S → Prop) (h : wX8_canTake l0 l1 σ Q) : kx_M l G yX8_canTake cX8_canTake 3 (some .boolean) (3) (64) [.ref l0, .int l1] σ (kx_ri Q) := by
  refine kx_enter (by decide) rfl (Nat.le_of_ble_eq_true rfl) ?_
  intro p e s m below meth c ls F hr hlocks C hname hl
  have hl : lv_has ls 3 [(0, .ref l0), (1, .int l1)] := hl
  obtain ⟨H, eH⟩ : ∃ z9, z9 = s.heap := ⟨_, rfl⟩
  obtain ⟨locs, eL⟩ : ∃ z9 : List Loc, z9 = [] := ⟨_, rfl⟩
  rw [← eH, ← eL] at C
  rw [← eH, ← eL]
  obtain ⟨σ0, e0⟩ : ∃ z9, z9 = σ := ⟨_, rfl⟩
  have C : kx_X G (xc σ0) s H locs σ := by rw [e0]; exact C
  suffices hgo : kx_W p l e (3) (64) (xc σ0) s m ([.ref l0, .int l1] : List Value).toArray below meth c H locs σ (MQ below (kx_Q G σ0 (kx_ri Q)) ([.ref l0, .int l1] : List Value).toArray s (kx_N - xc σ0) (600 * (kx_N - xc σ0)) (kx_A G)) (F0 m 0 ls []) by rw [e0] at hgo; exact hgo
  clear e0
  refine lv_iload_n F.1 F.2.1 dX8_canTake_0 rfl (lv_at hl 1 rfl) ?_
  refine lv_if_lt (tgt := 17) F.1 F.2.1 dX8_canTake_1 (by decide) (fun c1 => ?_) (fun c1 => ?_)
  · replace h := h.1 c1
    refine lv_iconst (v := 0) F.1 F.2.1 dX8_canTake_17 (by decide) ?_
    exact kx_zret F C hr hlocks rfl h dX8_canTake_18
  · replace h := h.2 c1
    refine lv_iload_n F.1 F.2.1 dX8_canTake_4 rfl (lv_at hl 1 rfl) ?_
    refine lv_aload_n F.1 F.2.1 dX8_canTake_5 rfl (lv_at hl 0 rfl) ?_
    obtain ⟨ht2, h⟩ := h
    refine xg_X8_cells F C ht2 ux_330 (fun _ h9 => h9) dX8_canTake_6 ?_
    obtain ⟨a3, ea4, h⟩ := h
    refine xq_nn ea4 ?_
    obtain ⟨ht7, h⟩ := h
    refine xk_Jx4a65c_size_8abf5 F C a3 ht7 h ux_344 (Nat.le_of_ble_eq_true rfl) (Nat.le_of_ble_eq_true rfl) hl.1 (by simp [Value.category]) dX8_canTake_9 (fun r6 σ5 H locs h C => ?_)
    refine lv_icmp_lt (tgt := 19) F.1 F.2.1 dX8_canTake_14 (by decide) (fun c8 => ?_) (fun c8 => ?_)
    · replace h := h.1 c8
      refine lv_aload_n F.1 F.2.1 dX8_canTake_19 rfl (lv_at hl 0 rfl) ?_
      obtain ⟨ht9, h⟩ := h
      refine xg_X8_cells F C ht9 ux_330 (fun _ h9 => h9) dX8_canTake_20 ?_
      obtain ⟨a10, ea11, h⟩ := h
      refine xq_nn ea11 ?_
      refine lv_iload_n F.1 F.2.1 dX8_canTake_23 rfl (lv_at hl 1 rfl) ?_
      obtain ⟨ht14, h⟩ := h
      refine xk_Jx4a65c_get_915e3 F C a10 l1 ht14 h ux_345 (Nat.le_of_ble_eq_true rfl) (Nat.le_of_ble_eq_true rfl) hl.1 (by simp [Value.category]) dX8_canTake_24 (fun q13 σ12 H locs h C => ?_)
      obtain ⟨a15, ea16, h⟩ := h
      refine xq_nn ea16 ?_
      obtain ⟨ht17, h⟩ := h
      refine kx_cast F C (by rw [ht17]; decide) (kx_e3 ht17) rfl ux_346 dX8_canTake_29 ?_
      refine lv_astore_n (lv' := [(2, .ref a15), (0, .ref l0), (1, .int l1)]) F.1 F.2.1 dX8_canTake_32 rfl hl (by decide) rfl (fun ls hl => ?_)
      refine lv_aload_n F.1 F.2.1 dX8_canTake_33 rfl (lv_at hl 0 rfl) ?_
      refine xg_X1_jammed F C ht17 ux_347 (fun _ h9 => h9) dX8_canTake_34 ?_
      refine lv_if_ne (tgt := 60) F.1 F.2.1 dX8_canTake_37 (by decide) (fun c18 => ?_) (fun c18 => ?_)
      · replace h := h.1 c18
        refine lv_iconst (v := 0) F.1 F.2.1 dX8_canTake_60 (by decide) ?_
        exact kx_zret F C hr hlocks rfl h dX8_canTake_61
      · replace h := h.2 c18
        refine lv_aload_n F.1 F.2.1 dX8_canTake_40 rfl (lv_at hl 0 rfl) ?_
        refine xg_X1_logs F C ht17 ux_348 (fun _ h9 => h9) dX8_canTake_41 ?_
        obtain ⟨a19, ea20, h⟩ := h
        refine xq_nn ea20 ?_
        obtain ⟨ht23, h⟩ := h
        refine xk_Jx4a65c_size_8abf5 F C a19 ht23 h ux_344 (Nat.le_of_ble_eq_true rfl) (Nat.le_of_ble_eq_true rfl) hl.1 (by simp [Value.category]) dX8_canTake_44 (fun r22 σ21 H locs h C => ?_)
        refine lv_aload_n F.1 F.2.1 dX8_canTake_49 rfl (lv_at hl 0 rfl) ?_
        obtain ⟨ht24, h⟩ := h
        refine xg_X1_carry F C ht24 ux_349 (fun _ h9 => h9) dX8_canTake_50 ?_
        refine lv_icmp_ge (tgt := 60) F.1 F.2.1 dX8_canTake_53 (by decide) (fun c25 => ?_) (fun c25 => ?_)
        · replace h := h.1 c25
          refine lv_iconst (v := 0) F.1 F.2.1 dX8_canTake_60 (by decide) ?_
          exact kx_zret F C hr hlocks rfl h dX8_canTake_61
        · replace h := h.2 c25
          refine lv_iconst (v := 1) F.1 F.2.1 dX8_canTake_56 (by decide) ?_
          refine lv_goto (tgt := 61) F.1 F.2.1 dX8_canTake_57 (by decide) ?_
          exact kx_zret F C hr hlocks rfl h dX8_canTake_61
    · replace h := h.2 c8
      refine lv_iconst (v := 0) F.1 F.2.1 dX8_canTake_17 (by decide) ?_
      exact kx_zret F C hr hlocks rfl h dX8_canTake_18
section
variable {p : Program} {l : Launch} {e : Env} {fr lo c0 : Nat} {s : State} {m : MethodId} {args : Array Value} {below : List Frame} {meth : Method} {c : Code} {H : Heap} {locs : List Loc} {Q : State → Prop}
variable {cc : ByteArray} {pc nL index : Nat} {ls : Array Slot} {rest : List Value} {G : kx_G} {σ : kx_S} {own : String}
theorem xk_X8_canTake {P : Int32 → kx_S → Prop} (F : CallFix p m c cc nL s args kt_ own) (C : kx_X G c0 s H locs σ) (l0 : Nat) (l1 : Int32) (ha : xt σ l0 = 10) (h : wX8_canTake l0 l1 σ P) (hw : Cond.methodLink own index yX8_canTake ∈ kt_) (h1 : (3) + 1 ≤ fr) (h2 : 8 + (3 + 11) + (64) ≤ lo) (hsz : ls.size = nL) (hW : (rest.map fun v => v.category).sum ≤ 8) (hdg : decode cc pc = .ok (.invokevirtual index, 3)) (kk : ∀ (r : Int32) (u : kx_S) (H1 : Heap) (locs1 : List Loc), P r u → kx_X G c0 s H1 locs1 u → kx_W p l e fr lo c0 s m args below meth c H1 locs1 u Q (F0 m (pc + 3) ls (.int r :: rest))) : kx_W p l e fr lo c0 s m args below meth c H locs σ Q (F0 m pc ls (.int l1 :: .ref l0 :: rest)) :=
  kx_cV (n := 1) (As := [.int l1]) (Cn := RX8) F C (hx_X8_canTake l G l0 l1 σ P h) (kt_V hw ux_351 ux_352 ux_90 ux_350) (by decide +kernel) ⟨h1, h2⟩ (kx_recv C (by rw [ha]; decide) (kx_e10 ha) rfl) rfl hsz hW hdg (fun v u H1 locs1 hP9 C9 => by obtain ⟨r, hv, hp⟩ := hP9; subst hv; exact kk r u H1 locs1 hp C9)
end
theorem dX8_takes_0 : decode cX8_takes 0 = .ok (.aload_n 0, 1) := by decide +kernel
theorem dX8_takes_1 : decode cX8_takes 1 = .ok (.iload_n 2, 1) := by decide +kernel
theorem dX8_takes_2 : decode cX8_takes 2 = .ok (.invokevirtual 76, 3) := by decide +kernel
theorem dX8_takes_5 : decode cX8_takes 5 = .ok (.ifCond .ne 5, 3) := by decide +kernel
theorem dX8_takes_8 : decode cX8_takes 8 = .ok (.iconst 0, 1) := by decide +kernel
theorem dX8_takes_9 : decode cX8_takes 9 = .ok (.ireturn, 1) := by decide +kernel
theorem dX8_takes_10 : decode cX8_takes 10 = .ok (.aload_n 0, 1) := by decide +kernel
theorem dX8_takes_11 : decode cX8_takes 11 = .ok (.getfield 23, 3) := by decide +kernel
theorem dX8_takes_14 : decode cX8_takes 14 = .ok (.iload_n 2, 1) := by decide +kernel
theorem dX8_takes_15 : decode cX8_takes 15 = .ok (.invokeinterface 61 2, 5) := by decide +kernel
theorem dX8_takes_20 : decode cX8_takes 20 = .ok (.checkcast 65, 3) := by decide +kernel
theorem dX8_takes_23 : decode cX8_takes 23 = .ok (.getfield 70, 3) := by decide +kernel
theorem dX8_takes_26 : decode cX8_takes 26 = .ok (.aload_n 1, 1) := by decide +kernel
theorem dX8_takes_27 : decode cX8_takes 27 = .ok (.invokeinterface 80 2, 5) := by decide +kernel
theorem dX8_takes_32 : decode cX8_takes 32 = .ok (.pop, 1) := by decide +kernel
theorem dX8_takes_33 : decode cX8_takes 33 = .ok (.aload_n 1, 1) := by decide +kernel
theorem dX8_takes_34 : decode cX8_takes 34 = .ok (.aload_n 0, 1) := by decide +kernel
theorem dX8_takes_35 : decode cX8_takes 35 = .ok (.getfield 7, 3) := by decide +kernel
theorem dX8_takes_38 : decode cX8_takes 38 = .ok (.iload_n 2, 1) := by decide +kernel
theorem dX8_takes_39 : decode cX8_takes 39 = .ok (.invokevirtual 84, 3) := by decide +kernel
theorem dX8_takes_42 : decode cX8_takes 42 = .ok (.iconst 1, 1) := by decide +kernel
theorem dX8_takes_43 : decode cX8_takes 43 = .ok (.ireturn, 1) := by decide +kernel
def wX8_takes (l0 : Nat) (l1 : Nat) (l2 : Int32) (σ : kx_S) (Q : Int32 → kx_S → Prop) : Prop := xt σ l0 = 10 ∧ wX8_canTake l0 l2 σ (fun r2 σ1 => ((¬ r2 = 0 → xt σ1 l0 = 10 ∧ ∃ a6, xr σ1 163 l0 = some a6 ∧ xt σ1 a6 = 1 ∧ wJx4a65c_get_915e3 a6 l2 σ1 (fun q9 σ8 => ∃ a11, q9 = some a11 ∧ xt σ8 a11 = 3 ∧ ∃ a14, xr σ8 49 a11 = some a14 ∧ xt σ8 a14 = 1 ∧ wJx4a65c_add_9ea2d a14 l1 σ8 (fun r17 σ16 => xt σ16 l0 = 10 ∧ xt σ16 l1 = 8 ∧ wX6_floatIn l1 (xi σ16 160 l0) l2 σ16 (fun σ20 => Q 1 σ20)))) ∧
  (r2 = 0 → Q 0 σ1)))
set_option maxRecDepth 100000 in
set_option maxHeartbeats 4000000 in
theorem hx_X8_takes (l : Launch) (G : kx_G) (l0 : Nat) (l1 : Nat) (l2 : Int32) (σ : kx_S) (Q : Int32 → kx_S → Prop) (h : wX8_takes l0 l1 l2 σ Q) : kx_M l G yX8_takes cX8_takes 3 (some .boolean) (7) (231) [.ref l0, .ref l1, .int l2] σ (kx_ri Q) := by
  refine kx_enter (by decide) rfl (Nat.le_of_ble_eq_true rfl) ?_
  intro p e s m below meth c ls F hr hlocks C hname hl
  have hl : lv_has ls 3 [(0, .ref l0), (1, .ref l1), (2, .int l2)] := hl
  obtain ⟨H, eH⟩ : ∃ z9, z9 = s.heap := ⟨_, rfl⟩
  obtain ⟨locs, eL⟩ : ∃ z9 : List Loc, z9 = [] := ⟨_, rfl⟩
  rw [← eH, ← eL] at C
  rw [← eH, ← eL]
  obtain ⟨σ0, e0⟩ : ∃ z9, z9 = σ := ⟨_, rfl⟩
  have C : kx_X G (xc σ0) s H locs σ := by rw [e0]; exact C
  suffices hgo : kx_W p l e (7) (231) (xc σ0) s m ([.ref l0, .ref l1, .int l2] : List Value).toArray below meth c H locs σ (MQ below (kx_Q G σ0 (kx_ri Q)) ([.ref l0, .ref l1, .int l2] : List Value).toArray s (kx_N - xc σ0) (600 * (kx_N - xc σ0)) (kx_A G)) (F0 m 0 ls []) by rw [e0] at hgo; exact hgo
  clear e0
  refine lv_aload_n F.1 F.2.1 dX8_takes_0 rfl (lv_at hl 0 rfl) ?_
  refine lv_iload_n F.1 F.2.1 dX8_takes_1 rfl (lv_at hl 2 rfl) ?_
  obtain ⟨ht3, h⟩ := h
  refine xk_X8_canTake F C l0 l2 ht3 h ux_353 (Nat.le_of_ble_eq_true rfl) (Nat.le_of_ble_eq_true rfl) hl.1 (by simp [Value.category]) dX8_takes_2 (fun r2 σ1 H locs h C => ?_)
  refine lv_if_ne (tgt := 10) F.1 F.2.1 dX8_takes_5 (by decide) (fun c4 => ?_) (fun c4 => ?_)
  · replace h := h.1 c4
    refine lv_aload_n F.1 F.2.1 dX8_takes_10 rfl (lv_at hl 0 rfl) ?_
    obtain ⟨ht5, h⟩ := h
    refine xg_X8_cells F C ht5 ux_330 (fun _ h9 => h9) dX8_takes_11 ?_
    obtain ⟨a6, ea7, h⟩ := h
    refine xq_nn ea7 ?_
    refine lv_iload_n F.1 F.2.1 dX8_takes_14 rfl (lv_at hl 2 rfl) ?_
    obtain ⟨ht10, h⟩ := h
    refine xk_Jx4a65c_get_915e3 F C a6 l2 ht10 h ux_345 (Nat.le_of_ble_eq_true rfl) (Nat.le_of_ble_eq_true rfl) hl.1 (by simp [Value.category]) dX8_takes_15 (fun q9 σ8 H locs h C => ?_)
    obtain ⟨a11, ea12, h⟩ := h
    refine xq_nn ea12 ?_
    obtain ⟨ht13, h⟩ := h
    refine kx_cast F C (by rw [ht13]; decide) (kx_e3 ht13) rfl ux_346 dX8_takes_20 ?_
    refine xg_X1_logs F C ht13 ux_348 (fun _ h9 => h9) dX8_takes_23 ?_
    obtain ⟨a14, ea15, h⟩ := h
    refine xq_nn ea15 ?_
    refine lv_aload_n F.1 F.2.1 dX8_takes_26 rfl (lv_at hl 1 rfl) ?_
    obtain ⟨ht18, h⟩ := h
    refine xk_Jx4a65c_add_9ea2d F C a14 l1 ht18 h ux_354 (Nat.le_of_ble_eq_true rfl) (Nat.le_of_ble_eq_true rfl) hl.1 (by simp [Value.category]) dX8_takes_27 (fun r17 σ16 H locs h C => ?_)
    refine lv_pop F.1 F.2.1 dX8_takes_32 rfl ?_
    refine lv_aload_n F.1 F.2.1 dX8_takes_33 rfl (lv_at hl 1 rfl) ?_
    refine lv_aload_n F.1 F.2.1 dX8_takes_34 rfl (lv_at hl 0 rfl) ?_
    obtain ⟨ht19, h⟩ := h
    refine xg_X8_number F C ht19 ux_325 (fun _ h9 => h9) dX8_takes_35 ?_
    refine lv_iload_n F.1 F.2.1 dX8_takes_38 rfl (lv_at hl 2 rfl) ?_
    obtain ⟨ht21, h⟩ := h
    refine xk_X6_floatIn F C l1 (xi σ16 160 l0) l2 ht21 h ux_355 (Nat.le_of_ble_eq_true rfl) (Nat.le_of_ble_eq_true rfl) hl.1 (by simp [Value.category]) dX8_takes_39 (fun σ20 H locs h C => ?_)
    refine lv_iconst (v := 1) F.1 F.2.1 dX8_takes_42 (by decide) ?_
    exact kx_zret F C hr hlocks rfl h dX8_takes_43
  · replace h := h.2 c4
    refine lv_iconst (v := 0) F.1 F.2.1 dX8_takes_8 (by decide) ?_
    exact kx_zret F C hr hlocks rfl h dX8_takes_9
section
variable {p : Program} {l : Launch} {e : Env} {fr lo c0 : Nat} {s : State} {m : MethodId} {args : Array Value} {below : List Frame} {meth : Method} {c : Code} {H : Heap} {locs : List Loc} {Q : State → Prop}
variable {cc : ByteArray} {pc nL index : Nat} {ls : Array Slot} {rest : List Value} {G : kx_G} {σ : kx_S} {own : String}
theorem xk_X8_takes {P : Int32 → kx_S → Prop} (F : CallFix p m c cc nL s args kt_ own) (C : kx_X G c0 s H locs σ) (l0 : Nat) (l1 : Nat) (l2 : Int32) (ha : xt σ l0 = 10) (h : wX8_takes l0 l1 l2 σ P) (hw : Cond.methodLink own index yX8_takes ∈ kt_) (h1 : (7) + 1 ≤ fr) (h2 : 8 + (3 + 11) + (231) ≤ lo) (hsz : ls.size = nL) (hW : (rest.map fun v => v.category).sum ≤ 8) (hdg : decode cc pc = .ok (.invokevirtual index, 3)) (kk : ∀ (r : Int32) (u : kx_S) (H1 : Heap) (locs1 : List Loc), P r u → kx_X G c0 s H1 locs1 u → kx_W p l e fr lo c0 s m args below meth c H1 locs1 u Q (F0 m (pc + 3) ls (.int r :: rest))) : kx_W p l e fr lo c0 s m args below meth c H locs σ Q (F0 m pc ls (.int l2 :: .ref l1 :: .ref l0 :: rest)) :=
  kx_cV (n := 2) (As := [.ref l1, .int l2]) (Cn := RX8) F C (hx_X8_takes l G l0 l1 l2 σ P h) (kt_V hw ux_357 ux_358 ux_90 ux_356) (by decide +kernel) ⟨h1, h2⟩ (kx_recv C (by rw [ha]; decide) (kx_e10 ha) rfl) rfl hsz hW hdg (fun v u H1 locs1 hP9 C9 => by obtain ⟨r, hv, hp⟩ := hP9; subst hv; exact kk r u H1 locs1 hp C9)
end
theorem dX8_jamFullCells_0 : decode cX8_jamFullCells 0 = .ok (.iconst 0, 1) := by decide +kernel
theorem dX8_jamFullCells_1 : decode cX8_jamFullCells 1 = .ok (.istore_n 1, 1) := by decide +kernel
theorem dX8_jamFullCells_2 : decode cX8_jamFullCells 2 = .ok (.iload_n 1, 1) := by decide +kernel
theorem dX8_jamFullCells_3 : decode cX8_jamFullCells 3 = .ok (.aload_n 0, 1) := by decide +kernel
theorem dX8_jamFullCells_4 : decode cX8_jamFullCells 4 = .ok (.getfield 23, 3) := by decide +kernel
theorem dX8_jamFullCells_7 : decode cX8_jamFullCells 7 = .ok (.invokeinterface 55 1, 5) := by decide +kernel
theorem dX8_jamFullCells_12 : decode cX8_jamFullCells 12 = .ok (.if_icmp .ge 44, 3) := by decide +kernel
theorem dX8_jamFullCells_15 : decode cX8_jamFullCells 15 = .ok (.aload_n 0, 1) := by decide +kernel
theorem dX8_jamFullCells_16 : decode cX8_jamFullCells 16 = .ok (.getfield 23, 3) := by decide +kernel
theorem dX8_jamFullCells_19 : decode cX8_jamFullCells 19 = .ok (.iload_n 1, 1) := by decide +kernel
theorem dX8_jamFullCells_20 : decode cX8_jamFullCells 20 = .ok (.invokeinterface 61 2, 5) := by decide +kernel
theorem dX8_jamFullCells_25 : decode cX8_jamFullCells 25 = .ok (.checkcast 65, 3) := by decide +kernel
theorem dX8_jamFullCells_28 : decode cX8_jamFullCells 28 = .ok (.astore_n 2, 1) := by decide +kernel
theorem dX8_jamFullCells_29 : decode cX8_jamFullCells 29 = .ok (.aload_n 2, 1) := by decide +kernel
theorem dX8_jamFullCells_30 : decode cX8_jamFullCells 30 = .ok (.getfield 70, 3) := by decide +kernel
theorem dX8_jamFullCells_33 : decode cX8_jamFullCells 33 = .ok (.invokeinterface 55 1, 5) := by decide +kernel
theorem dX8_jamFullCells_38 : decode cX8_jamFullCells 38 = .ok (.aload_n 2, 1) := by decide +kernel
theorem dX8_jamFullCells_39 : decode cX8_jamFullCells 39 = .ok (.getfield 73, 3) := by decide +kernel
theorem dX8_jamFullCells_42 : decode cX8_jamFullCells 42 = .ok (.if_icmp .lt 8, 3) := by decide +kernel
theorem dX8_jamFullCells_45 : decode cX8_jamFullCells 45 = .ok (.aload_n 2, 1) := by decide +kernel
theorem dX8_jamFullCells_46 : decode cX8_jamFullCells 46 = .ok (.iconst 1, 1) := by decide +kernel
theorem dX8_jamFullCells_47 : decode cX8_jamFullCells 47 = .ok (.putfield 67, 3) := by decide +kernel
theorem dX8_jamFullCells_50 : decode cX8_jamFullCells 50 = .ok (.iinc 1 1, 3) := by decide +kernel
theorem dX8_jamFullCells_53 : decode cX8_jamFullCells 53 = .ok (.goto (-51), 3) := by decide +kernel
theorem dX8_jamFullCells_56 : decode cX8_jamFullCells 56 = .ok (.return_, 1) := by decide +kernel
def wX8_jamFullCells_50 (k2 : Nat → Int32 → kx_S → Prop) (Q : kx_S → Prop) (l0 : Nat) (l1 : Int32) (σ : kx_S) : Prop := ∀ v1 : Int32, v1 = l1 + 1 → k2 l0 v1 σ
def wX8_jamFullCells_2 (Q : kx_S → Prop) : Nat → Nat → Int32 → kx_S → Prop
  | 0, _, _, _ => False
  | n + 1, l0, l1, σ => xt σ l0 = 10 ∧ ∃ a3, xr σ 163 l0 = some a3 ∧ xt σ a3 = 1 ∧ wJx4a65c_size_8abf5 a3 σ (fun r6 σ5 => ((r6 ≤ l1 → Q σ5) ∧
    (¬ (r6 ≤ l1) → xt σ5 l0 = 10 ∧ ∃ a10, xr σ5 163 l0 = some a10 ∧ xt σ5 a10 = 1 ∧ wJx4a65c_get_915e3 a10 l1 σ5 (fun q13 σ12 => ∃ a15, q13 = some a15 ∧ xt σ12 a15 = 3 ∧ ∃ a18, xr σ12 49 a15 = some a18 ∧ xt σ12 a18 = 1 ∧ wJx4a65c_size_8abf5 a18 σ12 (fun r21 σ20 => xt σ20 a15 = 3 ∧ ((r21 < (xi σ20 48 a15) → wX8_jamFullCells_50 (wX8_jamFullCells_2 Q n) Q l0 l1 σ20) ∧
      (¬ (r21 < (xi σ20 48 a15)) → ∀ σ25, σ25 = xsi σ20 50 a15 1 → wX8_jamFullCells_50 (wX8_jamFullCells_2 Q n) Q l0 l1 σ25)))))))
def wX8_jamFullCells (l0 : Nat) (σ : kx_S) (Q : kx_S → Prop) : Prop := ∃ j, wX8_jamFullCells_2 Q j l0 0 σ
set_option maxRecDepth 100000 in
set_option maxHeartbeats 4000000 in
theorem tX8_jamFullCells_50 (l : Launch) (G : kx_G) (σ0 : kx_S) {p : Program} {e : Env} {s : State} {m : MethodId} {args : Array Value} {below : List Frame} {meth : Method} {c : Code} (F : CallFix p m c cX8_jamFullCells 3 s args kt_ RX8) (hr : meth.sig.returnType = none) (hlocks : meth.locks = false) (Q : kx_S → Prop) (k2 : Nat → Int32 → kx_S → Prop) (hk2 : ∀ (l0 : Nat) (l1 : Int32) (σ : kx_S) (H : Heap) (locs : List Loc) (ls : Array Slot), k2 l0 l1 σ → kx_X G (xc σ0) s H locs σ → lv_has ls 3 [(0, .ref l0), (1, .int l1)] → kx_W p l e (3) (64) (xc σ0) s m args below meth c H locs σ (MQ below (kx_Q G σ0 (kx_rv Q)) args s (kx_N - xc σ0) (600 * (kx_N - xc σ0)) (kx_A G)) (F0 m 2 ls [])) : ∀ (l0 : Nat) (l1 : Int32) (σ : kx_S) (H : Heap) (locs : List Loc) (ls : Array Slot), wX8_jamFullCells_50 k2 Q l0 l1 σ → kx_X G (xc σ0) s H locs σ → lv_has ls 3 [(0, .ref l0), (1, .int l1)] → kx_W p l e (3) (64) (xc σ0) s m args below meth c H locs σ (MQ below (kx_Q G σ0 (kx_rv Q)) args s (kx_N - xc σ0) (600 * (kx_N - xc σ0)) (kx_A G)) (F0 m 50 ls []) := by
  intro l0 l1 σ H locs ls h C hl
  obtain ⟨v1, ev1⟩ : ∃ z9 : Int32, z9 = l1 + 1 := ⟨_, rfl⟩
  replace h := h v1 ev1
  refine lv_iinc (v := v1) (lv' := [(1, .int v1), (0, .ref l0)]) F.1 F.2.1 dX8_jamFullCells_50 hl (k := 1) rfl (by rw [ev1]; rfl) (by decide) rfl (fun ls hl => ?_)
  refine lv_goto (tgt := 2) F.1 F.2.1 dX8_jamFullCells_53 (by decide) ?_
  exact hk2 l0 v1 σ H locs ls h C (lv_sub hl [1, 0] rfl)
set_option maxRecDepth 100000 in
set_option maxHeartbeats 4000000 in
theorem tX8_jamFullCells_2 (l : Launch) (G : kx_G) (σ0 : kx_S) {p : Program} {e : Env} {s : State} {m : MethodId} {args : Array Value} {below : List Frame} {meth : Method} {c : Code} (F : CallFix p m c cX8_jamFullCells 3 s args kt_ RX8) (hr : meth.sig.returnType = none) (hlocks : meth.locks = false) (Q : kx_S → Prop) : ∀ (n : Nat) (l0 : Nat) (l1 : Int32) (σ : kx_S) (H : Heap) (locs : List Loc) (ls : Array Slot), wX8_jamFullCells_2 Q n l0 l1 σ → kx_X G (xc σ0) s H locs σ → lv_has ls 3 [(0, .ref l0), (1, .int l1)] → kx_W p l e (3) (64) (xc σ0) s m args below meth c H locs σ (MQ below (kx_Q G σ0 (kx_rv Q)) args s (kx_N - xc σ0) (600 * (kx_N - xc σ0)) (kx_A G)) (F0 m 2 ls []) := by
  intro n
  induction n with
  | zero => intro l0 l1 σ H locs ls h; exact h.elim
  | succ n ih =>
    intro l0 l1 σ H locs ls h C hl
    refine lv_iload_n F.1 F.2.1 dX8_jamFullCells_2 rfl (lv_at hl 1 rfl) ?_
    refine lv_aload_n F.1 F.2.1 dX8_jamFullCells_3 rfl (lv_at hl 0 rfl) ?_
    obtain ⟨ht2, h⟩ := h
    refine xg_X8_cells F C ht2 ux_330 (fun _ h9 => h9) dX8_jamFullCells_4 ?_
    obtain ⟨a3, ea4, h⟩ := h
    refine xq_nn ea4 ?_
    obtain ⟨ht7, h⟩ := h
    refine xk_Jx4a65c_size_8abf5 F C a3 ht7 h ux_344 (Nat.le_of_ble_eq_true rfl) (Nat.le_of_ble_eq_true rfl) hl.1 (by simp [Value.category]) dX8_jamFullCells_7 (fun r6 σ5 H locs h C => ?_)
    refine lv_icmp_ge (tgt := 56) F.1 F.2.1 dX8_jamFullCells_12 (by decide) (fun c8 => ?_) (fun c8 => ?_)
    · replace h := h.1 c8
      exact kx_vret F C hr hlocks h dX8_jamFullCells_56
    · replace h := h.2 c8
      refine lv_aload_n F.1 F.2.1 dX8_jamFullCells_15 rfl (lv_at hl 0 rfl) ?_
      obtain ⟨ht9, h⟩ := h
      refine xg_X8_cells F C ht9 ux_330 (fun _ h9 => h9) dX8_jamFullCells_16 ?_
      obtain ⟨a10, ea11, h⟩ := h
      refine xq_nn ea11 ?_
      refine lv_iload_n F.1 F.2.1 dX8_jamFullCells_19 rfl (lv_at hl 1 rfl) ?_
      obtain ⟨ht14, h⟩ := h
      refine xk_Jx4a65c_get_915e3 F C a10 l1 ht14 h ux_345 (Nat.le_of_ble_eq_true rfl) (Nat.le_of_ble_eq_true rfl) hl.1 (by simp [Value.category]) dX8_jamFullCells_20 (fun q13 σ12 H locs h C => ?_)
      obtain ⟨a15, ea16, h⟩ := h
      refine xq_nn ea16 ?_
      obtain ⟨ht17, h⟩ := h
      refine kx_cast F C (by rw [ht17]; decide) (kx_e3 ht17) rfl ux_346 dX8_jamFullCells_25 ?_
      refine lv_astore_n (lv' := [(2, .ref a15), (0, .ref l0), (1, .int l1)]) F.1 F.2.1 dX8_jamFullCells_28 rfl hl (by decide) rfl (fun ls hl => ?_)
      refine lv_aload_n F.1 F.2.1 dX8_jamFullCells_29 rfl (lv_at hl 0 rfl) ?_
      refine xg_X1_logs F C ht17 ux_348 (fun _ h9 => h9) dX8_jamFullCells_30 ?_
      obtain ⟨a18, ea19, h⟩ := h
      refine xq_nn ea19 ?_
      obtain ⟨ht22, h⟩ := h
      refine xk_Jx4a65c_size_8abf5 F C a18 ht22 h ux_344 (Nat.le_of_ble_eq_true rfl) (Nat.le_of_ble_eq_true rfl) hl.1 (by simp [Value.category]) dX8_jamFullCells_33 (fun r21 σ20 H locs h C => ?_)
      refine lv_aload_n F.1 F.2.1 dX8_jamFullCells_38 rfl (lv_at hl 0 rfl) ?_
      obtain ⟨ht23, h⟩ := h
      refine xg_X1_carry F C ht23 ux_349 (fun _ h9 => h9) dX8_jamFullCells_39 ?_
      refine lv_icmp_lt (tgt := 50) F.1 F.2.1 dX8_jamFullCells_42 (by decide) (fun c24 => ?_) (fun c24 => ?_)
      · replace h := h.1 c24
        exact tX8_jamFullCells_50 l G σ0 F hr hlocks Q (wX8_jamFullCells_2 Q n) (fun l0 l1 σ9 H locs ls h C hl => ih l0 l1 σ9 H locs ls h C hl) l0 l1 σ20 H locs ls h C (lv_sub hl [1, 2] rfl)
      · replace h := h.2 c24
        refine lv_aload_n F.1 F.2.1 dX8_jamFullCells_45 rfl (lv_at hl 0 rfl) ?_
        refine lv_iconst (v := 1) F.1 F.2.1 dX8_jamFullCells_46 (by decide) ?_
        refine xp_X1_jammed (x := 1) F C ht23 ⟨rfl, rfl⟩ ux_347 (fun _ h9 => h9) dX8_jamFullCells_47 (fun H locs C => ?_)
        generalize eσ25 : xsi σ20 50 a15 1 = σ25 at C ⊢
        replace h := h σ25 eσ25.symm
        have ht26 : xt σ25 a15 = 3 := by rw [← eσ25]; exact ht23
        exact tX8_jamFullCells_50 l G σ0 F hr hlocks Q (wX8_jamFullCells_2 Q n) (fun l0 l1 σ9 H locs ls h C hl => ih l0 l1 σ9 H locs ls h C hl) l0 l1 σ25 H locs ls h C (lv_sub hl [1, 2] rfl)
set_option maxRecDepth 100000 in
set_option maxHeartbeats 4000000 in
theorem hx_X8_jamFullCells (l : Launch) (G : kx_G) (l0 : Nat) (σ : kx_S) (Q : kx_S → Prop) (h : wX8_jamFullCells l0 σ Q) : kx_M l G yX8_jamFullCells cX8_jamFullCells 3 none (3) (64) [.ref l0] σ (kx_rv Q) := by
  refine kx_enter (by decide) rfl (Nat.le_of_ble_eq_true rfl) ?_
  intro p e s m below meth c ls F hr hlocks C hname hl
  have hl : lv_has ls 3 [(0, .ref l0)] := hl
  obtain ⟨H, eH⟩ : ∃ z9, z9 = s.heap := ⟨_, rfl⟩
  obtain ⟨locs, eL⟩ : ∃ z9 : List Loc, z9 = [] := ⟨_, rfl⟩
  rw [← eH, ← eL] at C
  rw [← eH, ← eL]
  obtain ⟨σ0, e0⟩ : ∃ z9, z9 = σ := ⟨_, rfl⟩
  have C : kx_X G (xc σ0) s H locs σ := by rw [e0]; exact C
  suffices hgo : kx_W p l e (3) (64) (xc σ0) s m ([.ref l0] : List Value).toArray below meth c H locs σ (MQ below (kx_Q G σ0 (kx_rv Q)) ([.ref l0] : List Value).toArray s (kx_N - xc σ0) (600 * (kx_N - xc σ0)) (kx_A G)) (F0 m 0 ls []) by rw [e0] at hgo; exact hgo
  clear e0
  refine lv_iconst (v := 0) F.1 F.2.1 dX8_jamFullCells_0 (by decide) ?_
  refine lv_istore_n (lv' := [(1, .int 0), (0, .ref l0)]) F.1 F.2.1 dX8_jamFullCells_1 rfl hl (by decide) rfl (fun ls hl => ?_)
  obtain ⟨n27, h⟩ := h
  exact tX8_jamFullCells_2 l G σ0 F hr hlocks Q n27 l0 0 σ H locs ls h C (lv_sub hl [1, 0] rfl)
section
variable {p : Program} {l : Launch} {e : Env} {fr lo c0 : Nat} {s : State} {m : MethodId} {args : Array Value} {below : List Frame} {meth : Method} {c : Code} {H : Heap} {locs : List Loc} {Q : State → Prop}
variable {cc : ByteArray} {pc nL index : Nat} {ls : Array Slot} {rest : List Value} {G : kx_G} {σ : kx_S} {own : String}
theorem xk_X8_jamFullCells {P : kx_S → Prop} (F : CallFix p m c cc nL s args kt_ own) (C : kx_X G c0 s H locs σ) (l0 : Nat) (ha : xt σ l0 = 10) (h : wX8_jamFullCells l0 σ P) (hw : Cond.methodLink own index yX8_jamFullCells ∈ kt_) (h1 : (3) + 1 ≤ fr) (h2 : 8 + (3 + 11) + (64) ≤ lo) (hsz : ls.size = nL) (hW : (rest.map fun v => v.category).sum ≤ 8) (hdg : decode cc pc = .ok (.invokevirtual index, 3)) (kk : ∀ (u : kx_S) (H1 : Heap) (locs1 : List Loc), P u → kx_X G c0 s H1 locs1 u → kx_W p l e fr lo c0 s m args below meth c H1 locs1 u Q (F0 m (pc + 3) ls rest)) : kx_W p l e fr lo c0 s m args below meth c H locs σ Q (F0 m pc ls (.ref l0 :: rest)) :=
  kx_cV (n := 0) (As := []) (Cn := RX8) F C (hx_X8_jamFullCells l G l0 σ P h) (kt_V hw ux_360 ux_361 ux_90 ux_359) (by decide +kernel) ⟨h1, h2⟩ (kx_recv C (by rw [ha]; decide) (kx_e10 ha) rfl) rfl hsz hW hdg (fun v u H1 locs1 hP9 C9 => by obtain ⟨hv, hp⟩ := hP9; subst hv; exact kk u H1 locs1 hp C9)
end
theorem dX8_freesLowestJam_0 : decode cX8_freesLowestJam 0 = .ok (.aload_n 0, 1) := by decide +kernel
theorem dX8_freesLowestJam_1 : decode cX8_freesLowestJam 1 = .ok (.getfield 23, 3) := by decide +kernel
theorem dX8_freesLowestJam_4 : decode cX8_freesLowestJam 4 = .ok (.invokeinterface 55 1, 5) := by decide +kernel
theorem dX8_freesLowestJam_9 : decode cX8_freesLowestJam 9 = .ok (.iconst 1, 1) := by decide +kernel
theorem dX8_freesLowestJam_10 : decode cX8_freesLowestJam 10 = .ok (.isub, 1) := by decide +kernel
theorem dX8_freesLowestJam_11 : decode cX8_freesLowestJam 11 = .ok (.istore_n 1, 1) := by decide +kernel
theorem dX8_freesLowestJam_12 : decode cX8_freesLowestJam 12 = .ok (.iload_n 1, 1) := by decide +kernel
theorem dX8_freesLowestJam_13 : decode cX8_freesLowestJam 13 = .ok (.ifCond .lt 42, 3) := by decide +kernel
theorem dX8_freesLowestJam_16 : decode cX8_freesLowestJam 16 = .ok (.aload_n 0, 1) := by decide +kernel
theorem dX8_freesLowestJam_17 : decode cX8_freesLowestJam 17 = .ok (.getfield 23, 3) := by decide +kernel
theorem dX8_freesLowestJam_20 : decode cX8_freesLowestJam 20 = .ok (.iload_n 1, 1) := by decide +kernel
theorem dX8_freesLowestJam_21 : decode cX8_freesLowestJam 21 = .ok (.invokeinterface 61 2, 5) := by decide +kernel
theorem dX8_freesLowestJam_26 : decode cX8_freesLowestJam 26 = .ok (.checkcast 65, 3) := by decide +kernel
theorem dX8_freesLowestJam_29 : decode cX8_freesLowestJam 29 = .ok (.astore_n 2, 1) := by decide +kernel
theorem dX8_freesLowestJam_30 : decode cX8_freesLowestJam 30 = .ok (.aload_n 2, 1) := by decide +kernel
theorem dX8_freesLowestJam_31 : decode cX8_freesLowestJam 31 = .ok (.getfield 67, 3) := by decide +kernel
theorem dX8_freesLowestJam_34 : decode cX8_freesLowestJam 34 = .ok (.ifCond .eq 15, 3) := by decide +kernel
theorem dX8_freesLowestJam_37 : decode cX8_freesLowestJam 37 = .ok (.aload_n 2, 1) := by decide +kernel
theorem dX8_freesLowestJam_38 : decode cX8_freesLowestJam 38 = .ok (.iconst 0, 1) := by decide +kernel
theorem dX8_freesLowestJam_39 : decode cX8_freesLowestJam 39 = .ok (.putfield 67, 3) := by decide +kernel
theorem dX8_freesLowestJam_42 : decode cX8_freesLowestJam 42 = .ok (.aload_n 2, 1) := by decide +kernel
theorem dX8_freesLowestJam_43 : decode cX8_freesLowestJam 43 = .ok (.iconst 0, 1) := by decide +kernel
theorem dX8_freesLowestJam_44 : decode cX8_freesLowestJam 44 = .ok (.putfield 90, 3) := by decide +kernel
theorem dX8_freesLowestJam_47 : decode cX8_freesLowestJam 47 = .ok (.iconst 1, 1) := by decide +kernel
theorem dX8_freesLowestJam_48 : decode cX8_freesLowestJam 48 = .ok (.ireturn, 1) := by decide +kernel
theorem dX8_freesLowestJam_49 : decode cX8_freesLowestJam 49 = .ok (.iinc 1 (-1), 3) := by decide +kernel
theorem dX8_freesLowestJam_52 : decode cX8_freesLowestJam 52 = .ok (.goto (-40), 3) := by decide +kernel
theorem dX8_freesLowestJam_55 : decode cX8_freesLowestJam 55 = .ok (.iconst 0, 1) := by decide +kernel
theorem dX8_freesLowestJam_56 : decode cX8_freesLowestJam 56 = .ok (.ireturn, 1) := by decide +kernel
def wX8_freesLowestJam_37 (Q : Int32 → kx_S → Prop) (l2 : Nat) (σ : kx_S) : Prop := xt σ l2 = 3 ∧ ∀ σ2, σ2 = xsi σ 50 l2 0 → ∀ σ4, σ4 = xsi σ2 51 l2 0 → Q 1 σ4
def wX8_freesLowestJam_12 (k37 : Nat → kx_S → Prop) (Q : Int32 → kx_S → Prop) : Nat → Nat → Int32 → kx_S → Prop
  | 0, _, _, _ => False
  | n + 1, l0, l1, σ => ((l1 < 0 → Q 0 σ) ∧
    (¬ (l1 < 0) → xt σ l0 = 10 ∧ ∃ a8, xr σ 163 l0 = some a8 ∧ xt σ a8 = 1 ∧ wJx4a65c_get_915e3 a8 l1 σ (fun q11 σ10 => ∃ a13, q11 = some a13 ∧ xt σ10 a13 = 3 ∧ (((xi σ10 50 a13) = 0 → ∀ v17 : Int32, v17 = l1 + (-1) → wX8_freesLowestJam_12 k37 Q n l0 v17 σ10) ∧
      (¬ ((xi σ10 50 a13) = 0) → k37 a13 σ10)))))
def wX8_freesLowestJam (l0 : Nat) (σ : kx_S) (Q : Int32 → kx_S → Prop) : Prop := xt σ l0 = 10 ∧ ∃ a19, xr σ 163 l0 = some a19 ∧ xt σ a19 = 1 ∧ wJx4a65c_size_8abf5 a19 σ (fun r22 σ21 => ∀ v24, v24 = r22 - 1 → ∃ j, wX8_freesLowestJam_12 (wX8_freesLowestJam_37 Q) Q j l0 v24 σ21)
set_option maxRecDepth 100000 in
set_option maxHeartbeats 4000000 in
theorem tX8_freesLowestJam_37 (l : Launch) (G : kx_G) (σ0 : kx_S) {p : Program} {e : Env} {s : State} {m : MethodId} {args : Array Value} {below : List Frame} {meth : Method} {c : Code} (F : CallFix p m c cX8_freesLowestJam 3 s args kt_ RX8) (hr : meth.sig.returnType = (some .boolean)) (hlocks : meth.locks = false) (Q : Int32 → kx_S → Prop) : ∀ (l2 : Nat) (σ : kx_S) (H : Heap) (locs : List Loc) (ls : Array Slot), wX8_freesLowestJam_37 Q l2 σ → kx_X G (xc σ0) s H locs σ → lv_has ls 3 [(2, .ref l2)] → kx_W p l e (3) (64) (xc σ0) s m args below meth c H locs σ (MQ below (kx_Q G σ0 (kx_ri Q)) args s (kx_N - xc σ0) (600 * (kx_N - xc σ0)) (kx_A G)) (F0 m 37 ls []) := by
  intro l2 σ H locs ls h C hl
  refine lv_aload_n F.1 F.2.1 dX8_freesLowestJam_37 rfl (lv_at hl 0 rfl) ?_
  refine lv_iconst (v := 0) F.1 F.2.1 dX8_freesLowestJam_38 (by decide) ?_
  obtain ⟨ht1, h⟩ := h
  refine xp_X1_jammed (x := 0) F C ht1 ⟨rfl, rfl⟩ ux_347 (fun _ h9 => h9) dX8_freesLowestJam_39 (fun H locs C => ?_)
  generalize eσ2 : xsi σ 50 l2 0 = σ2 at C ⊢
  replace h := h σ2 eσ2.symm
  have ht3 : xt σ2 l2 = 3 := by rw [← eσ2]; exact ht1
  refine lv_aload_n F.1 F.2.1 dX8_freesLowestJam_42 rfl (lv_at hl 0 rfl) ?_
  refine lv_iconst (v := 0) F.1 F.2.1 dX8_freesLowestJam_43 (by decide) ?_
  refine xp_X1_known (x := 0) F C ht3 ⟨rfl, rfl⟩ ux_362 (fun _ h9 => h9) dX8_freesLowestJam_44 (fun H locs C => ?_)
  generalize eσ4 : xsi σ2 51 l2 0 = σ4 at C ⊢
  replace h := h σ4 eσ4.symm
  have ht5 : xt σ4 l2 = 3 := by rw [← eσ4]; exact ht3
  refine lv_iconst (v := 1) F.1 F.2.1 dX8_freesLowestJam_47 (by decide) ?_
  exact kx_zret F C hr hlocks rfl h dX8_freesLowestJam_48
set_option maxRecDepth 100000 in
set_option maxHeartbeats 4000000 in
theorem tX8_freesLowestJam_12 (l : Launch) (G : kx_G) (σ0 : kx_S) {p : Program} {e : Env} {s : State} {m : MethodId} {args : Array Value} {below : List Frame} {meth : Method} {c : Code} (F : CallFix p m c cX8_freesLowestJam 3 s args kt_ RX8) (hr : meth.sig.returnType = (some .boolean)) (hlocks : meth.locks = false) (Q : Int32 → kx_S → Prop) (k37 : Nat → kx_S → Prop) (hk37 : ∀ (l2 : Nat) (σ : kx_S) (H : Heap) (locs : List Loc) (ls : Array Slot), k37 l2 σ → kx_X G (xc σ0) s H locs σ → lv_has ls 3 [(2, .ref l2)] → kx_W p l e (3) (64) (xc σ0) s m args below meth c H locs σ (MQ below (kx_Q G σ0 (kx_ri Q)) args s (kx_N - xc σ0) (600 * (kx_N - xc σ0)) (kx_A G)) (F0 m 37 ls [])) : ∀ (n : Nat) (l0 : Nat) (l1 : Int32) (σ : kx_S) (H : Heap) (locs : List Loc) (ls : Array Slot), wX8_freesLowestJam_12 k37 Q n l0 l1 σ → kx_X G (xc σ0) s H locs σ → lv_has ls 3 [(0, .ref l0), (1, .int l1)] → kx_W p l e (3) (64) (xc σ0) s m args below meth c H locs σ (MQ below (kx_Q G σ0 (kx_ri Q)) args s (kx_N - xc σ0) (600 * (kx_N - xc σ0)) (kx_A G)) (F0 m 12 ls []) := by
  intro n
  induction n with
  | zero => intro l0 l1 σ H locs ls h; exact h.elim
  | succ n ih =>
    intro l0 l1 σ H locs ls h C hl
    refine lv_iload_n F.1 F.2.1 dX8_freesLowestJam_12 rfl (lv_at hl 1 rfl) ?_
    refine lv_if_lt (tgt := 55) F.1 F.2.1 dX8_freesLowestJam_13 (by decide) (fun c6 => ?_) (fun c6 => ?_)
    · replace h := h.1 c6
      refine lv_iconst (v := 0) F.1 F.2.1 dX8_freesLowestJam_55 (by decide) ?_
      exact kx_zret F C hr hlocks rfl h dX8_freesLowestJam_56
    · replace h := h.2 c6
      refine lv_aload_n F.1 F.2.1 dX8_freesLowestJam_16 rfl (lv_at hl 0 rfl) ?_
      obtain ⟨ht7, h⟩ := h
      refine xg_X8_cells F C ht7 ux_330 (fun _ h9 => h9) dX8_freesLowestJam_17 ?_
      obtain ⟨a8, ea9, h⟩ := h
      refine xq_nn ea9 ?_
      refine lv_iload_n F.1 F.2.1 dX8_freesLowestJam_20 rfl (lv_at hl 1 rfl) ?_
      obtain ⟨ht12, h⟩ := h
      refine xk_Jx4a65c_get_915e3 F C a8 l1 ht12 h ux_345 (Nat.le_of_ble_eq_true rfl) (Nat.le_of_ble_eq_true rfl) hl.1 (by simp [Value.category]) dX8_freesLowestJam_21 (fun q11 σ10 H locs h C => ?_)
      obtain ⟨a13, ea14, h⟩ := h
      refine xq_nn ea14 ?_
      obtain ⟨ht15, h⟩ := h
      refine kx_cast F C (by rw [ht15]; decide) (kx_e3 ht15) rfl ux_346 dX8_freesLowestJam_26 ?_
      refine lv_astore_n (lv' := [(2, .ref a13), (0, .ref l0), (1, .int l1)]) F.1 F.2.1 dX8_freesLowestJam_29 rfl hl (by decide) rfl (fun ls hl => ?_)
      refine lv_aload_n F.1 F.2.1 dX8_freesLowestJam_30 rfl (lv_at hl 0 rfl) ?_
      refine xg_X1_jammed F C ht15 ux_347 (fun _ h9 => h9) dX8_freesLowestJam_31 ?_
      refine lv_if_eq (tgt := 49) F.1 F.2.1 dX8_freesLowestJam_34 (by decide) (fun c16 => ?_) (fun c16 => ?_)
      · replace h := h.1 c16
        obtain ⟨v17, ev17⟩ : ∃ z9 : Int32, z9 = l1 + (-1) := ⟨_, rfl⟩
        replace h := h v17 ev17
        refine lv_iinc (v := v17) (lv' := [(1, .int v17), (2, .ref a13), (0, .ref l0)]) F.1 F.2.1 dX8_freesLowestJam_49 hl (k := 2) rfl (by rw [ev17]; rfl) (by decide) rfl (fun ls hl => ?_)
        refine lv_goto (tgt := 12) F.1 F.2.1 dX8_freesLowestJam_52 (by decide) ?_
        exact ih l0 v17 σ10 H locs ls h C (lv_sub hl [2, 0] rfl)
      · replace h := h.2 c16
        exact hk37 a13 σ10 H locs ls h C (lv_sub hl [0] rfl)
set_option maxRecDepth 100000 in
set_option maxHeartbeats 4000000 in
theorem hx_X8_freesLowestJam (l : Launch) (G : kx_G) (l0 : Nat) (σ : kx_S) (Q : Int32 → kx_S → Prop) (h : wX8_freesLowestJam l0 σ Q) : kx_M l G yX8_freesLowestJam cX8_freesLowestJam 3 (some .boolean) (3) (64) [.ref l0] σ (kx_ri Q) := by
  refine kx_enter (by decide) rfl (Nat.le_of_ble_eq_true rfl) ?_
  intro p e s m below meth c ls F hr hlocks C hname hl
  have hl : lv_has ls 3 [(0, .ref l0)] := hl
  obtain ⟨H, eH⟩ : ∃ z9, z9 = s.heap := ⟨_, rfl⟩
  obtain ⟨locs, eL⟩ : ∃ z9 : List Loc, z9 = [] := ⟨_, rfl⟩
  rw [← eH, ← eL] at C
  rw [← eH, ← eL]
  obtain ⟨σ0, e0⟩ : ∃ z9, z9 = σ := ⟨_, rfl⟩
  have C : kx_X G (xc σ0) s H locs σ := by rw [e0]; exact C
  suffices hgo : kx_W p l e (3) (64) (xc σ0) s m ([.ref l0] : List Value).toArray below meth c H locs σ (MQ below (kx_Q G σ0 (kx_ri Q)) ([.ref l0] : List Value).toArray s (kx_N - xc σ0) (600 * (kx_N - xc σ0)) (kx_A G)) (F0 m 0 ls []) by rw [e0] at hgo; exact hgo
  clear e0
  refine lv_aload_n F.1 F.2.1 dX8_freesLowestJam_0 rfl (lv_at hl 0 rfl) ?_
  obtain ⟨ht18, h⟩ := h
  refine xg_X8_cells F C ht18 ux_330 (fun _ h9 => h9) dX8_freesLowestJam_1 ?_
  obtain ⟨a19, ea20, h⟩ := h
  refine xq_nn ea20 ?_
  obtain ⟨ht23, h⟩ := h
  refine xk_Jx4a65c_size_8abf5 F C a19 ht23 h ux_344 (Nat.le_of_ble_eq_true rfl) (Nat.le_of_ble_eq_true rfl) hl.1 (by simp [Value.category]) dX8_freesLowestJam_4 (fun r22 σ21 H locs h C => ?_)
  refine lv_iconst (v := 1) F.1 F.2.1 dX8_freesLowestJam_9 (by decide) ?_
  refine lv_isub (x := r22) (y := 1) F.1 F.2.1 dX8_freesLowestJam_10 ?_
  refine lv_topi (fun v24 ev24 => ?_)
  replace h := h v24 ev24
  refine lv_istore_n (lv' := [(1, .int v24), (0, .ref l0)]) F.1 F.2.1 dX8_freesLowestJam_11 rfl hl (by decide) rfl (fun ls hl => ?_)
  obtain ⟨n25, h⟩ := h
  exact tX8_freesLowestJam_12 l G σ0 F hr hlocks Q (wX8_freesLowestJam_37 Q) (tX8_freesLowestJam_37 l G σ0 F hr hlocks Q) n25 l0 v24 σ21 H locs ls h C (lv_sub hl [1, 0] rfl)
section
variable {p : Program} {l : Launch} {e : Env} {fr lo c0 : Nat} {s : State} {m : MethodId} {args : Array Value} {below : List Frame} {meth : Method} {c : Code} {H : Heap} {locs : List Loc} {Q : State → Prop}
variable {cc : ByteArray} {pc nL index : Nat} {ls : Array Slot} {rest : List Value} {G : kx_G} {σ : kx_S} {own : String}
theorem xk_X8_freesLowestJam {P : Int32 → kx_S → Prop} (F : CallFix p m c cc nL s args kt_ own) (C : kx_X G c0 s H locs σ) (l0 : Nat) (ha : xt σ l0 = 10) (h : wX8_freesLowestJam l0 σ P) (hw : Cond.methodLink own index yX8_freesLowestJam ∈ kt_) (h1 : (3) + 1 ≤ fr) (h2 : 8 + (3 + 11) + (64) ≤ lo) (hsz : ls.size = nL) (hW : (rest.map fun v => v.category).sum ≤ 8) (hdg : decode cc pc = .ok (.invokevirtual index, 3)) (kk : ∀ (r : Int32) (u : kx_S) (H1 : Heap) (locs1 : List Loc), P r u → kx_X G c0 s H1 locs1 u → kx_W p l e fr lo c0 s m args below meth c H1 locs1 u Q (F0 m (pc + 3) ls (.int r :: rest))) : kx_W p l e fr lo c0 s m args below meth c H locs σ Q (F0 m pc ls (.ref l0 :: rest)) :=
  kx_cV (n := 0) (As := []) (Cn := RX8) F C (hx_X8_freesLowestJam l G l0 σ P h) (kt_V hw ux_364 ux_365 ux_90 ux_363) (by decide +kernel) ⟨h1, h2⟩ (kx_recv C (by rw [ha]; decide) (kx_e10 ha) rfl) rfl hsz hW hdg (fun v u H1 locs1 hP9 C9 => by obtain ⟨r, hv, hp⟩ := hP9; subst hv; exact kk r u H1 locs1 hp C9)
end
theorem dX8_makeJamsKnown_0 : decode cX8_makeJamsKnown 0 = .ok (.iconst 0, 1) := by decide +kernel
theorem dX8_makeJamsKnown_1 : decode cX8_makeJamsKnown 1 = .ok (.istore_n 1, 1) := by decide +kernel
theorem dX8_makeJamsKnown_2 : decode cX8_makeJamsKnown 2 = .ok (.iload_n 1, 1) := by decide +kernel
theorem dX8_makeJamsKnown_3 : decode cX8_makeJamsKnown 3 = .ok (.aload_n 0, 1) := by decide +kernel
theorem dX8_makeJamsKnown_4 : decode cX8_makeJamsKnown 4 = .ok (.getfield 23, 3) := by decide +kernel
theorem dX8_makeJamsKnown_7 : decode cX8_makeJamsKnown 7 = .ok (.invokeinterface 55 1, 5) := by decide +kernel
theorem dX8_makeJamsKnown_12 : decode cX8_makeJamsKnown 12 = .ok (.if_icmp .ge 35, 3) := by decide +kernel
theorem dX8_makeJamsKnown_15 : decode cX8_makeJamsKnown 15 = .ok (.aload_n 0, 1) := by decide +kernel
theorem dX8_makeJamsKnown_16 : decode cX8_makeJamsKnown 16 = .ok (.getfield 23, 3) := by decide +kernel
theorem dX8_makeJamsKnown_19 : decode cX8_makeJamsKnown 19 = .ok (.iload_n 1, 1) := by decide +kernel
theorem dX8_makeJamsKnown_20 : decode cX8_makeJamsKnown 20 = .ok (.invokeinterface 61 2, 5) := by decide +kernel
theorem dX8_makeJamsKnown_25 : decode cX8_makeJamsKnown 25 = .ok (.checkcast 65, 3) := by decide +kernel
theorem dX8_makeJamsKnown_28 : decode cX8_makeJamsKnown 28 = .ok (.astore_n 2, 1) := by decide +kernel
theorem dX8_makeJamsKnown_29 : decode cX8_makeJamsKnown 29 = .ok (.aload_n 2, 1) := by decide +kernel
theorem dX8_makeJamsKnown_30 : decode cX8_makeJamsKnown 30 = .ok (.getfield 67, 3) := by decide +kernel
theorem dX8_makeJamsKnown_33 : decode cX8_makeJamsKnown 33 = .ok (.ifCond .eq 8, 3) := by decide +kernel
theorem dX8_makeJamsKnown_36 : decode cX8_makeJamsKnown 36 = .ok (.aload_n 2, 1) := by decide +kernel
theorem dX8_makeJamsKnown_37 : decode cX8_makeJamsKnown 37 = .ok (.iconst 1, 1) := by decide +kernel
theorem dX8_makeJamsKnown_38 : decode cX8_makeJamsKnown 38 = .ok (.putfield 90, 3) := by decide +kernel
theorem dX8_makeJamsKnown_41 : decode cX8_makeJamsKnown 41 = .ok (.iinc 1 1, 3) := by decide +kernel
theorem dX8_makeJamsKnown_44 : decode cX8_makeJamsKnown 44 = .ok (.goto (-42), 3) := by decide +kernel
theorem dX8_makeJamsKnown_47 : decode cX8_makeJamsKnown 47 = .ok (.return_, 1) := by decide +kernel
def wX8_makeJamsKnown_41 (k2 : Nat → Int32 → kx_S → Prop) (Q : kx_S → Prop) (l0 : Nat) (l1 : Int32) (σ : kx_S) : Prop := ∀ v1 : Int32, v1 = l1 + 1 → k2 l0 v1 σ
def wX8_makeJamsKnown_2 (Q : kx_S → Prop) : Nat → Nat → Int32 → kx_S → Prop
  | 0, _, _, _ => False
  | n + 1, l0, l1, σ => xt σ l0 = 10 ∧ ∃ a3, xr σ 163 l0 = some a3 ∧ xt σ a3 = 1 ∧ wJx4a65c_size_8abf5 a3 σ (fun r6 σ5 => ((r6 ≤ l1 → Q σ5) ∧
    (¬ (r6 ≤ l1) → xt σ5 l0 = 10 ∧ ∃ a10, xr σ5 163 l0 = some a10 ∧ xt σ5 a10 = 1 ∧ wJx4a65c_get_915e3 a10 l1 σ5 (fun q13 σ12 => ∃ a15, q13 = some a15 ∧ xt σ12 a15 = 3 ∧ (((xi σ12 50 a15) = 0 → wX8_makeJamsKnown_41 (wX8_makeJamsKnown_2 Q n) Q l0 l1 σ12) ∧
      (¬ ((xi σ12 50 a15) = 0) → ∀ σ19, σ19 = xsi σ12 51 a15 1 → wX8_makeJamsKnown_41 (wX8_makeJamsKnown_2 Q n) Q l0 l1 σ19))))))
def wX8_makeJamsKnown (l0 : Nat) (σ : kx_S) (Q : kx_S → Prop) : Prop := ∃ j, wX8_makeJamsKnown_2 Q j l0 0 σ
set_option maxRecDepth 100000 in
set_option maxHeartbeats 4000000 in
theorem tX8_makeJamsKnown_41 (l : Launch) (G : kx_G) (σ0 : kx_S) {p : Program} {e : Env} {s : State} {m : MethodId} {args : Array Value} {below : List Frame} {meth : Method} {c : Code} (F : CallFix p m c cX8_makeJamsKnown 3 s args kt_ RX8) (hr : meth.sig.returnType = none) (hlocks : meth.locks = false) (Q : kx_S → Prop) (k2 : Nat → Int32 → kx_S → Prop) (hk2 : ∀ (l0 : Nat) (l1 : Int32) (σ : kx_S) (H : Heap) (locs : List Loc) (ls : Array Slot), k2 l0 l1 σ → kx_X G (xc σ0) s H locs σ → lv_has ls 3 [(0, .ref l0), (1, .int l1)] → kx_W p l e (3) (64) (xc σ0) s m args below meth c H locs σ (MQ below (kx_Q G σ0 (kx_rv Q)) args s (kx_N - xc σ0) (600 * (kx_N - xc σ0)) (kx_A G)) (F0 m 2 ls [])) : ∀ (l0 : Nat) (l1 : Int32) (σ : kx_S) (H : Heap) (locs : List Loc) (ls : Array Slot), wX8_makeJamsKnown_41 k2 Q l0 l1 σ → kx_X G (xc σ0) s H locs σ → lv_has ls 3 [(0, .ref l0), (1, .int l1)] → kx_W p l e (3) (64) (xc σ0) s m args below meth c H locs σ (MQ below (kx_Q G σ0 (kx_rv Q)) args s (kx_N - xc σ0) (600 * (kx_N - xc σ0)) (kx_A G)) (F0 m 41 ls []) := by
  intro l0 l1 σ H locs ls h C hl
  obtain ⟨v1, ev1⟩ : ∃ z9 : Int32, z9 = l1 + 1 := ⟨_, rfl⟩
  replace h := h v1 ev1
  refine lv_iinc (v := v1) (lv' := [(1, .int v1), (0, .ref l0)]) F.1 F.2.1 dX8_makeJamsKnown_41 hl (k := 1) rfl (by rw [ev1]; rfl) (by decide) rfl (fun ls hl => ?_)
  refine lv_goto (tgt := 2) F.1 F.2.1 dX8_makeJamsKnown_44 (by decide) ?_
  exact hk2 l0 v1 σ H locs ls h C (lv_sub hl [1, 0] rfl)
set_option maxRecDepth 100000 in
set_option maxHeartbeats 4000000 in
theorem tX8_makeJamsKnown_2 (l : Launch) (G : kx_G) (σ0 : kx_S) {p : Program} {e : Env} {s : State} {m : MethodId} {args : Array Value} {below : List Frame} {meth : Method} {c : Code} (F : CallFix p m c cX8_makeJamsKnown 3 s args kt_ RX8) (hr : meth.sig.returnType = none) (hlocks : meth.locks = false) (Q : kx_S → Prop) : ∀ (n : Nat) (l0 : Nat) (l1 : Int32) (σ : kx_S) (H : Heap) (locs : List Loc) (ls : Array Slot), wX8_makeJamsKnown_2 Q n l0 l1 σ → kx_X G (xc σ0) s H locs σ → lv_has ls 3 [(0, .ref l0), (1, .int l1)] → kx_W p l e (3) (64) (xc σ0) s m args below meth c H locs σ (MQ below (kx_Q G σ0 (kx_rv Q)) args s (kx_N - xc σ0) (600 * (kx_N - xc σ0)) (kx_A G)) (F0 m 2 ls []) := by
  intro n
  induction n with
  | zero => intro l0 l1 σ H locs ls h; exact h.elim
  | succ n ih =>
    intro l0 l1 σ H locs ls h C hl
    refine lv_iload_n F.1 F.2.1 dX8_makeJamsKnown_2 rfl (lv_at hl 1 rfl) ?_
    refine lv_aload_n F.1 F.2.1 dX8_makeJamsKnown_3 rfl (lv_at hl 0 rfl) ?_
    obtain ⟨ht2, h⟩ := h
    refine xg_X8_cells F C ht2 ux_330 (fun _ h9 => h9) dX8_makeJamsKnown_4 ?_
    obtain ⟨a3, ea4, h⟩ := h
    refine xq_nn ea4 ?_
    obtain ⟨ht7, h⟩ := h
    refine xk_Jx4a65c_size_8abf5 F C a3 ht7 h ux_344 (Nat.le_of_ble_eq_true rfl) (Nat.le_of_ble_eq_true rfl) hl.1 (by simp [Value.category]) dX8_makeJamsKnown_7 (fun r6 σ5 H locs h C => ?_)
    refine lv_icmp_ge (tgt := 47) F.1 F.2.1 dX8_makeJamsKnown_12 (by decide) (fun c8 => ?_) (fun c8 => ?_)
    · replace h := h.1 c8
      exact kx_vret F C hr hlocks h dX8_makeJamsKnown_47
    · replace h := h.2 c8
      refine lv_aload_n F.1 F.2.1 dX8_makeJamsKnown_15 rfl (lv_at hl 0 rfl) ?_
      obtain ⟨ht9, h⟩ := h
      refine xg_X8_cells F C ht9 ux_330 (fun _ h9 => h9) dX8_makeJamsKnown_16 ?_
      obtain ⟨a10, ea11, h⟩ := h
      refine xq_nn ea11 ?_
      refine lv_iload_n F.1 F.2.1 dX8_makeJamsKnown_19 rfl (lv_at hl 1 rfl) ?_
      obtain ⟨ht14, h⟩ := h
      refine xk_Jx4a65c_get_915e3 F C a10 l1 ht14 h ux_345 (Nat.le_of_ble_eq_true rfl) (Nat.le_of_ble_eq_true rfl) hl.1 (by simp [Value.category]) dX8_makeJamsKnown_20 (fun q13 σ12 H locs h C => ?_)
      obtain ⟨a15, ea16, h⟩ := h
      refine xq_nn ea16 ?_
      obtain ⟨ht17, h⟩ := h
      refine kx_cast F C (by rw [ht17]; decide) (kx_e3 ht17) rfl ux_346 dX8_makeJamsKnown_25 ?_
      refine lv_astore_n (lv' := [(2, .ref a15), (0, .ref l0), (1, .int l1)]) F.1 F.2.1 dX8_makeJamsKnown_28 rfl hl (by decide) rfl (fun ls hl => ?_)
      refine lv_aload_n F.1 F.2.1 dX8_makeJamsKnown_29 rfl (lv_at hl 0 rfl) ?_
      refine xg_X1_jammed F C ht17 ux_347 (fun _ h9 => h9) dX8_makeJamsKnown_30 ?_
      refine lv_if_eq (tgt := 41) F.1 F.2.1 dX8_makeJamsKnown_33 (by decide) (fun c18 => ?_) (fun c18 => ?_)
      · replace h := h.1 c18
        exact tX8_makeJamsKnown_41 l G σ0 F hr hlocks Q (wX8_makeJamsKnown_2 Q n) (fun l0 l1 σ9 H locs ls h C hl => ih l0 l1 σ9 H locs ls h C hl) l0 l1 σ12 H locs ls h C (lv_sub hl [1, 2] rfl)
      · replace h := h.2 c18
        refine lv_aload_n F.1 F.2.1 dX8_makeJamsKnown_36 rfl (lv_at hl 0 rfl) ?_
        refine lv_iconst (v := 1) F.1 F.2.1 dX8_makeJamsKnown_37 (by decide) ?_
        refine xp_X1_known (x := 1) F C ht17 ⟨rfl, rfl⟩ ux_362 (fun _ h9 => h9) dX8_makeJamsKnown_38 (fun H locs C => ?_)
        generalize eσ19 : xsi σ12 51 a15 1 = σ19 at C ⊢
        replace h := h σ19 eσ19.symm
        have ht20 : xt σ19 a15 = 3 := by rw [← eσ19]; exact ht17
        exact tX8_makeJamsKnown_41 l G σ0 F hr hlocks Q (wX8_makeJamsKnown_2 Q n) (fun l0 l1 σ9 H locs ls h C hl => ih l0 l1 σ9 H locs ls h C hl) l0 l1 σ19 H locs ls h C (lv_sub hl [1, 2] rfl)
set_option maxRecDepth 100000 in
set_option maxHeartbeats 4000000 in
theorem hx_X8_makeJamsKnown (l : Launch) (G : kx_G) (l0 : Nat) (σ : kx_S) (Q : kx_S → Prop) (h : wX8_makeJamsKnown l0 σ Q) : kx_M l G yX8_makeJamsKnown cX8_makeJamsKnown 3 none (3) (64) [.ref l0] σ (kx_rv Q) := by
  refine kx_enter (by decide) rfl (Nat.le_of_ble_eq_true rfl) ?_
  intro p e s m below meth c ls F hr hlocks C hname hl
  have hl : lv_has ls 3 [(0, .ref l0)] := hl
  obtain ⟨H, eH⟩ : ∃ z9, z9 = s.heap := ⟨_, rfl⟩
  obtain ⟨locs, eL⟩ : ∃ z9 : List Loc, z9 = [] := ⟨_, rfl⟩
  rw [← eH, ← eL] at C
  rw [← eH, ← eL]
  obtain ⟨σ0, e0⟩ : ∃ z9, z9 = σ := ⟨_, rfl⟩
  have C : kx_X G (xc σ0) s H locs σ := by rw [e0]; exact C
  suffices hgo : kx_W p l e (3) (64) (xc σ0) s m ([.ref l0] : List Value).toArray below meth c H locs σ (MQ below (kx_Q G σ0 (kx_rv Q)) ([.ref l0] : List Value).toArray s (kx_N - xc σ0) (600 * (kx_N - xc σ0)) (kx_A G)) (F0 m 0 ls []) by rw [e0] at hgo; exact hgo
  clear e0
  refine lv_iconst (v := 0) F.1 F.2.1 dX8_makeJamsKnown_0 (by decide) ?_
  refine lv_istore_n (lv' := [(1, .int 0), (0, .ref l0)]) F.1 F.2.1 dX8_makeJamsKnown_1 rfl hl (by decide) rfl (fun ls hl => ?_)
  obtain ⟨n21, h⟩ := h
  exact tX8_makeJamsKnown_2 l G σ0 F hr hlocks Q n21 l0 0 σ H locs ls h C (lv_sub hl [1, 0] rfl)
section
variable {p : Program} {l : Launch} {e : Env} {fr lo c0 : Nat} {s : State} {m : MethodId} {args : Array Value} {below : List Frame} {meth : Method} {c : Code} {H : Heap} {locs : List Loc} {Q : State → Prop}
variable {cc : ByteArray} {pc nL index : Nat} {ls : Array Slot} {rest : List Value} {G : kx_G} {σ : kx_S} {own : String}
theorem xk_X8_makeJamsKnown {P : kx_S → Prop} (F : CallFix p m c cc nL s args kt_ own) (C : kx_X G c0 s H locs σ) (l0 : Nat) (ha : xt σ l0 = 10) (h : wX8_makeJamsKnown l0 σ P) (hw : Cond.methodLink own index yX8_makeJamsKnown ∈ kt_) (h1 : (3) + 1 ≤ fr) (h2 : 8 + (3 + 11) + (64) ≤ lo) (hsz : ls.size = nL) (hW : (rest.map fun v => v.category).sum ≤ 8) (hdg : decode cc pc = .ok (.invokevirtual index, 3)) (kk : ∀ (u : kx_S) (H1 : Heap) (locs1 : List Loc), P u → kx_X G c0 s H1 locs1 u → kx_W p l e fr lo c0 s m args below meth c H1 locs1 u Q (F0 m (pc + 3) ls rest)) : kx_W p l e fr lo c0 s m args below meth c H locs σ Q (F0 m pc ls (.ref l0 :: rest)) :=
  kx_cV (n := 0) (As := []) (Cn := RX8) F C (hx_X8_makeJamsKnown l G l0 σ P h) (kt_V hw ux_367 ux_368 ux_90 ux_366) (by decide +kernel) ⟨h1, h2⟩ (kx_recv C (by rw [ha]; decide) (kx_e10 ha) rfl) rfl hsz hW hdg (fun v u H1 locs1 hP9 C9 => by obtain ⟨hv, hp⟩ := hP9; subst hv; exact kk u H1 locs1 hp C9)
end
theorem dX9_init_0 : decode cX9_init 0 = .ok (.aload_n 0, 1) := by decide +kernel
theorem dX9_init_1 : decode cX9_init 1 = .ok (.invokespecial 1, 3) := by decide +kernel
theorem dX9_init_4 : decode cX9_init 4 = .ok (.aload_n 0, 1) := by decide +kernel
theorem dX9_init_5 : decode cX9_init 5 = .ok (.sipush 500, 3) := by decide +kernel
theorem dX9_init_8 : decode cX9_init 8 = .ok (.newarray .int, 2) := by decide +kernel
theorem dX9_init_10 : decode cX9_init 10 = .ok (.putfield 9, 3) := by decide +kernel
theorem dX9_init_13 : decode cX9_init 13 = .ok (.return_, 1) := by decide +kernel
def wX9_init (l0 : Nat) (σ : kx_S) (Q : kx_S → Prop) : Prop := xc σ < kx_N ∧ ¬ (500 : Int32) < 0 ∧ (Int32.toNatClampNeg 500) ≤ 600 ∧ ∀ p1, xt σ p1 = 0 → p1 ≠ xz σ → ∀ σ7, σ7 = xnewA σ p1 20 (Int32.toNatClampNeg 500) → xt σ7 l0 = 11 ∧ ∀ σ10, σ10 = xsr σ7 176 l0 (some p1) → Q σ10
set_option maxRecDepth 100000 in
set_option maxHeartbeats 4000000 in
theorem hx_X9_init (l : Launch) (G : kx_G) (l0 : Nat) (σ : kx_S) (Q : kx_S → Prop) (h : wX9_init l0 σ Q) : kx_M l G yX9_init cX9_init 1 none (1) (12) [.ref l0] σ (kx_rv Q) := by
  refine kx_enter (by decide) rfl (Nat.le_of_ble_eq_true rfl) ?_
  intro p e s m below meth c ls F hr hlocks C hname hl
  have hini : meth.name = "<init>" := hname
  have hl : lv_has ls 1 [(0, .ref l0)] := hl
  obtain ⟨H, eH⟩ : ∃ z9, z9 = s.heap := ⟨_, rfl⟩
  obtain ⟨locs, eL⟩ : ∃ z9 : List Loc, z9 = [] := ⟨_, rfl⟩
  rw [← eH, ← eL] at C
  rw [← eH, ← eL]
  obtain ⟨σ0, e0⟩ : ∃ z9, z9 = σ := ⟨_, rfl⟩
  have C : kx_X G (xc σ0) s H locs σ := by rw [e0]; exact C
  suffices hgo : kx_W p l e (1) (12) (xc σ0) s m ([.ref l0] : List Value).toArray below meth c H locs σ (MQ below (kx_Q G σ0 (kx_rv Q)) ([.ref l0] : List Value).toArray s (kx_N - xc σ0) (600 * (kx_N - xc σ0)) (kx_A G)) (F0 m 0 ls []) by rw [e0] at hgo; exact hgo
  clear e0
  refine lv_aload_n F.1 F.2.1 dX9_init_0 rfl (lv_at hl 0 rfl) ?_
  refine kx_objI F ux_369 hl.1 (Nat.le_of_ble_eq_true rfl) (by simp [Value.category]) dX9_init_1 ?_
  refine lv_aload_n F.1 F.2.1 dX9_init_4 rfl (lv_at hl 0 rfl) ?_
  refine lv_sipush (v := 500) F.1 F.2.1 dX9_init_5 (by decide) ?_
  obtain ⟨hn2, hn3, hn4, h⟩ := h
  refine kx_newi F C ux_201 hn2 hn3 hn4 dX9_init_8 (fun p1 H z5 z6 C => ?_)
  replace h := h p1 z5 (fun h9 => z6 (h9.trans (show xz σ = _ from C.2.1.1)))
  generalize eσ7 : xnewA σ p1 20 (Int32.toNatClampNeg 500) = σ7 at C ⊢
  replace h := h σ7 eσ7.symm
  have ht8 : xt σ7 p1 = 20 := by rw [← eσ7]; exact va_up_self _ _ _
  obtain ⟨ht9, h⟩ := h
  refine xp_X9_bytes (x := some p1) F C ht9 ux_370 (fun _ h9 => h9) hini rfl dX9_init_10 (fun H locs C => ?_)
  generalize eσ10 : xsr σ7 176 l0 (some p1) = σ10 at C ⊢
  replace h := h σ10 eσ10.symm
  have ht11 : xt σ10 p1 = 20 := by rw [← eσ10]; exact ht8
  have ht12 : xt σ10 l0 = 11 := by rw [← eσ10]; exact ht9
  exact kx_vret F C hr hlocks h dX9_init_13
section
variable {p : Program} {l : Launch} {e : Env} {fr lo c0 : Nat} {s : State} {m : MethodId} {args : Array Value} {below : List Frame} {meth : Method} {c : Code} {H : Heap} {locs : List Loc} {Q : State → Prop}
variable {cc : ByteArray} {pc nL index : Nat} {ls : Array Slot} {rest : List Value} {G : kx_G} {σ : kx_S} {own : String}
theorem xk_X9_init {P : kx_S → Prop} (F : CallFix p m c cc nL s args kt_ own) (C : kx_X G c0 s H locs σ) (l0 : Nat) (h : wX9_init l0 σ P) (hw : Cond.methodLink own index yX9_init ∈ kt_) (h1 : (1) + 1 ≤ fr) (h2 : 8 + (1 + 11) + (12) ≤ lo) (hsz : ls.size = nL) (hW : (rest.map fun v => v.category).sum ≤ 8) (hdg : decode cc pc = .ok (.invokespecial index, 3)) (kk : ∀ (u : kx_S) (H1 : Heap) (locs1 : List Loc), P u → kx_X G c0 s H1 locs1 u → kx_W p l e fr lo c0 s m args below meth c H1 locs1 u Q (F0 m (pc + 3) ls rest)) : kx_W p l e fr lo c0 s m args below meth c H locs σ Q (F0 m pc ls (.ref l0 :: rest)) :=
  kx_cI (n := 0) (As := []) F C (hx_X9_init l G l0 σ P h) ux_371 ux_94 hw ux_372 rfl (by decide +kernel) ⟨h1, h2⟩ rfl hsz hW hdg (fun v u H1 locs1 hP9 C9 => by obtain ⟨hv, hp⟩ := hP9; subst hv; exact kk u H1 locs1 hp C9)
end
theorem dX9_append_0 : decode cX9_append 0 = .ok (.bipush 24, 2) := by decide +kernel
theorem dX9_append_2 : decode cX9_append 2 = .ok (.istore_n 2, 1) := by decide +kernel
theorem dX9_append_3 : decode cX9_append 3 = .ok (.iload_n 2, 1) := by decide +kernel
theorem dX9_append_4 : decode cX9_append 4 = .ok (.ifCond .lt 47, 3) := by decide +kernel
theorem dX9_append_7 : decode cX9_append 7 = .ok (.aload_n 0, 1) := by decide +kernel
theorem dX9_append_8 : decode cX9_append 8 = .ok (.getfield 13, 3) := by decide +kernel
theorem dX9_append_11 : decode cX9_append 11 = .ok (.aload_n 0, 1) := by decide +kernel
theorem dX9_append_12 : decode cX9_append 12 = .ok (.getfield 9, 3) := by decide +kernel
theorem dX9_append_15 : decode cX9_append 15 = .ok (.arraylength, 1) := by decide +kernel
theorem dX9_append_16 : decode cX9_append 16 = .ok (.if_icmp .ge 35, 3) := by decide +kernel
theorem dX9_append_19 : decode cX9_append 19 = .ok (.aload_n 0, 1) := by decide +kernel
theorem dX9_append_20 : decode cX9_append 20 = .ok (.getfield 9, 3) := by decide +kernel
theorem dX9_append_23 : decode cX9_append 23 = .ok (.aload_n 0, 1) := by decide +kernel
theorem dX9_append_24 : decode cX9_append 24 = .ok (.getfield 13, 3) := by decide +kernel
theorem dX9_append_27 : decode cX9_append 27 = .ok (.iload_n 1, 1) := by decide +kernel
theorem dX9_append_28 : decode cX9_append 28 = .ok (.iload_n 2, 1) := by decide +kernel
theorem dX9_append_29 : decode cX9_append 29 = .ok (.iushr, 1) := by decide +kernel
theorem dX9_append_30 : decode cX9_append 30 = .ok (.sipush 255, 3) := by decide +kernel
theorem dX9_append_33 : decode cX9_append 33 = .ok (.iand, 1) := by decide +kernel
theorem dX9_append_34 : decode cX9_append 34 = .ok (.iastore, 1) := by decide +kernel
theorem dX9_append_35 : decode cX9_append 35 = .ok (.aload_n 0, 1) := by decide +kernel
theorem dX9_append_36 : decode cX9_append 36 = .ok (.dup, 1) := by decide +kernel
theorem dX9_append_37 : decode cX9_append 37 = .ok (.getfield 13, 3) := by decide +kernel
theorem dX9_append_40 : decode cX9_append 40 = .ok (.iconst 1, 1) := by decide +kernel
theorem dX9_append_41 : decode cX9_append 41 = .ok (.iadd, 1) := by decide +kernel
theorem dX9_append_42 : decode cX9_append 42 = .ok (.putfield 13, 3) := by decide +kernel
theorem dX9_append_45 : decode cX9_append 45 = .ok (.iinc 2 (-8), 3) := by decide +kernel
theorem dX9_append_48 : decode cX9_append 48 = .ok (.goto (-45), 3) := by decide +kernel
theorem dX9_append_51 : decode cX9_append 51 = .ok (.return_, 1) := by decide +kernel
def wX9_append_3 (Q : kx_S → Prop) : Nat → Nat → Int32 → Int32 → kx_S → Prop
  | 0, _, _, _, _ => False
  | n + 1, l0, l1, l2, σ => ((l2 < 0 → Q σ) ∧
    (¬ (l2 < 0) → xt σ l0 = 11 ∧ ∃ a3, xr σ 176 l0 = some a3 ∧ xt σ a3 = 20 ∧ (((nI (xn σ a3)) ≤ (xi σ 177 l0) → Q σ) ∧
      (¬ ((nI (xn σ a3)) ≤ (xi σ 177 l0)) → ∃ a7, xr σ 176 l0 = some a7 ∧ ∀ v9 : Int32, v9 = (l1.toUInt32 >>> (l2.toUInt32 &&& Int32.toUInt32 31)).toInt32 → xt σ a7 = 20 ∧ vp_in (xi σ 177 l0) (xn σ a7) ∧ ∀ σ12, σ12 = xsai σ a7 (xi σ 177 l0).toNatClampNeg (v9 &&& 255) → ∀ σ16, σ16 = xsi σ12 177 l0 ((xi σ12 177 l0) + 1) → ∀ v20 : Int32, v20 = l2 + (-8) → wX9_append_3 Q n l0 l1 v20 σ16))))
def wX9_append (l0 : Nat) (l1 : Int32) (σ : kx_S) (Q : kx_S → Prop) : Prop := ∃ j, wX9_append_3 Q j l0 l1 24 σ
set_option maxRecDepth 100000 in
set_option maxHeartbeats 4000000 in
theorem tX9_append_3 (l : Launch) (G : kx_G) (σ0 : kx_S) {p : Program} {e : Env} {s : State} {m : MethodId} {args : Array Value} {below : List Frame} {meth : Method} {c : Code} (F : CallFix p m c cX9_append 3 s args kt_ RX9) (hr : meth.sig.returnType = none) (hlocks : meth.locks = false) (Q : kx_S → Prop) : ∀ (n : Nat) (l0 : Nat) (l1 : Int32) (l2 : Int32) (σ : kx_S) (H : Heap) (locs : List Loc) (ls : Array Slot), wX9_append_3 Q n l0 l1 l2 σ → kx_X G (xc σ0) s H locs σ → lv_has ls 3 [(0, .ref l0), (1, .int l1), (2, .int l2)] → kx_W p l e (0) (0) (xc σ0) s m args below meth c H locs σ (MQ below (kx_Q G σ0 (kx_rv Q)) args s (kx_N - xc σ0) (600 * (kx_N - xc σ0)) (kx_A G)) (F0 m 3 ls []) := by
  intro n
  induction n with
  | zero => intro l0 l1 l2 σ H locs ls h; exact h.elim
  | succ n ih =>
    intro l0 l1 l2 σ H locs ls h C hl
    refine lv_iload_n F.1 F.2.1 dX9_append_3 rfl (lv_at hl 2 rfl) ?_
    refine lv_if_lt (tgt := 51) F.1 F.2.1 dX9_append_4 (by decide) (fun c1 => ?_) (fun c1 => ?_)
    · replace h := h.1 c1
      exact kx_vret F C hr hlocks h dX9_append_51
    · replace h := h.2 c1
      refine lv_aload_n F.1 F.2.1 dX9_append_7 rfl (lv_at hl 0 rfl) ?_
      obtain ⟨ht2, h⟩ := h
      refine xg_X9_length F C ht2 ux_373 (fun _ h9 => h9) dX9_append_8 ?_
      refine lv_aload_n F.1 F.2.1 dX9_append_11 rfl (lv_at hl 0 rfl) ?_
      refine xg_X9_bytes F C ht2 ux_370 (fun _ h9 => h9) dX9_append_12 ?_
      obtain ⟨a3, ea4, h⟩ := h
      refine xq_nn ea4 ?_
      obtain ⟨ht5, h⟩ := h
      refine kx_alen F C (Or.inl ht5) dX9_append_15 ?_
      refine lv_icmp_ge (tgt := 51) F.1 F.2.1 dX9_append_16 (by decide) (fun c6 => ?_) (fun c6 => ?_)
      · replace h := h.1 c6
        exact kx_vret F C hr hlocks h dX9_append_51
      · replace h := h.2 c6
        refine lv_aload_n F.1 F.2.1 dX9_append_19 rfl (lv_at hl 0 rfl) ?_
        refine xg_X9_bytes F C ht2 ux_370 (fun _ h9 => h9) dX9_append_20 ?_
        obtain ⟨a7, ea8, h⟩ := h
        refine xq_nn ea8 ?_
        refine lv_aload_n F.1 F.2.1 dX9_append_23 rfl (lv_at hl 0 rfl) ?_
        refine xg_X9_length F C ht2 ux_373 (fun _ h9 => h9) dX9_append_24 ?_
        refine lv_iload_n F.1 F.2.1 dX9_append_27 rfl (lv_at hl 1 rfl) ?_
        refine lv_iload_n F.1 F.2.1 dX9_append_28 rfl (lv_at hl 2 rfl) ?_
        refine lv_iushr (x := l1) (y := l2) F.1 F.2.1 dX9_append_29 rfl ?_
        refine lv_topi (fun v9 ev9 => ?_)
        replace h := h v9 ev9
        refine lv_sipush (v := 255) F.1 F.2.1 dX9_append_30 (by decide) ?_
        refine lv_iand (x := v9) (y := 255) F.1 F.2.1 dX9_append_33 ?_
        obtain ⟨ht10, h⟩ := h
        obtain ⟨hn11, h⟩ := h
        refine kx_iast F C ht10 hn11 dX9_append_34 (fun H locs C => ?_)
        generalize eσ12 : xsai σ a7 (xi σ 177 l0).toNatClampNeg (v9 &&& 255) = σ12 at C ⊢
        replace h := h σ12 eσ12.symm
        have ht13 : xt σ12 l0 = 11 := by rw [← eσ12]; exact ht2
        have ht14 : xt σ12 a3 = 20 := by rw [← eσ12]; exact ht5
        have ht15 : xt σ12 a7 = 20 := by rw [← eσ12]; exact ht10
        refine lv_aload_n F.1 F.2.1 dX9_append_35 rfl (lv_at hl 0 rfl) ?_
        refine lv_dup F.1 F.2.1 dX9_append_36 rfl ?_
        refine xg_X9_length F C ht13 ux_373 (fun _ h9 => h9) dX9_append_37 ?_
        refine lv_iconst (v := 1) F.1 F.2.1 dX9_append_40 (by decide) ?_
        refine lv_iadd (x := xi σ12 177 l0) (y := 1) F.1 F.2.1 dX9_append_41 ?_
        refine xp_X9_length (x := (xi σ12 177 l0) + 1) F C ht13 ux_373 (fun _ h9 => h9) dX9_append_42 (fun H locs C => ?_)
        generalize eσ16 : xsi σ12 177 l0 ((xi σ12 177 l0) + 1) = σ16 at C ⊢
        replace h := h σ16 eσ16.symm
        have ht17 : xt σ16 l0 = 11 := by rw [← eσ16]; exact ht13
        have ht18 : xt σ16 a3 = 20 := by rw [← eσ16]; exact ht14
        have ht19 : xt σ16 a7 = 20 := by rw [← eσ16]; exact ht15
        obtain ⟨v20, ev20⟩ : ∃ z9 : Int32, z9 = l2 + (-8) := ⟨_, rfl⟩
        replace h := h v20 ev20
        refine lv_iinc (v := v20) (lv' := [(2, .int v20), (0, .ref l0), (1, .int l1)]) F.1 F.2.1 dX9_append_45 hl (k := 2) rfl (by rw [ev20]; rfl) (by decide) rfl (fun ls hl => ?_)
        refine lv_goto (tgt := 3) F.1 F.2.1 dX9_append_48 (by decide) ?_
        exact ih l0 l1 v20 σ16 H locs ls h C (lv_sub hl [1, 2, 0] rfl)
set_option maxRecDepth 100000 in
set_option maxHeartbeats 4000000 in
theorem hx_X9_append (l : Launch) (G : kx_G) (l0 : Nat) (l1 : Int32) (σ : kx_S) (Q : kx_S → Prop) (h : wX9_append l0 l1 σ Q) : kx_M l G yX9_append cX9_append 3 none (0) (0) [.ref l0, .int l1] σ (kx_rv Q) := by
  refine kx_enter (by decide) rfl (Nat.le_of_ble_eq_true rfl) ?_
  intro p e s m below meth c ls F hr hlocks C hname hl
  have hl : lv_has ls 3 [(0, .ref l0), (1, .int l1)] := hl
  obtain ⟨H, eH⟩ : ∃ z9, z9 = s.heap := ⟨_, rfl⟩
  obtain ⟨locs, eL⟩ : ∃ z9 : List Loc, z9 = [] := ⟨_, rfl⟩
  rw [← eH, ← eL] at C
  rw [← eH, ← eL]
  obtain ⟨σ0, e0⟩ : ∃ z9, z9 = σ := ⟨_, rfl⟩
  have C : kx_X G (xc σ0) s H locs σ := by rw [e0]; exact C
  suffices hgo : kx_W p l e (0) (0) (xc σ0) s m ([.ref l0, .int l1] : List Value).toArray below meth c H locs σ (MQ below (kx_Q G σ0 (kx_rv Q)) ([.ref l0, .int l1] : List Value).toArray s (kx_N - xc σ0) (600 * (kx_N - xc σ0)) (kx_A G)) (F0 m 0 ls []) by rw [e0] at hgo; exact hgo
  clear e0
  refine lv_bipush (v := 24) F.1 F.2.1 dX9_append_0 (by decide) ?_
  refine lv_istore_n (lv' := [(2, .int 24), (0, .ref l0), (1, .int l1)]) F.1 F.2.1 dX9_append_2 rfl hl (by decide) rfl (fun ls hl => ?_)
  obtain ⟨n21, h⟩ := h
  exact tX9_append_3 l G σ0 F hr hlocks Q n21 l0 l1 24 σ H locs ls h C (lv_sub hl [1, 2, 0] rfl)
section
variable {p : Program} {l : Launch} {e : Env} {fr lo c0 : Nat} {s : State} {m : MethodId} {args : Array Value} {below : List Frame} {meth : Method} {c : Code} {H : Heap} {locs : List Loc} {Q : State → Prop}
variable {cc : ByteArray} {pc nL index : Nat} {ls : Array Slot} {rest : List Value} {G : kx_G} {σ : kx_S} {own : String}
theorem xk_X9_append {P : kx_S → Prop} (F : CallFix p m c cc nL s args kt_ own) (C : kx_X G c0 s H locs σ) (l0 : Nat) (l1 : Int32) (ha : xt σ l0 = 11) (h : wX9_append l0 l1 σ P) (hw : Cond.methodLink own index yX9_append ∈ kt_) (h1 : (0) + 1 ≤ fr) (h2 : 8 + (3 + 11) + (0) ≤ lo) (hsz : ls.size = nL) (hW : (rest.map fun v => v.category).sum ≤ 8) (hdg : decode cc pc = .ok (.invokevirtual index, 3)) (kk : ∀ (u : kx_S) (H1 : Heap) (locs1 : List Loc), P u → kx_X G c0 s H1 locs1 u → kx_W p l e fr lo c0 s m args below meth c H1 locs1 u Q (F0 m (pc + 3) ls rest)) : kx_W p l e fr lo c0 s m args below meth c H locs σ Q (F0 m pc ls (.int l1 :: .ref l0 :: rest)) :=
  kx_cV (n := 1) (As := [.int l1]) (Cn := RX9) F C (hx_X9_append l G l0 l1 σ P h) (kt_V hw ux_375 ux_376 ux_94 ux_374) (by decide +kernel) ⟨h1, h2⟩ (kx_recv C (by rw [ha]; decide) (kx_e11 ha) rfl) rfl hsz hW hdg (fun v u H1 locs1 hP9 C9 => by obtain ⟨hv, hp⟩ := hP9; subst hv; exact kk u H1 locs1 hp C9)
end

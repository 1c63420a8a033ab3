theorem ux_377 : Cond.methodLink RX10 3 objectInit ∈ kt_ := kt_m (kt_t1 _ (List.mem_of_getElem? (i := 92) (by decide +kernel))) (by decide +kernel)
theorem ux_378 : Cond.fieldLink RX10 9 "LogRiver$Tokens" "tape" "LLogRiver$Tape;" ∈ kt_ := kt_m (kt_t1 _ (List.mem_of_getElem? (i := 93) (by decide +kernel))) (by decide +kernel)
theorem ux_379 : Cond.code yX10_init cX10_init 2 none ∈ kt_ := kt_m (kt_t1 _ (List.mem_of_getElem? (i := 91) (by decide +kernel))) (by decide +kernel)
theorem ux_380 : Cond.instanceMethod yX10_init ∈ kt_ := kt_m (kt_t1 _ (List.mem_of_getElem? (i := 90) (by decide +kernel))) (by decide +kernel)
theorem ux_381 : Cond.code yX10_kindOf cX10_kindOf 1 (some .int) ∈ kt_ := kt_m (kt_t3 _ (List.mem_of_getElem? (i := 184) (by decide +kernel))) (by decide +kernel)
theorem ux_382 : Cond.static yX10_kindOf ∈ kt_ := kt_m (kt_t3 _ (List.mem_of_getElem? (i := 183) (by decide +kernel))) (by decide +kernel)
theorem ux_383 : Cond.fieldLink RX10 15 "LogRiver$Tokens" "length" "I" ∈ kt_ := kt_m (kt_t1 _ (List.mem_of_getElem? (i := 94) (by decide +kernel))) (by decide +kernel)
theorem ux_384 : Cond.fieldLink RX10 56 "LogRiver$Tape" "bytes" "[I" ∈ kt_ := kt_m (kt_t1 _ (List.mem_of_getElem? (i := 72) (by decide +kernel))) (by decide +kernel)
theorem ux_385 : Cond.code yX10_byteAt cX10_byteAt 2 (some .int) ∈ kt_ := kt_m (kt_t3 _ (List.mem_of_getElem? (i := 181) (by decide +kernel))) (by decide +kernel)
theorem ux_386 : Cond.instanceMethod yX10_byteAt ∈ kt_ := kt_m (kt_t3 _ (List.mem_of_getElem? (i := 180) (by decide +kernel))) (by decide +kernel)
theorem ux_387 : Cond.selects RX10 yX10_byteAt yX10_byteAt ∈ kt_ := kt_m (kt_s1 _ (List.mem_of_getElem? (i := 7) (by decide +kernel))) (by decide +kernel)
theorem ux_388 : Cond.methodLink RX10 32 yX10_byteAt ∈ kt_ := kt_m (kt_t3 _ (List.mem_of_getElem? (i := 178) (by decide +kernel))) (by decide +kernel)
theorem ux_389 : Cond.methodLink RX10 36 yX10_kindOf ∈ kt_ := kt_m (kt_t3 _ (List.mem_of_getElem? (i := 182) (by decide +kernel))) (by decide +kernel)
theorem ux_390 : Cond.code yX10_endOfRow cX10_endOfRow 4 (some .int) ∈ kt_ := kt_m (kt_t3 _ (List.mem_of_getElem? (i := 177) (by decide +kernel))) (by decide +kernel)
theorem ux_391 : Cond.instanceMethod yX10_endOfRow ∈ kt_ := kt_m (kt_t3 _ (List.mem_of_getElem? (i := 176) (by decide +kernel))) (by decide +kernel)
theorem ux_392 : Cond.selects RX10 yX10_endOfRow yX10_endOfRow ∈ kt_ := kt_m (kt_s1 _ (List.mem_of_getElem? (i := 6) (by decide +kernel))) (by decide +kernel)
theorem ux_393 : Cond.fieldLink RX10 29 "LogRiver$Tokens" "start" "I" ∈ kt_ := kt_m (kt_t1 _ (List.mem_of_getElem? (i := 96) (by decide +kernel))) (by decide +kernel)
theorem ux_394 : Cond.fieldLink RX10 39 "LogRiver$Tokens" "kind" "I" ∈ kt_ := kt_m (kt_t1 _ (List.mem_of_getElem? (i := 99) (by decide +kernel))) (by decide +kernel)
theorem ux_395 : Cond.methodLink RX10 25 yX10_endOfRow ∈ kt_ := kt_m (kt_t3 _ (List.mem_of_getElem? (i := 174) (by decide +kernel))) (by decide +kernel)
theorem ux_396 : Cond.fieldLink RX10 19 "LogRiver$Tokens" "end" "I" ∈ kt_ := kt_m (kt_t1 _ (List.mem_of_getElem? (i := 95) (by decide +kernel))) (by decide +kernel)
theorem ux_397 : Cond.methodLink RX10 42 Lib.Math.min.name ∈ kt_ := kt_m (kt_t3 _ (List.mem_of_getElem? (i := 185) (by decide +kernel))) (by decide +kernel)
theorem ux_398 : Cond.code yX10_advance cX10_advance 1 none ∈ kt_ := kt_m (kt_t3 _ (List.mem_of_getElem? (i := 173) (by decide +kernel))) (by decide +kernel)
theorem ux_399 : Cond.instanceMethod yX10_advance ∈ kt_ := kt_m (kt_t3 _ (List.mem_of_getElem? (i := 171) (by decide +kernel))) (by decide +kernel)
theorem ux_400 : Cond.selects RX10 yX10_advance yX10_advance ∈ kt_ := kt_m (kt_t3 _ (List.mem_of_getElem? (i := 172) (by decide +kernel))) (by decide +kernel)
theorem ux_401 : Cond.methodLink RX10 22 yX10_advance ∈ kt_ := kt_m (kt_t3 _ (List.mem_of_getElem? (i := 170) (by decide +kernel))) (by decide +kernel)
theorem ux_402 : Cond.code yX10_openText cX10_openText 2 none ∈ kt_ := kt_m (kt_t3 _ (List.mem_of_getElem? (i := 169) (by decide +kernel))) (by decide +kernel)
theorem ux_403 : Cond.instanceMethod yX10_openText ∈ kt_ := kt_m (kt_t3 _ (List.mem_of_getElem? (i := 167) (by decide +kernel))) (by decide +kernel)
theorem ux_404 : Cond.selects RX10 yX10_openText yX10_openText ∈ kt_ := kt_m (kt_t3 _ (List.mem_of_getElem? (i := 168) (by decide +kernel))) (by decide +kernel)
theorem ux_405 : Cond.methodLink RX10 47 yJ0_length_8abf5 ∈ kt_ := kt_m (kt_t3 _ (List.mem_of_getElem? (i := 195) (by decide +kernel))) (by decide +kernel)
theorem ux_406 : Cond.methodLink RX10 52 yJ0_charAt_5068e ∈ kt_ := kt_m (kt_t3 _ (List.mem_of_getElem? (i := 205) (by decide +kernel))) (by decide +kernel)
theorem ux_407 : Cond.code yX10_isWord cX10_isWord 3 (some .boolean) ∈ kt_ := kt_m (kt_t3 _ (List.mem_of_getElem? (i := 194) (by decide +kernel))) (by decide +kernel)
theorem ux_408 : Cond.instanceMethod yX10_isWord ∈ kt_ := kt_m (kt_t3 _ (List.mem_of_getElem? (i := 192) (by decide +kernel))) (by decide +kernel)
theorem ux_409 : Cond.selects RX10 yX10_isWord yX10_isWord ∈ kt_ := kt_m (kt_t3 _ (List.mem_of_getElem? (i := 193) (by decide +kernel))) (by decide +kernel)
theorem ux_410 : Cond.code yX10_numberValue cX10_numberValue 3 (some .int) ∈ kt_ := kt_m (kt_t4 _ (List.mem_of_getElem? (i := 50) (by decide +kernel))) (by decide +kernel)
theorem ux_411 : Cond.instanceMethod yX10_numberValue ∈ kt_ := kt_m (kt_t4 _ (List.mem_of_getElem? (i := 48) (by decide +kernel))) (by decide +kernel)
theorem ux_412 : Cond.selects RX10 yX10_numberValue yX10_numberValue ∈ kt_ := kt_m (kt_t4 _ (List.mem_of_getElem? (i := 49) (by decide +kernel))) (by decide +kernel)
theorem ux_413 : Cond.methodLink RX5 3 objectInit ∈ kt_ := kt_m (kt_t1 _ (List.mem_of_getElem? (i := 86) (by decide +kernel))) (by decide +kernel)
theorem ux_414 : Cond.classLink RX5 9 RX10 ∈ kt_ := kt_m (kt_t1 _ (List.mem_of_getElem? (i := 87) (by decide +kernel))) (by decide +kernel)
theorem ux_415 : Cond.methodLink RX5 11 yX10_init ∈ kt_ := kt_m (kt_t1 _ (List.mem_of_getElem? (i := 89) (by decide +kernel))) (by decide +kernel)
theorem ux_416 : Cond.fieldLink RX5 14 "LogRiver$LawReader" "tokens" "LLogRiver$Tokens;" ∈ kt_ := kt_m (kt_t1 _ (List.mem_of_getElem? (i := 111) (by decide +kernel))) (by decide +kernel)
theorem ux_417 : Cond.fieldLink RX5 22 "LogRiver$LawReader" "code" "[I" ∈ kt_ := kt_m (kt_t1 _ (List.mem_of_getElem? (i := 112) (by decide +kernel))) (by decide +kernel)
theorem ux_418 : Cond.code yX5_init cX5_init 2 none ∈ kt_ := kt_m (kt_t1 _ (List.mem_of_getElem? (i := 85) (by decide +kernel))) (by decide +kernel)
theorem ux_419 : Cond.instanceMethod yX5_init ∈ kt_ := kt_m (kt_t1 _ (List.mem_of_getElem? (i := 84) (by decide +kernel))) (by decide +kernel)
theorem ux_420 : Cond.fieldLink RX5 26 "LogRiver$LawReader" "codeLength" "I" ∈ kt_ := kt_m (kt_t1 _ (List.mem_of_getElem? (i := 114) (by decide +kernel))) (by decide +kernel)
theorem ux_421 : Cond.code yX5_put cX5_put 2 none ∈ kt_ := kt_m (kt_t4 _ (List.mem_of_getElem? (i := 54) (by decide +kernel))) (by decide +kernel)
theorem ux_422 : Cond.instanceMethod yX5_put ∈ kt_ := kt_m (kt_t4 _ (List.mem_of_getElem? (i := 53) (by decide +kernel))) (by decide +kernel)
theorem ux_423 : Cond.selects RX5 yX5_put yX5_put ∈ kt_ := kt_m (kt_s2 _ (List.mem_of_getElem? (i := 2) (by decide +kernel))) (by decide +kernel)
theorem ux_424 : Cond.fieldLink RX5 30 "LogRiver$LawReader" "fault" "I" ∈ kt_ := kt_m (kt_t1 _ (List.mem_of_getElem? (i := 116) (by decide +kernel))) (by decide +kernel)
theorem ux_425 : Cond.fieldLink RX5 113 "LogRiver$Tokens" "start" "I" ∈ kt_ := kt_m (kt_t1 _ (List.mem_of_getElem? (i := 97) (by decide +kernel))) (by decide +kernel)
theorem ux_426 : Cond.fieldLink RX5 33 "LogRiver$LawReader" "faultPlace" "I" ∈ kt_ := kt_m (kt_t1 _ (List.mem_of_getElem? (i := 118) (by decide +kernel))) (by decide +kernel)
theorem ux_427 : Cond.code yX5_fail cX5_fail 2 none ∈ kt_ := kt_m (kt_t4 _ (List.mem_of_getElem? (i := 5) (by decide +kernel))) (by decide +kernel)
theorem ux_428 : Cond.instanceMethod yX5_fail ∈ kt_ := kt_m (kt_t4 _ (List.mem_of_getElem? (i := 4) (by decide +kernel))) (by decide +kernel)
theorem ux_429 : Cond.selects RX5 yX5_fail yX5_fail ∈ kt_ := kt_m (kt_s1 _ (List.mem_of_getElem? (i := 9) (by decide +kernel))) (by decide +kernel)
theorem ux_430 : Cond.fieldLink RX5 40 "LogRiver$Tokens" "kind" "I" ∈ kt_ := kt_m (kt_t1 _ (List.mem_of_getElem? (i := 98) (by decide +kernel))) (by decide +kernel)
theorem ux_431 : Cond.methodLink RX5 57 yX10_advance ∈ kt_ := kt_m (kt_t4 _ (List.mem_of_getElem? (i := 6) (by decide +kernel))) (by decide +kernel)
theorem ux_432 : Cond.methodLink RX5 54 yX5_fail ∈ kt_ := kt_m (kt_t4 _ (List.mem_of_getElem? (i := 2) (by decide +kernel))) (by decide +kernel)
theorem ux_433 : Cond.code yX5_pass cX5_pass 2 none ∈ kt_ := kt_m (kt_t4 _ (List.mem_of_getElem? (i := 46) (by decide +kernel))) (by decide +kernel)
theorem ux_434 : Cond.instanceMethod yX5_pass ∈ kt_ := kt_m (kt_t4 _ (List.mem_of_getElem? (i := 45) (by decide +kernel))) (by decide +kernel)
theorem ux_435 : Cond.selects RX5 yX5_pass yX5_pass ∈ kt_ := kt_m (kt_s2 _ (List.mem_of_getElem? (i := 1) (by decide +kernel))) (by decide +kernel)
theorem ux_436 : Cond.methodLink RX5 48 yX10_isWord ∈ kt_ := kt_m (kt_t3 _ (List.mem_of_getElem? (i := 191) (by decide +kernel))) (by decide +kernel)
theorem ux_437 : Cond.code yX5_codeOfName cX5_codeOfName 1 (some .int) ∈ kt_ := kt_m (kt_t4 _ (List.mem_of_getElem? (i := 19) (by decide +kernel))) (by decide +kernel)
theorem ux_438 : Cond.instanceMethod yX5_codeOfName ∈ kt_ := kt_m (kt_t4 _ (List.mem_of_getElem? (i := 18) (by decide +kernel))) (by decide +kernel)
theorem ux_439 : Cond.selects RX5 yX5_codeOfName yX5_codeOfName ∈ kt_ := kt_m (kt_s1 _ (List.mem_of_getElem? (i := 12) (by decide +kernel))) (by decide +kernel)
theorem ux_440 : Cond.methodLink RX5 96 yX5_codeOfName ∈ kt_ := kt_m (kt_t4 _ (List.mem_of_getElem? (i := 16) (by decide +kernel))) (by decide +kernel)
theorem ux_441 : Cond.code yX5_faultOfPart cX5_faultOfPart 1 (some .int) ∈ kt_ := kt_m (kt_t4 _ (List.mem_of_getElem? (i := 15) (by decide +kernel))) (by decide +kernel)
theorem ux_442 : Cond.instanceMethod yX5_faultOfPart ∈ kt_ := kt_m (kt_t4 _ (List.mem_of_getElem? (i := 14) (by decide +kernel))) (by decide +kernel)
theorem ux_443 : Cond.selects RX5 yX5_faultOfPart yX5_faultOfPart ∈ kt_ := kt_m (kt_s1 _ (List.mem_of_getElem? (i := 11) (by decide +kernel))) (by decide +kernel)
theorem ux_444 : Cond.methodLink RX5 68 yX5_put ∈ kt_ := kt_m (kt_t4 _ (List.mem_of_getElem? (i := 51) (by decide +kernel))) (by decide +kernel)
theorem ux_445 : Cond.methodLink RX5 73 yX5_faultOfPart ∈ kt_ := kt_m (kt_t4 _ (List.mem_of_getElem? (i := 12) (by decide +kernel))) (by decide +kernel)
theorem ux_446 : Cond.methodLink RX5 93 yX10_numberValue ∈ kt_ := kt_m (kt_t4 _ (List.mem_of_getElem? (i := 47) (by decide +kernel))) (by decide +kernel)
theorem ux_447 : Cond.methodLink RX5 60 yX5_readExpr ∈ kt_ := kt_m (kt_t4 _ (List.mem_of_getElem? (i := 7) (by decide +kernel))) (by decide +kernel)
theorem ux_448 : Cond.methodLink RX5 63 yX5_pass ∈ kt_ := kt_m (kt_t4 _ (List.mem_of_getElem? (i := 43) (by decide +kernel))) (by decide +kernel)
theorem ux_449 : Cond.code yX5_readPart cX5_readPart 3 none ∈ kt_ := kt_m (kt_t4 _ (List.mem_of_getElem? (i := 42) (by decide +kernel))) (by decide +kernel)
theorem ux_450 : Cond.instanceMethod yX5_readPart ∈ kt_ := kt_m (kt_t4 _ (List.mem_of_getElem? (i := 41) (by decide +kernel))) (by decide +kernel)
theorem ux_451 : Cond.selects RX5 yX5_readPart yX5_readPart ∈ kt_ := kt_m (kt_s2 _ (List.mem_of_getElem? (i := 0) (by decide +kernel))) (by decide +kernel)
theorem ux_452 : Cond.methodLink RX5 90 yX5_readPart ∈ kt_ := kt_m (kt_t4 _ (List.mem_of_getElem? (i := 39) (by decide +kernel))) (by decide +kernel)
theorem ux_453 : Cond.code yX5_readTerm cX5_readTerm 4 none ∈ kt_ := kt_m (kt_t4 _ (List.mem_of_getElem? (i := 38) (by decide +kernel))) (by decide +kernel)
theorem ux_454 : Cond.instanceMethod yX5_readTerm ∈ kt_ := kt_m (kt_t4 _ (List.mem_of_getElem? (i := 37) (by decide +kernel))) (by decide +kernel)
theorem ux_455 : Cond.selects RX5 yX5_readTerm yX5_readTerm ∈ kt_ := kt_m (kt_s1 _ (List.mem_of_getElem? (i := 15) (by decide +kernel))) (by decide +kernel)
theorem ux_456 : Cond.methodLink RX5 87 yX5_readTerm ∈ kt_ := kt_m (kt_t4 _ (List.mem_of_getElem? (i := 35) (by decide +kernel))) (by decide +kernel)
theorem ux_457 : Cond.code yX5_readSum cX5_readSum 4 none ∈ kt_ := kt_m (kt_t4 _ (List.mem_of_getElem? (i := 34) (by decide +kernel))) (by decide +kernel)
theorem ux_458 : Cond.instanceMethod yX5_readSum ∈ kt_ := kt_m (kt_t4 _ (List.mem_of_getElem? (i := 33) (by decide +kernel))) (by decide +kernel)
theorem ux_459 : Cond.selects RX5 yX5_readSum yX5_readSum ∈ kt_ := kt_m (kt_s1 _ (List.mem_of_getElem? (i := 14) (by decide +kernel))) (by decide +kernel)
theorem ux_460 : Cond.methodLink RX5 84 yX5_readSum ∈ kt_ := kt_m (kt_t4 _ (List.mem_of_getElem? (i := 31) (by decide +kernel))) (by decide +kernel)
theorem ux_461 : Cond.code yX5_readTest cX5_readTest 4 none ∈ kt_ := kt_m (kt_t4 _ (List.mem_of_getElem? (i := 30) (by decide +kernel))) (by decide +kernel)
theorem ux_462 : Cond.instanceMethod yX5_readTest ∈ kt_ := kt_m (kt_t4 _ (List.mem_of_getElem? (i := 29) (by decide +kernel))) (by decide +kernel)
theorem ux_463 : Cond.selects RX5 yX5_readTest yX5_readTest ∈ kt_ := kt_m (kt_s1 _ (List.mem_of_getElem? (i := 13) (by decide +kernel))) (by decide +kernel)
theorem ux_464 : Cond.methodLink RX5 77 yX5_readTest ∈ kt_ := kt_m (kt_t4 _ (List.mem_of_getElem? (i := 27) (by decide +kernel))) (by decide +kernel)
theorem ux_465 : Cond.code yX5_readExpr cX5_readExpr 4 none ∈ kt_ := kt_m (kt_t4 _ (List.mem_of_getElem? (i := 10) (by decide +kernel))) (by decide +kernel)
theorem ux_466 : Cond.instanceMethod yX5_readExpr ∈ kt_ := kt_m (kt_t4 _ (List.mem_of_getElem? (i := 9) (by decide +kernel))) (by decide +kernel)
theorem ux_467 : Cond.selects RX5 yX5_readExpr yX5_readExpr ∈ kt_ := kt_m (kt_s1 _ (List.mem_of_getElem? (i := 10) (by decide +kernel))) (by decide +kernel)
theorem ux_468 : Cond.code yX5_readRule cX5_readRule 3 none ∈ kt_ := kt_m (kt_t3 _ (List.mem_of_getElem? (i := 189) (by decide +kernel))) (by decide +kernel)
theorem ux_469 : Cond.instanceMethod yX5_readRule ∈ kt_ := kt_m (kt_t3 _ (List.mem_of_getElem? (i := 188) (by decide +kernel))) (by decide +kernel)
theorem ux_470 : Cond.selects RX5 yX5_readRule yX5_readRule ∈ kt_ := kt_m (kt_s1 _ (List.mem_of_getElem? (i := 8) (by decide +kernel))) (by decide +kernel)
theorem ux_471 : Cond.methodLink RX5 43 yX5_readRule ∈ kt_ := kt_m (kt_t3 _ (List.mem_of_getElem? (i := 186) (by decide +kernel))) (by decide +kernel)
theorem ux_472 : Cond.methodLink RX5 36 yX10_openText ∈ kt_ := kt_m (kt_t3 _ (List.mem_of_getElem? (i := 166) (by decide +kernel))) (by decide +kernel)
theorem ux_473 : Cond.code yX5_readText cX5_readText 3 none ∈ kt_ := kt_m (kt_t3 _ (List.mem_of_getElem? (i := 165) (by decide +kernel))) (by decide +kernel)
theorem ux_474 : Cond.instanceMethod yX5_readText ∈ kt_ := kt_m (kt_t3 _ (List.mem_of_getElem? (i := 163) (by decide +kernel))) (by decide +kernel)
theorem ux_475 : Cond.selects RX5 yX5_readText yX5_readText ∈ kt_ := kt_m (kt_t3 _ (List.mem_of_getElem? (i := 164) (by decide +kernel))) (by decide +kernel)
section
variable {p : Program} {l : Launch} {e : Env} {fr lo c0 : Nat} {s : State} {m : MethodId} {args : Array Value} {below : List Frame} {meth : Method} {c : Code} {H : Heap} {locs : List Loc} {Q : State → Prop}
variable {cc : ByteArray} {pc nL index : Nat} {ls : Array Slot} {rest : List Value} {G : kx_G} {σ : kx_S} {own : String}
theorem xk_X5_readExpr_re {f1 l1_ : Nat} {l0 : Nat} {l1 : Int32} {P : kx_S → Prop} (F : CallFix p m c cc nL s args kt_ own) (C : kx_X G c0 s H locs σ) (ha : xt σ l0 = 7) (hM : kx_M l G yX5_readExpr cX5_readExpr 4 none f1 l1_ [.ref l0, .int l1] σ (kx_rv P)) (hw : Cond.methodLink own index yX5_readExpr ∈ kt_) (h1 : f1 + 1 ≤ fr) (h2 : 8 + (4 + 11) + l1_ ≤ lo) (hsz : ls.size = nL) (hW : (rest.map fun v => v.category).sum ≤ 8) (hdg : decode cc pc = .ok (.invokevirtual index, 3)) (kk : ∀ (u : kx_S) (H1 : Heap) (locs1 : List Loc), P u → kx_X G c0 s H1 locs1 u → kx_W p l e fr lo c0 s m args below meth c H1 locs1 u Q (F0 m (pc + 3) ls rest)) : kx_W p l e fr lo c0 s m args below meth c H locs σ Q (F0 m pc ls (.int l1 :: .ref l0 :: rest)) :=
  kx_cV (n := 1) (As := [.int l1]) (Cn := RX5) F C hM (kt_V hw ux_466 ux_467 ux_59 ux_465) (by decide +kernel) ⟨h1, h2⟩ (kx_recv C (by rw [ha]; decide) (kx_e7 ha) rfl) rfl hsz hW hdg (fun v u H1 locs1 hP9 C9 => by obtain ⟨hv, hp⟩ := hP9; subst hv; exact kk u H1 locs1 hp C9)
end
theorem dX10_init_0 : decode cX10_init 0 = .ok (.aload_n 0, 1) := by decide +kernel
theorem dX10_init_1 : decode cX10_init 1 = .ok (.invokespecial 3, 3) := by decide +kernel
theorem dX10_init_4 : decode cX10_init 4 = .ok (.aload_n 0, 1) := by decide +kernel
theorem dX10_init_5 : decode cX10_init 5 = .ok (.aload_n 1, 1) := by decide +kernel
theorem dX10_init_6 : decode cX10_init 6 = .ok (.putfield 9, 3) := by decide +kernel
theorem dX10_init_9 : decode cX10_init 9 = .ok (.return_, 1) := by decide +kernel
def wX10_init (l0 : Nat) (l1 : Nat) (σ : kx_S) (Q : kx_S → Prop) : Prop := xt σ l0 = 12 ∧ ∀ σ2, σ2 = xsr σ 192 l0 (some l1) → Q σ2
set_option maxRecDepth 100000 in
set_option maxHeartbeats 4000000 in
theorem hx_X10_init (l : Launch) (G : kx_G) (l0 : Nat) (l1 : Nat) (σ : kx_S) (Q : kx_S → Prop) (h : wX10_init l0 l1 σ Q) : kx_M l G yX10_init cX10_init 2 none (1) (12) [.ref l0, .ref l1] σ (kx_rv Q) := by
  refine kx_enter (by decide) rfl (Nat.le_of_ble_eq_true rfl) ?_
  intro p e s m below meth c ls F hr hlocks C hname hl
  have hini : meth.name = "<init>" := hname
  have hl : lv_has ls 2 [(0, .ref l0), (1, .ref l1)] := hl
  obtain ⟨H, eH⟩ : ∃ z9, z9 = s.heap := ⟨_, rfl⟩
  obtain ⟨locs, eL⟩ : ∃ z9 : List Loc, z9 = [] := ⟨_, rfl⟩
  rw [← eH, ← eL] at C
  rw [← eH, ← eL]
  obtain ⟨σ0, e0⟩ : ∃ z9, z9 = σ := ⟨_, rfl⟩
  have C : kx_X G (xc σ0) s H locs σ := by rw [e0]; exact C
  suffices hgo : kx_W p l e (1) (12) (xc σ0) s m ([.ref l0, .ref l1] : List Value).toArray below meth c H locs σ (MQ below (kx_Q G σ0 (kx_rv Q)) ([.ref l0, .ref l1] : List Value).toArray s (kx_N - xc σ0) (600 * (kx_N - xc σ0)) (kx_A G)) (F0 m 0 ls []) by rw [e0] at hgo; exact hgo
  clear e0
  refine lv_aload_n F.1 F.2.1 dX10_init_0 rfl (lv_at hl 0 rfl) ?_
  refine kx_objI F ux_377 hl.1 (Nat.le_of_ble_eq_true rfl) (by simp [Value.category]) dX10_init_1 ?_
  refine lv_aload_n F.1 F.2.1 dX10_init_4 rfl (lv_at hl 0 rfl) ?_
  refine lv_aload_n F.1 F.2.1 dX10_init_5 rfl (lv_at hl 1 rfl) ?_
  obtain ⟨ht1, h⟩ := h
  refine xp_X10_tape (x := some l1) F C ht1 ux_378 (fun _ h9 => h9) hini rfl dX10_init_6 (fun H locs C => ?_)
  generalize eσ2 : xsr σ 192 l0 (some l1) = σ2 at C ⊢
  replace h := h σ2 eσ2.symm
  have ht3 : xt σ2 l0 = 12 := by rw [← eσ2]; exact ht1
  exact kx_vret F C hr hlocks h dX10_init_9
section
variable {p : Program} {l : Launch} {e : Env} {fr lo c0 : Nat} {s : State} {m : MethodId} {args : Array Value} {below : List Frame} {meth : Method} {c : Code} {H : Heap} {locs : List Loc} {Q : State → Prop}
variable {cc : ByteArray} {pc nL index : Nat} {ls : Array Slot} {rest : List Value} {G : kx_G} {σ : kx_S} {own : String}
theorem xk_X10_init {P : kx_S → Prop} (F : CallFix p m c cc nL s args kt_ own) (C : kx_X G c0 s H locs σ) (l0 : Nat) (l1 : Nat) (h : wX10_init l0 l1 σ P) (hw : Cond.methodLink own index yX10_init ∈ kt_) (h1 : (1) + 1 ≤ fr) (h2 : 8 + (2 + 11) + (12) ≤ lo) (hsz : ls.size = nL) (hW : (rest.map fun v => v.category).sum ≤ 8) (hdg : decode cc pc = .ok (.invokespecial index, 3)) (kk : ∀ (u : kx_S) (H1 : Heap) (locs1 : List Loc), P u → kx_X G c0 s H1 locs1 u → kx_W p l e fr lo c0 s m args below meth c H1 locs1 u Q (F0 m (pc + 3) ls rest)) : kx_W p l e fr lo c0 s m args below meth c H locs σ Q (F0 m pc ls (.ref l1 :: .ref l0 :: rest)) :=
  kx_cI (n := 1) (As := [.ref l1]) F C (hx_X10_init l G l0 l1 σ P h) ux_379 ux_101 hw ux_380 rfl (by decide +kernel) ⟨h1, h2⟩ rfl hsz hW hdg (fun v u H1 locs1 hP9 C9 => by obtain ⟨hv, hp⟩ := hP9; subst hv; exact kk u H1 locs1 hp C9)
end
theorem dX10_kindOf_0 : decode cX10_kindOf 0 = .ok (.iload_n 0, 1) := by decide +kernel
theorem dX10_kindOf_1 : decode cX10_kindOf 1 = .ok (.bipush 97, 2) := by decide +kernel
theorem dX10_kindOf_3 : decode cX10_kindOf 3 = .ok (.if_icmp .lt 11, 3) := by decide +kernel
theorem dX10_kindOf_6 : decode cX10_kindOf 6 = .ok (.iload_n 0, 1) := by decide +kernel
theorem dX10_kindOf_7 : decode cX10_kindOf 7 = .ok (.bipush 122, 2) := by decide +kernel
theorem dX10_kindOf_9 : decode cX10_kindOf 9 = .ok (.if_icmp .gt 5, 3) := by decide +kernel
theorem dX10_kindOf_12 : decode cX10_kindOf 12 = .ok (.iconst 1, 1) := by decide +kernel
theorem dX10_kindOf_13 : decode cX10_kindOf 13 = .ok (.ireturn, 1) := by decide +kernel
theorem dX10_kindOf_14 : decode cX10_kindOf 14 = .ok (.iload_n 0, 1) := by decide +kernel
theorem dX10_kindOf_15 : decode cX10_kindOf 15 = .ok (.bipush 48, 2) := by decide +kernel
theorem dX10_kindOf_17 : decode cX10_kindOf 17 = .ok (.if_icmp .lt 11, 3) := by decide +kernel
theorem dX10_kindOf_20 : decode cX10_kindOf 20 = .ok (.iload_n 0, 1) := by decide +kernel
theorem dX10_kindOf_21 : decode cX10_kindOf 21 = .ok (.bipush 57, 2) := by decide +kernel
theorem dX10_kindOf_23 : decode cX10_kindOf 23 = .ok (.if_icmp .gt 5, 3) := by decide +kernel
theorem dX10_kindOf_26 : decode cX10_kindOf 26 = .ok (.iconst 2, 1) := by decide +kernel
theorem dX10_kindOf_27 : decode cX10_kindOf 27 = .ok (.ireturn, 1) := by decide +kernel
theorem dX10_kindOf_28 : decode cX10_kindOf 28 = .ok (.iload_n 0, 1) := by decide +kernel
theorem dX10_kindOf_29 : decode cX10_kindOf 29 = .ok (.lookupswitch 113 #[(-1, 107), (10, 109), (32, 109), (40, 111), (41, 111), (42, 111), (43, 111), (45, 111), (47, 111), (59, 111), (60, 111), (61, 111)], 107) := by decide +kernel
theorem dX10_kindOf_136 : decode cX10_kindOf 136 = .ok (.iconst 0, 1) := by decide +kernel
theorem dX10_kindOf_137 : decode cX10_kindOf 137 = .ok (.ireturn, 1) := by decide +kernel
theorem dX10_kindOf_138 : decode cX10_kindOf 138 = .ok (.iconst 5, 1) := by decide +kernel
theorem dX10_kindOf_139 : decode cX10_kindOf 139 = .ok (.ireturn, 1) := by decide +kernel
theorem dX10_kindOf_140 : decode cX10_kindOf 140 = .ok (.iload_n 0, 1) := by decide +kernel
theorem dX10_kindOf_141 : decode cX10_kindOf 141 = .ok (.ireturn, 1) := by decide +kernel
theorem dX10_kindOf_142 : decode cX10_kindOf 142 = .ok (.iconst 4, 1) := by decide +kernel
theorem dX10_kindOf_143 : decode cX10_kindOf 143 = .ok (.ireturn, 1) := by decide +kernel
def wX10_kindOf_28 (Q : Int32 → kx_S → Prop) (l0 : Int32) (σ : kx_S) : Prop := ∀ v1, v1 = l0 → ((v1 = (-1) → Q 0 σ) ∧
  ((v1 = 10 → Q 5 σ) ∧
  ((v1 = 32 → Q 5 σ) ∧
  ((v1 = 40 → Q l0 σ) ∧
  ((v1 = 41 → Q l0 σ) ∧
  ((v1 = 42 → Q l0 σ) ∧
  ((v1 = 43 → Q l0 σ) ∧
  ((v1 = 45 → Q l0 σ) ∧
  ((v1 = 47 → Q l0 σ) ∧
  ((v1 = 59 → Q l0 σ) ∧
  ((v1 = 60 → Q l0 σ) ∧
  ((v1 = 61 → Q l0 σ) ∧
  (¬ v1 = (-1) → ¬ v1 = 10 → ¬ v1 = 32 → ¬ v1 = 40 → ¬ v1 = 41 → ¬ v1 = 42 → ¬ v1 = 43 → ¬ v1 = 45 → ¬ v1 = 47 → ¬ v1 = 59 → ¬ v1 = 60 → ¬ v1 = 61 → Q 4 σ)))))))))))))
def wX10_kindOf_14 (Q : Int32 → kx_S → Prop) (l0 : Int32) (σ : kx_S) : Prop := ((l0 < 48 → wX10_kindOf_28 Q l0 σ) ∧
  (¬ (l0 < 48) → ((57 < l0 → wX10_kindOf_28 Q l0 σ) ∧
    (¬ (57 < l0) → Q 2 σ))))
def wX10_kindOf (l0 : Int32) (σ : kx_S) (Q : Int32 → kx_S → Prop) : Prop := ((l0 < 97 → wX10_kindOf_14 Q l0 σ) ∧
  (¬ (l0 < 97) → ((122 < l0 → wX10_kindOf_14 Q l0 σ) ∧
    (¬ (122 < l0) → Q 1 σ))))
set_option maxRecDepth 100000 in
set_option maxHeartbeats 4000000 in
theorem tX10_kindOf_28 (l : Launch) (G : kx_G) (σ0 : kx_S) {p : Program} {e : Env} {s : State} {m : MethodId} {args : Array Value} {below : List Frame} {meth : Method} {c : Code} (F : CallFix p m c cX10_kindOf 1 s args kt_ RX10) (hr : meth.sig.returnType = (some .int)) (hlocks : meth.locks = false) (Q : Int32 → kx_S → Prop) : ∀ (l0 : Int32) (σ : kx_S) (H : Heap) (locs : List Loc) (ls : Array Slot), wX10_kindOf_28 Q l0 σ → kx_X G (xc σ0) s H locs σ → lv_has ls 1 [(0, .int l0)] → kx_W p l e (0) (0) (xc σ0) s m args below meth c H locs σ (MQ below (kx_Q G σ0 (kx_ri Q)) args s (kx_N - xc σ0) (600 * (kx_N - xc σ0)) (kx_A G)) (F0 m 28 ls []) := by
  intro l0 σ H locs ls h C hl
  refine lv_iload_n F.1 F.2.1 dX10_kindOf_28 rfl (lv_at hl 0 rfl) ?_
  refine lv_topi (fun v1 ev1 => ?_)
  replace h := h v1 ev1
  by_cases c2 : v1 = (-1)
  · replace h := h.1 c2
    refine lv_lookup (off := 107) (tgt := 136) F.1 F.2.1 dX10_kindOf_29 (by decide) (by rw [c2]; decide) (by decide) ?_
    refine lv_iconst (v := 0) F.1 F.2.1 dX10_kindOf_136 (by decide) ?_
    exact kx_iret F C hr hlocks h dX10_kindOf_137
  replace h := h.2
  by_cases c3 : v1 = 10
  · replace h := h.1 c3
    refine lv_lookup (off := 109) (tgt := 138) F.1 F.2.1 dX10_kindOf_29 (by decide) (by rw [c3]; decide) (by decide) ?_
    refine lv_iconst (v := 5) F.1 F.2.1 dX10_kindOf_138 (by decide) ?_
    exact kx_iret F C hr hlocks h dX10_kindOf_139
  replace h := h.2
  by_cases c4 : v1 = 32
  · replace h := h.1 c4
    refine lv_lookup (off := 109) (tgt := 138) F.1 F.2.1 dX10_kindOf_29 (by decide) (by rw [c4]; decide) (by decide) ?_
    refine lv_iconst (v := 5) F.1 F.2.1 dX10_kindOf_138 (by decide) ?_
    exact kx_iret F C hr hlocks h dX10_kindOf_139
  replace h := h.2
  by_cases c5 : v1 = 40
  · replace h := h.1 c5
    refine lv_lookup (off := 111) (tgt := 140) F.1 F.2.1 dX10_kindOf_29 (by decide) (by rw [c5]; decide) (by decide) ?_
    refine lv_iload_n F.1 F.2.1 dX10_kindOf_140 rfl (lv_at hl 0 rfl) ?_
    exact kx_iret F C hr hlocks h dX10_kindOf_141
  replace h := h.2
  by_cases c6 : v1 = 41
  · replace h := h.1 c6
    refine lv_lookup (off := 111) (tgt := 140) F.1 F.2.1 dX10_kindOf_29 (by decide) (by rw [c6]; decide) (by decide) ?_
    refine lv_iload_n F.1 F.2.1 dX10_kindOf_140 rfl (lv_at hl 0 rfl) ?_
    exact kx_iret F C hr hlocks h dX10_kindOf_141
  replace h := h.2
  by_cases c7 : v1 = 42
  · replace h := h.1 c7
    refine lv_lookup (off := 111) (tgt := 140) F.1 F.2.1 dX10_kindOf_29 (by decide) (by rw [c7]; decide) (by decide) ?_
    refine lv_iload_n F.1 F.2.1 dX10_kindOf_140 rfl (lv_at hl 0 rfl) ?_
    exact kx_iret F C hr hlocks h dX10_kindOf_141
  replace h := h.2
  by_cases c8 : v1 = 43
  · replace h := h.1 c8
    refine lv_lookup (off := 111) (tgt := 140) F.1 F.2.1 dX10_kindOf_29 (by decide) (by rw [c8]; decide) (by decide) ?_
    refine lv_iload_n F.1 F.2.1 dX10_kindOf_140 rfl (lv_at hl 0 rfl) ?_
    exact kx_iret F C hr hlocks h dX10_kindOf_141
  replace h := h.2
  by_cases c9 : v1 = 45
  · replace h := h.1 c9
    refine lv_lookup (off := 111) (tgt := 140) F.1 F.2.1 dX10_kindOf_29 (by decide) (by rw [c9]; decide) (by decide) ?_
    refine lv_iload_n F.1 F.2.1 dX10_kindOf_140 rfl (lv_at hl 0 rfl) ?_
    exact kx_iret F C hr hlocks h dX10_kindOf_141
  replace h := h.2
  by_cases c10 : v1 = 47
  · replace h := h.1 c10
    refine lv_lookup (off := 111) (tgt := 140) F.1 F.2.1 dX10_kindOf_29 (by decide) (by rw [c10]; decide) (by decide) ?_
    refine lv_iload_n F.1 F.2.1 dX10_kindOf_140 rfl (lv_at hl 0 rfl) ?_
    exact kx_iret F C hr hlocks h dX10_kindOf_141
  replace h := h.2
  by_cases c11 : v1 = 59
  · replace h := h.1 c11
    refine lv_lookup (off := 111) (tgt := 140) F.1 F.2.1 dX10_kindOf_29 (by decide) (by rw [c11]; decide) (by decide) ?_
    refine lv_iload_n F.1 F.2.1 dX10_kindOf_140 rfl (lv_at hl 0 rfl) ?_
    exact kx_iret F C hr hlocks h dX10_kindOf_141
  replace h := h.2
  by_cases c12 : v1 = 60
  · replace h := h.1 c12
    refine lv_lookup (off := 111) (tgt := 140) F.1 F.2.1 dX10_kindOf_29 (by decide) (by rw [c12]; decide) (by decide) ?_
    refine lv_iload_n F.1 F.2.1 dX10_kindOf_140 rfl (lv_at hl 0 rfl) ?_
    exact kx_iret F C hr hlocks h dX10_kindOf_141
  replace h := h.2
  by_cases c13 : v1 = 61
  · replace h := h.1 c13
    refine lv_lookup (off := 111) (tgt := 140) F.1 F.2.1 dX10_kindOf_29 (by decide) (by rw [c13]; decide) (by decide) ?_
    refine lv_iload_n F.1 F.2.1 dX10_kindOf_140 rfl (lv_at hl 0 rfl) ?_
    exact kx_iret F C hr hlocks h dX10_kindOf_141
  replace h := h.2
  replace h := h c2 c3 c4 c5 c6 c7 c8 c9 c10 c11 c12 c13
  refine lv_lookup (off := 113) (tgt := 142) F.1 F.2.1 dX10_kindOf_29 (by decide) (by rw [lv_osw c2 (by decide)]; rw [lv_osw c3 (by decide)]; rw [lv_osw c4 (by decide)]; rw [lv_osw c5 (by decide)]; rw [lv_osw c6 (by decide)]; rw [lv_osw c7 (by decide)]; rw [lv_osw c8 (by decide)]; rw [lv_osw c9 (by decide)]; rw [lv_osw c10 (by decide)]; rw [lv_osw c11 (by decide)]; rw [lv_osw c12 (by decide)]; rw [lv_osw c13 (by decide)]; rfl) (by decide) ?_
  refine lv_iconst (v := 4) F.1 F.2.1 dX10_kindOf_142 (by decide) ?_
  exact kx_iret F C hr hlocks h dX10_kindOf_143
set_option maxRecDepth 100000 in
set_option maxHeartbeats 4000000 in
theorem tX10_kindOf_14 (l : Launch) (G : kx_G) (σ0 : kx_S) {p : Program} {e : Env} {s : State} {m : MethodId} {args : Array Value} {below : List Frame} {meth : Method} {c : Code} (F : CallFix p m c cX10_kindOf 1 s args kt_ RX10) (hr : meth.sig.returnType = (some .int)) (hlocks : meth.locks = false) (Q : Int32 → kx_S → Prop) : ∀ (l0 : Int32) (σ : kx_S) (H : Heap) (locs : List Loc) (ls : Array Slot), wX10_kindOf_14 Q l0 σ → kx_X G (xc σ0) s H locs σ → lv_has ls 1 [(0, .int l0)] → kx_W p l e (0) (0) (xc σ0) s m args below meth c H locs σ (MQ below (kx_Q G σ0 (kx_ri Q)) args s (kx_N - xc σ0) (600 * (kx_N - xc σ0)) (kx_A G)) (F0 m 14 ls []) := by
  intro l0 σ H locs ls h C hl
  refine lv_iload_n F.1 F.2.1 dX10_kindOf_14 rfl (lv_at hl 0 rfl) ?_
  refine lv_bipush (v := 48) F.1 F.2.1 dX10_kindOf_15 (by decide) ?_
  refine lv_icmp_lt (tgt := 28) F.1 F.2.1 dX10_kindOf_17 (by decide) (fun c14 => ?_) (fun c14 => ?_)
  · replace h := h.1 c14
    exact tX10_kindOf_28 l G σ0 F hr hlocks Q l0 σ H locs ls h C (lv_sub hl [0] rfl)
  · replace h := h.2 c14
    refine lv_iload_n F.1 F.2.1 dX10_kindOf_20 rfl (lv_at hl 0 rfl) ?_
    refine lv_bipush (v := 57) F.1 F.2.1 dX10_kindOf_21 (by decide) ?_
    refine lv_icmp_gt (tgt := 28) F.1 F.2.1 dX10_kindOf_23 (by decide) (fun c15 => ?_) (fun c15 => ?_)
    · replace h := h.1 c15
      exact tX10_kindOf_28 l G σ0 F hr hlocks Q l0 σ H locs ls h C (lv_sub hl [0] rfl)
    · replace h := h.2 c15
      refine lv_iconst (v := 2) F.1 F.2.1 dX10_kindOf_26 (by decide) ?_
      exact kx_iret F C hr hlocks h dX10_kindOf_27
set_option maxRecDepth 100000 in
set_option maxHeartbeats 4000000 in
theorem hx_X10_kindOf (l : Launch) (G : kx_G) (l0 : Int32) (σ : kx_S) (Q : Int32 → kx_S → Prop) (h : wX10_kindOf l0 σ Q) : kx_M l G yX10_kindOf cX10_kindOf 1 (some .int) (0) (0) [.int l0] σ (kx_ri Q) := by
  refine kx_enter (by decide) rfl (Nat.le_of_ble_eq_true rfl) ?_
  intro p e s m below meth c ls F hr hlocks C hname hl
  have hl : lv_has ls 1 [(0, .int l0)] := hl
  obtain ⟨H, eH⟩ : ∃ z9, z9 = s.heap := ⟨_, rfl⟩
  obtain ⟨locs, eL⟩ : ∃ z9 : List Loc, z9 = [] := ⟨_, rfl⟩
  rw [← eH, ← eL] at C
  rw [← eH, ← eL]
  obtain ⟨σ0, e0⟩ : ∃ z9, z9 = σ := ⟨_, rfl⟩
  have C : kx_X G (xc σ0) s H locs σ := by rw [e0]; exact C
  suffices hgo : kx_W p l e (0) (0) (xc σ0) s m ([.int l0] : List Value).toArray below meth c H locs σ (MQ below (kx_Q G σ0 (kx_ri Q)) ([.int l0] : List Value).toArray s (kx_N - xc σ0) (600 * (kx_N - xc σ0)) (kx_A G)) (F0 m 0 ls []) by rw [e0] at hgo; exact hgo
  clear e0
  refine lv_iload_n F.1 F.2.1 dX10_kindOf_0 rfl (lv_at hl 0 rfl) ?_
  refine lv_bipush (v := 97) F.1 F.2.1 dX10_kindOf_1 (by decide) ?_
  refine lv_icmp_lt (tgt := 14) F.1 F.2.1 dX10_kindOf_3 (by decide) (fun c16 => ?_) (fun c16 => ?_)
  · replace h := h.1 c16
    exact tX10_kindOf_14 l G σ0 F hr hlocks Q l0 σ H locs ls h C (lv_sub hl [0] rfl)
  · replace h := h.2 c16
    refine lv_iload_n F.1 F.2.1 dX10_kindOf_6 rfl (lv_at hl 0 rfl) ?_
    refine lv_bipush (v := 122) F.1 F.2.1 dX10_kindOf_7 (by decide) ?_
    refine lv_icmp_gt (tgt := 14) F.1 F.2.1 dX10_kindOf_9 (by decide) (fun c17 => ?_) (fun c17 => ?_)
    · replace h := h.1 c17
      exact tX10_kindOf_14 l G σ0 F hr hlocks Q l0 σ H locs ls h C (lv_sub hl [0] rfl)
    · replace h := h.2 c17
      refine lv_iconst (v := 1) F.1 F.2.1 dX10_kindOf_12 (by decide) ?_
      exact kx_iret F C hr hlocks h dX10_kindOf_13
section
variable {p : Program} {l : Launch} {e : Env} {fr lo c0 : Nat} {s : State} {m : MethodId} {args : Array Value} {below : List Frame} {meth : Method} {c : Code} {H : Heap} {locs : List Loc} {Q : State → Prop}
variable {cc : ByteArray} {pc nL index : Nat} {ls : Array Slot} {rest : List Value} {G : kx_G} {σ : kx_S} {own : String}
theorem xk_X10_kindOf {P : Int32 → kx_S → Prop} (F : CallFix p m c cc nL s args kt_ own) (C : kx_X G c0 s H locs σ) (l0 : Int32) (h : wX10_kindOf l0 σ P) (hw : Cond.methodLink own index yX10_kindOf ∈ kt_) (h1 : (0) + 1 ≤ fr) (h2 : 8 + (1 + 11) + (0) ≤ lo) (hsz : ls.size = nL) (hW : (rest.map fun v => v.category).sum ≤ 8) (hdg : decode cc pc = .ok (.invokestatic index, 3)) (kk : ∀ (r : Int32) (u : kx_S) (H1 : Heap) (locs1 : List Loc), P r u → kx_X G c0 s H1 locs1 u → kx_W p l e fr lo c0 s m args below meth c H1 locs1 u Q (F0 m (pc + 3) ls (.int r :: rest))) : kx_W p l e fr lo c0 s m args below meth c H locs σ Q (F0 m pc ls (.int l0 :: rest)) :=
  kx_cS (n := 1) (As := [.int l0]) F C (hx_X10_kindOf l G l0 σ P h) (kt_S hw ux_382 ux_101 ux_381) (by decide +kernel) ⟨h1, h2⟩ rfl hsz hW hdg (fun v u H1 locs1 hP9 C9 => by obtain ⟨r, hv, hp⟩ := hP9; subst hv; exact kk r u H1 locs1 hp C9)
end
theorem dX10_byteAt_0 : decode cX10_byteAt 0 = .ok (.iload_n 1, 1) := by decide +kernel
theorem dX10_byteAt_1 : decode cX10_byteAt 1 = .ok (.ifCond .lt 35, 3) := by decide +kernel
theorem dX10_byteAt_4 : decode cX10_byteAt 4 = .ok (.iload_n 1, 1) := by decide +kernel
theorem dX10_byteAt_5 : decode cX10_byteAt 5 = .ok (.aload_n 0, 1) := by decide +kernel
theorem dX10_byteAt_6 : decode cX10_byteAt 6 = .ok (.getfield 15, 3) := by decide +kernel
theorem dX10_byteAt_9 : decode cX10_byteAt 9 = .ok (.if_icmp .ge 27, 3) := by decide +kernel
theorem dX10_byteAt_12 : decode cX10_byteAt 12 = .ok (.iload_n 1, 1) := by decide +kernel
theorem dX10_byteAt_13 : decode cX10_byteAt 13 = .ok (.aload_n 0, 1) := by decide +kernel
theorem dX10_byteAt_14 : decode cX10_byteAt 14 = .ok (.getfield 9, 3) := by decide +kernel
theorem dX10_byteAt_17 : decode cX10_byteAt 17 = .ok (.getfield 56, 3) := by decide +kernel
theorem dX10_byteAt_20 : decode cX10_byteAt 20 = .ok (.arraylength, 1) := by decide +kernel
theorem dX10_byteAt_21 : decode cX10_byteAt 21 = .ok (.if_icmp .ge 15, 3) := by decide +kernel
theorem dX10_byteAt_24 : decode cX10_byteAt 24 = .ok (.aload_n 0, 1) := by decide +kernel
theorem dX10_byteAt_25 : decode cX10_byteAt 25 = .ok (.getfield 9, 3) := by decide +kernel
theorem dX10_byteAt_28 : decode cX10_byteAt 28 = .ok (.getfield 56, 3) := by decide +kernel
theorem dX10_byteAt_31 : decode cX10_byteAt 31 = .ok (.iload_n 1, 1) := by decide +kernel
theorem dX10_byteAt_32 : decode cX10_byteAt 32 = .ok (.iaload, 1) := by decide +kernel
theorem dX10_byteAt_33 : decode cX10_byteAt 33 = .ok (.goto 4, 3) := by decide +kernel
theorem dX10_byteAt_36 : decode cX10_byteAt 36 = .ok (.iconst (-1), 1) := by decide +kernel
theorem dX10_byteAt_37 : decode cX10_byteAt 37 = .ok (.ireturn, 1) := by decide +kernel
def wX10_byteAt (l0 : Nat) (l1 : Int32) (σ : kx_S) (Q : Int32 → kx_S → Prop) : Prop := ((l1 < 0 → Q (-1) σ) ∧
  (¬ (l1 < 0) → xt σ l0 = 12 ∧ (((xi σ 193 l0) ≤ l1 → Q (-1) σ) ∧
    (¬ ((xi σ 193 l0) ≤ l1) → ∃ a4, xr σ 192 l0 = some a4 ∧ xt σ a4 = 11 ∧ ∃ a7, xr σ 176 a4 = some a7 ∧ xt σ a7 = 20 ∧ (((nI (xn σ a7)) ≤ l1 → Q (-1) σ) ∧
      (¬ ((nI (xn σ a7)) ≤ l1) → ∃ a11, xr σ 192 l0 = some a11 ∧ xt σ a11 = 11 ∧ ∃ a14, xr σ 176 a11 = some a14 ∧ xt σ a14 = 20 ∧ vp_in l1 (xn σ a14) ∧ Q (xai σ a14 l1.toNatClampNeg) σ))))))
set_option maxRecDepth 100000 in
set_option maxHeartbeats 4000000 in
theorem hx_X10_byteAt (l : Launch) (G : kx_G) (l0 : Nat) (l1 : Int32) (σ : kx_S) (Q : Int32 → kx_S → Prop) (h : wX10_byteAt l0 l1 σ Q) : kx_M l G yX10_byteAt cX10_byteAt 2 (some .int) (0) (0) [.ref l0, .int l1] σ (kx_ri Q) := by
  refine kx_enter (by decide) rfl (Nat.le_of_ble_eq_true rfl) ?_
  intro p e s m below meth c ls F hr hlocks C hname hl
  have hl : lv_has ls 2 [(0, .ref l0), (1, .int l1)] := hl
  obtain ⟨H, eH⟩ : ∃ z9, z9 = s.heap := ⟨_, rfl⟩
  obtain ⟨locs, eL⟩ : ∃ z9 : List Loc, z9 = [] := ⟨_, rfl⟩
  rw [← eH, ← eL] at C
  rw [← eH, ← eL]
  obtain ⟨σ0, e0⟩ : ∃ z9, z9 = σ := ⟨_, rfl⟩
  have C : kx_X G (xc σ0) s H locs σ := by rw [e0]; exact C
  suffices hgo : kx_W p l e (0) (0) (xc σ0) s m ([.ref l0, .int l1] : List Value).toArray below meth c H locs σ (MQ below (kx_Q G σ0 (kx_ri Q)) ([.ref l0, .int l1] : List Value).toArray s (kx_N - xc σ0) (600 * (kx_N - xc σ0)) (kx_A G)) (F0 m 0 ls []) by rw [e0] at hgo; exact hgo
  clear e0
  refine lv_iload_n F.1 F.2.1 dX10_byteAt_0 rfl (lv_at hl 1 rfl) ?_
  refine lv_if_lt (tgt := 36) F.1 F.2.1 dX10_byteAt_1 (by decide) (fun c1 => ?_) (fun c1 => ?_)
  · replace h := h.1 c1
    refine lv_iconst (v := (-1)) F.1 F.2.1 dX10_byteAt_36 (by decide) ?_
    exact kx_iret F C hr hlocks h dX10_byteAt_37
  · replace h := h.2 c1
    refine lv_iload_n F.1 F.2.1 dX10_byteAt_4 rfl (lv_at hl 1 rfl) ?_
    refine lv_aload_n F.1 F.2.1 dX10_byteAt_5 rfl (lv_at hl 0 rfl) ?_
    obtain ⟨ht2, h⟩ := h
    refine xg_X10_length F C ht2 ux_383 (fun _ h9 => h9) dX10_byteAt_6 ?_
    refine lv_icmp_ge (tgt := 36) F.1 F.2.1 dX10_byteAt_9 (by decide) (fun c3 => ?_) (fun c3 => ?_)
    · replace h := h.1 c3
      refine lv_iconst (v := (-1)) F.1 F.2.1 dX10_byteAt_36 (by decide) ?_
      exact kx_iret F C hr hlocks h dX10_byteAt_37
    · replace h := h.2 c3
      refine lv_iload_n F.1 F.2.1 dX10_byteAt_12 rfl (lv_at hl 1 rfl) ?_
      refine lv_aload_n F.1 F.2.1 dX10_byteAt_13 rfl (lv_at hl 0 rfl) ?_
      refine xg_X10_tape F C ht2 ux_378 (fun _ h9 => h9) dX10_byteAt_14 ?_
      obtain ⟨a4, ea5, h⟩ := h
      refine xq_nn ea5 ?_
      obtain ⟨ht6, h⟩ := h
      refine xg_X9_bytes F C ht6 ux_384 (fun _ h9 => h9) dX10_byteAt_17 ?_
      obtain ⟨a7, ea8, h⟩ := h
      refine xq_nn ea8 ?_
      obtain ⟨ht9, h⟩ := h
      refine kx_alen F C (Or.inl ht9) dX10_byteAt_20 ?_
      refine lv_icmp_ge (tgt := 36) F.1 F.2.1 dX10_byteAt_21 (by decide) (fun c10 => ?_) (fun c10 => ?_)
      · replace h := h.1 c10
        refine lv_iconst (v := (-1)) F.1 F.2.1 dX10_byteAt_36 (by decide) ?_
        exact kx_iret F C hr hlocks h dX10_byteAt_37
      · replace h := h.2 c10
        refine lv_aload_n F.1 F.2.1 dX10_byteAt_24 rfl (lv_at hl 0 rfl) ?_
        refine xg_X10_tape F C ht2 ux_378 (fun _ h9 => h9) dX10_byteAt_25 ?_
        obtain ⟨a11, ea12, h⟩ := h
        refine xq_nn ea12 ?_
        obtain ⟨ht13, h⟩ := h
        refine xg_X9_bytes F C ht13 ux_384 (fun _ h9 => h9) dX10_byteAt_28 ?_
        obtain ⟨a14, ea15, h⟩ := h
        refine xq_nn ea15 ?_
        refine lv_iload_n F.1 F.2.1 dX10_byteAt_31 rfl (lv_at hl 1 rfl) ?_
        obtain ⟨ht16, h⟩ := h
        obtain ⟨hn17, h⟩ := h
        refine kx_iald F C ht16 hn17 dX10_byteAt_32 ?_
        refine lv_goto (tgt := 37) F.1 F.2.1 dX10_byteAt_33 (by decide) ?_
        exact kx_iret F C hr hlocks h dX10_byteAt_37
section
variable {p : Program} {l : Launch} {e : Env} {fr lo c0 : Nat} {s : State} {m : MethodId} {args : Array Value} {below : List Frame} {meth : Method} {c : Code} {H : Heap} {locs : List Loc} {Q : State → Prop}
variable {cc : ByteArray} {pc nL index : Nat} {ls : Array Slot} {rest : List Value} {G : kx_G} {σ : kx_S} {own : String}
theorem xk_X10_byteAt {P : Int32 → kx_S → Prop} (F : CallFix p m c cc nL s args kt_ own) (C : kx_X G c0 s H locs σ) (l0 : Nat) (l1 : Int32) (ha : xt σ l0 = 12) (h : wX10_byteAt l0 l1 σ P) (hw : Cond.methodLink own index yX10_byteAt ∈ kt_) (h1 : (0) + 1 ≤ fr) (h2 : 8 + (2 + 11) + (0) ≤ lo) (hsz : ls.size = nL) (hW : (rest.map fun v => v.category).sum ≤ 8) (hdg : decode cc pc = .ok (.invokevirtual index, 3)) (kk : ∀ (r : Int32) (u : kx_S) (H1 : Heap) (locs1 : List Loc), P r u → kx_X G c0 s H1 locs1 u → kx_W p l e fr lo c0 s m args below meth c H1 locs1 u Q (F0 m (pc + 3) ls (.int r :: rest))) : kx_W p l e fr lo c0 s m args below meth c H locs σ Q (F0 m pc ls (.int l1 :: .ref l0 :: rest)) :=
  kx_cV (n := 1) (As := [.int l1]) (Cn := RX10) F C (hx_X10_byteAt l G l0 l1 σ P h) (kt_V hw ux_386 ux_387 ux_101 ux_385) (by decide +kernel) ⟨h1, h2⟩ (kx_recv C (by rw [ha]; decide) (kx_e12 ha) rfl) rfl hsz hW hdg (fun v u H1 locs1 hP9 C9 => by obtain ⟨r, hv, hp⟩ := hP9; subst hv; exact kk r u H1 locs1 hp C9)
end
theorem dX10_endOfRow_0 : decode cX10_endOfRow 0 = .ok (.iload_n 1, 1) := by decide +kernel
theorem dX10_endOfRow_1 : decode cX10_endOfRow 1 = .ok (.istore_n 3, 1) := by decide +kernel
theorem dX10_endOfRow_2 : decode cX10_endOfRow 2 = .ok (.iload_n 3, 1) := by decide +kernel
theorem dX10_endOfRow_3 : decode cX10_endOfRow 3 = .ok (.aload_n 0, 1) := by decide +kernel
theorem dX10_endOfRow_4 : decode cX10_endOfRow 4 = .ok (.getfield 15, 3) := by decide +kernel
theorem dX10_endOfRow_7 : decode cX10_endOfRow 7 = .ok (.if_icmp .ge 21, 3) := by decide +kernel
theorem dX10_endOfRow_10 : decode cX10_endOfRow 10 = .ok (.aload_n 0, 1) := by decide +kernel
theorem dX10_endOfRow_11 : decode cX10_endOfRow 11 = .ok (.iload_n 3, 1) := by decide +kernel
theorem dX10_endOfRow_12 : decode cX10_endOfRow 12 = .ok (.invokevirtual 32, 3) := by decide +kernel
theorem dX10_endOfRow_15 : decode cX10_endOfRow 15 = .ok (.invokestatic 36, 3) := by decide +kernel
theorem dX10_endOfRow_18 : decode cX10_endOfRow 18 = .ok (.iload_n 2, 1) := by decide +kernel
theorem dX10_endOfRow_19 : decode cX10_endOfRow 19 = .ok (.if_icmp .ne 9, 3) := by decide +kernel
theorem dX10_endOfRow_22 : decode cX10_endOfRow 22 = .ok (.iinc 3 1, 3) := by decide +kernel
theorem dX10_endOfRow_25 : decode cX10_endOfRow 25 = .ok (.goto (-23), 3) := by decide +kernel
theorem dX10_endOfRow_28 : decode cX10_endOfRow 28 = .ok (.iload_n 3, 1) := by decide +kernel
theorem dX10_endOfRow_29 : decode cX10_endOfRow 29 = .ok (.ireturn, 1) := by decide +kernel
def wX10_endOfRow_2 (Q : Int32 → kx_S → Prop) : Nat → Nat → Int32 → Int32 → kx_S → Prop
  | 0, _, _, _, _ => False
  | n + 1, l0, l2, l3, σ => xt σ l0 = 12 ∧ (((xi σ 193 l0) ≤ l3 → Q l3 σ) ∧
    (¬ ((xi σ 193 l0) ≤ l3) → wX10_byteAt l0 l3 σ (fun r4 σ3 => wX10_kindOf r4 σ3 (fun r6 σ5 => ((¬ r6 = l2 → Q l3 σ5) ∧
      (r6 = l2 → ∀ v8 : Int32, v8 = l3 + 1 → wX10_endOfRow_2 Q n l0 l2 v8 σ5))))))
def wX10_endOfRow (l0 : Nat) (l1 : Int32) (l2 : Int32) (σ : kx_S) (Q : Int32 → kx_S → Prop) : Prop := ∃ j, wX10_endOfRow_2 Q j l0 l2 l1 σ
set_option maxRecDepth 100000 in
set_option maxHeartbeats 4000000 in
theorem tX10_endOfRow_2 (l : Launch) (G : kx_G) (σ0 : kx_S) {p : Program} {e : Env} {s : State} {m : MethodId} {args : Array Value} {below : List Frame} {meth : Method} {c : Code} (F : CallFix p m c cX10_endOfRow 4 s args kt_ RX10) (hr : meth.sig.returnType = (some .int)) (hlocks : meth.locks = false) (Q : Int32 → kx_S → Prop) : ∀ (n : Nat) (l0 : Nat) (l2 : Int32) (l3 : Int32) (σ : kx_S) (H : Heap) (locs : List Loc) (ls : Array Slot), wX10_endOfRow_2 Q n l0 l2 l3 σ → kx_X G (xc σ0) s H locs σ → lv_has ls 4 [(0, .ref l0), (2, .int l2), (3, .int l3)] → kx_W p l e (1) (21) (xc σ0) s m args below meth c H locs σ (MQ below (kx_Q G σ0 (kx_ri Q)) args s (kx_N - xc σ0) (600 * (kx_N - xc σ0)) (kx_A G)) (F0 m 2 ls []) := by
  intro n
  induction n with
  | zero => intro l0 l2 l3 σ H locs ls h; exact h.elim
  | succ n ih =>
    intro l0 l2 l3 σ H locs ls h C hl
    refine lv_iload_n F.1 F.2.1 dX10_endOfRow_2 rfl (lv_at hl 2 rfl) ?_
    refine lv_aload_n F.1 F.2.1 dX10_endOfRow_3 rfl (lv_at hl 0 rfl) ?_
    obtain ⟨ht1, h⟩ := h
    refine xg_X10_length F C ht1 ux_383 (fun _ h9 => h9) dX10_endOfRow_4 ?_
    refine lv_icmp_ge (tgt := 28) F.1 F.2.1 dX10_endOfRow_7 (by decide) (fun c2 => ?_) (fun c2 => ?_)
    · replace h := h.1 c2
      refine lv_iload_n F.1 F.2.1 dX10_endOfRow_28 rfl (lv_at hl 2 rfl) ?_
      exact kx_iret F C hr hlocks h dX10_endOfRow_29
    · replace h := h.2 c2
      refine lv_aload_n F.1 F.2.1 dX10_endOfRow_10 rfl (lv_at hl 0 rfl) ?_
      refine lv_iload_n F.1 F.2.1 dX10_endOfRow_11 rfl (lv_at hl 2 rfl) ?_
      refine xk_X10_byteAt F C l0 l3 ht1 h ux_388 (Nat.le_of_ble_eq_true rfl) (Nat.le_of_ble_eq_true rfl) hl.1 (by simp [Value.category]) dX10_endOfRow_12 (fun r4 σ3 H locs h C => ?_)
      refine xk_X10_kindOf F C r4 h ux_389 (Nat.le_of_ble_eq_true rfl) (Nat.le_of_ble_eq_true rfl) hl.1 (by simp [Value.category]) dX10_endOfRow_15 (fun r6 σ5 H locs h C => ?_)
      refine lv_iload_n F.1 F.2.1 dX10_endOfRow_18 rfl (lv_at hl 1 rfl) ?_
      refine lv_icmp_ne (tgt := 28) F.1 F.2.1 dX10_endOfRow_19 (by decide) (fun c7 => ?_) (fun c7 => ?_)
      · replace h := h.1 c7
        refine lv_iload_n F.1 F.2.1 dX10_endOfRow_28 rfl (lv_at hl 2 rfl) ?_
        exact kx_iret F C hr hlocks h dX10_endOfRow_29
      · replace h := h.2 c7
        obtain ⟨v8, ev8⟩ : ∃ z9 : Int32, z9 = l3 + 1 := ⟨_, rfl⟩
        replace h := h v8 ev8
        refine lv_iinc (v := v8) (lv' := [(3, .int v8), (0, .ref l0), (2, .int l2)]) F.1 F.2.1 dX10_endOfRow_22 hl (k := 2) rfl (by rw [ev8]; rfl) (by decide) rfl (fun ls hl => ?_)
        refine lv_goto (tgt := 2) F.1 F.2.1 dX10_endOfRow_25 (by decide) ?_
        exact ih l0 l2 v8 σ5 H locs ls h C (lv_sub hl [1, 2, 0] rfl)
set_option maxRecDepth 100000 in
set_option maxHeartbeats 4000000 in
theorem hx_X10_endOfRow (l : Launch) (G : kx_G) (l0 : Nat) (l1 : Int32) (l2 : Int32) (σ : kx_S) (Q : Int32 → kx_S → Prop) (h : wX10_endOfRow l0 l1 l2 σ Q) : kx_M l G yX10_endOfRow cX10_endOfRow 4 (some .int) (1) (21) [.ref l0, .int l1, .int l2] σ (kx_ri Q) := by
  refine kx_enter (by decide) rfl (Nat.le_of_ble_eq_true rfl) ?_
  intro p e s m below meth c ls F hr hlocks C hname hl
  have hl : lv_has ls 4 [(0, .ref l0), (1, .int l1), (2, .int l2)] := hl
  obtain ⟨H, eH⟩ : ∃ z9, z9 = s.heap := ⟨_, rfl⟩
  obtain ⟨locs, eL⟩ : ∃ z9 : List Loc, z9 = [] := ⟨_, rfl⟩
  rw [← eH, ← eL] at C
  rw [← eH, ← eL]
  obtain ⟨σ0, e0⟩ : ∃ z9, z9 = σ := ⟨_, rfl⟩
  have C : kx_X G (xc σ0) s H locs σ := by rw [e0]; exact C
  suffices hgo : kx_W p l e (1) (21) (xc σ0) s m ([.ref l0, .int l1, .int l2] : List Value).toArray below meth c H locs σ (MQ below (kx_Q G σ0 (kx_ri Q)) ([.ref l0, .int l1, .int l2] : List Value).toArray s (kx_N - xc σ0) (600 * (kx_N - xc σ0)) (kx_A G)) (F0 m 0 ls []) by rw [e0] at hgo; exact hgo
  clear e0
  refine lv_iload_n F.1 F.2.1 dX10_endOfRow_0 rfl (lv_at hl 1 rfl) ?_
  refine lv_istore_n (lv' := [(3, .int l1), (0, .ref l0), (1, .int l1), (2, .int l2)]) F.1 F.2.1 dX10_endOfRow_1 rfl hl (by decide) rfl (fun ls hl => ?_)
  obtain ⟨n9, h⟩ := h
  exact tX10_endOfRow_2 l G σ0 F hr hlocks Q n9 l0 l2 l1 σ H locs ls h C (lv_sub hl [1, 3, 0] rfl)
section
variable {p : Program} {l : Launch} {e : Env} {fr lo c0 : Nat} {s : State} {m : MethodId} {args : Array Value} {below : List Frame} {meth : Method} {c : Code} {H : Heap} {locs : List Loc} {Q : State → Prop}
variable {cc : ByteArray} {pc nL index : Nat} {ls : Array Slot} {rest : List Value} {G : kx_G} {σ : kx_S} {own : String}
theorem xk_X10_endOfRow {P : Int32 → kx_S → Prop} (F : CallFix p m c cc nL s args kt_ own) (C : kx_X G c0 s H locs σ) (l0 : Nat) (l1 : Int32) (l2 : Int32) (ha : xt σ l0 = 12) (h : wX10_endOfRow l0 l1 l2 σ P) (hw : Cond.methodLink own index yX10_endOfRow ∈ kt_) (h1 : (1) + 1 ≤ fr) (h2 : 8 + (4 + 11) + (21) ≤ lo) (hsz : ls.size = nL) (hW : (rest.map fun v => v.category).sum ≤ 8) (hdg : decode cc pc = .ok (.invokevirtual index, 3)) (kk : ∀ (r : Int32) (u : kx_S) (H1 : Heap) (locs1 : List Loc), P r u → kx_X G c0 s H1 locs1 u → kx_W p l e fr lo c0 s m args below meth c H1 locs1 u Q (F0 m (pc + 3) ls (.int r :: rest))) : kx_W p l e fr lo c0 s m args below meth c H locs σ Q (F0 m pc ls (.int l2 :: .int l1 :: .ref l0 :: rest)) :=
  kx_cV (n := 2) (As := [.int l1, .int l2]) (Cn := RX10) F C (hx_X10_endOfRow l G l0 l1 l2 σ P h) (kt_V hw ux_391 ux_392 ux_101 ux_390) (by decide +kernel) ⟨h1, h2⟩ (kx_recv C (by rw [ha]; decide) (kx_e12 ha) rfl) rfl hsz hW hdg (fun v u H1 locs1 hP9 C9 => by obtain ⟨r, hv, hp⟩ := hP9; subst hv; exact kk r u H1 locs1 hp C9)
end
theorem dX10_advance_0 : decode cX10_advance 0 = .ok (.aload_n 0, 1) := by decide +kernel
theorem dX10_advance_1 : decode cX10_advance 1 = .ok (.aload_n 0, 1) := by decide +kernel
theorem dX10_advance_2 : decode cX10_advance 2 = .ok (.aload_n 0, 1) := by decide +kernel
theorem dX10_advance_3 : decode cX10_advance 3 = .ok (.getfield 19, 3) := by decide +kernel
theorem dX10_advance_6 : decode cX10_advance 6 = .ok (.iconst 5, 1) := by decide +kernel
theorem dX10_advance_7 : decode cX10_advance 7 = .ok (.invokevirtual 25, 3) := by decide +kernel
theorem dX10_advance_10 : decode cX10_advance 10 = .ok (.putfield 29, 3) := by decide +kernel
theorem dX10_advance_13 : decode cX10_advance 13 = .ok (.aload_n 0, 1) := by decide +kernel
theorem dX10_advance_14 : decode cX10_advance 14 = .ok (.aload_n 0, 1) := by decide +kernel
theorem dX10_advance_15 : decode cX10_advance 15 = .ok (.aload_n 0, 1) := by decide +kernel
theorem dX10_advance_16 : decode cX10_advance 16 = .ok (.getfield 29, 3) := by decide +kernel
theorem dX10_advance_19 : decode cX10_advance 19 = .ok (.invokevirtual 32, 3) := by decide +kernel
theorem dX10_advance_22 : decode cX10_advance 22 = .ok (.invokestatic 36, 3) := by decide +kernel
theorem dX10_advance_25 : decode cX10_advance 25 = .ok (.putfield 39, 3) := by decide +kernel
theorem dX10_advance_28 : decode cX10_advance 28 = .ok (.aload_n 0, 1) := by decide +kernel
theorem dX10_advance_29 : decode cX10_advance 29 = .ok (.getfield 39, 3) := by decide +kernel
theorem dX10_advance_32 : decode cX10_advance 32 = .ok (.iconst 1, 1) := by decide +kernel
theorem dX10_advance_33 : decode cX10_advance 33 = .ok (.if_icmp .eq 11, 3) := by decide +kernel
theorem dX10_advance_36 : decode cX10_advance 36 = .ok (.aload_n 0, 1) := by decide +kernel
theorem dX10_advance_37 : decode cX10_advance 37 = .ok (.getfield 39, 3) := by decide +kernel
theorem dX10_advance_40 : decode cX10_advance 40 = .ok (.iconst 2, 1) := by decide +kernel
theorem dX10_advance_41 : decode cX10_advance 41 = .ok (.if_icmp .ne 22, 3) := by decide +kernel
theorem dX10_advance_44 : decode cX10_advance 44 = .ok (.aload_n 0, 1) := by decide +kernel
theorem dX10_advance_45 : decode cX10_advance 45 = .ok (.aload_n 0, 1) := by decide +kernel
theorem dX10_advance_46 : decode cX10_advance 46 = .ok (.aload_n 0, 1) := by decide +kernel
theorem dX10_advance_47 : decode cX10_advance 47 = .ok (.getfield 29, 3) := by decide +kernel
theorem dX10_advance_50 : decode cX10_advance 50 = .ok (.aload_n 0, 1) := by decide +kernel
theorem dX10_advance_51 : decode cX10_advance 51 = .ok (.getfield 39, 3) := by decide +kernel
theorem dX10_advance_54 : decode cX10_advance 54 = .ok (.invokevirtual 25, 3) := by decide +kernel
theorem dX10_advance_57 : decode cX10_advance 57 = .ok (.putfield 19, 3) := by decide +kernel
theorem dX10_advance_60 : decode cX10_advance 60 = .ok (.goto 20, 3) := by decide +kernel
theorem dX10_advance_63 : decode cX10_advance 63 = .ok (.aload_n 0, 1) := by decide +kernel
theorem dX10_advance_64 : decode cX10_advance 64 = .ok (.aload_n 0, 1) := by decide +kernel
theorem dX10_advance_65 : decode cX10_advance 65 = .ok (.getfield 29, 3) := by decide +kernel
theorem dX10_advance_68 : decode cX10_advance 68 = .ok (.iconst 1, 1) := by decide +kernel
theorem dX10_advance_69 : decode cX10_advance 69 = .ok (.iadd, 1) := by decide +kernel
theorem dX10_advance_70 : decode cX10_advance 70 = .ok (.aload_n 0, 1) := by decide +kernel
theorem dX10_advance_71 : decode cX10_advance 71 = .ok (.getfield 15, 3) := by decide +kernel
theorem dX10_advance_74 : decode cX10_advance 74 = .ok (.invokestatic 42, 3) := by decide +kernel
theorem dX10_advance_77 : decode cX10_advance 77 = .ok (.putfield 19, 3) := by decide +kernel
theorem dX10_advance_80 : decode cX10_advance 80 = .ok (.aload_n 0, 1) := by decide +kernel
theorem dX10_advance_81 : decode cX10_advance 81 = .ok (.getfield 39, 3) := by decide +kernel
theorem dX10_advance_84 : decode cX10_advance 84 = .ok (.iconst 2, 1) := by decide +kernel
theorem dX10_advance_85 : decode cX10_advance 85 = .ok (.if_icmp .ne 22, 3) := by decide +kernel
theorem dX10_advance_88 : decode cX10_advance 88 = .ok (.aload_n 0, 1) := by decide +kernel
theorem dX10_advance_89 : decode cX10_advance 89 = .ok (.getfield 19, 3) := by decide +kernel
theorem dX10_advance_92 : decode cX10_advance 92 = .ok (.aload_n 0, 1) := by decide +kernel
theorem dX10_advance_93 : decode cX10_advance 93 = .ok (.getfield 29, 3) := by decide +kernel
theorem dX10_advance_96 : decode cX10_advance 96 = .ok (.isub, 1) := by decide +kernel
theorem dX10_advance_97 : decode cX10_advance 97 = .ok (.bipush 6, 2) := by decide +kernel
theorem dX10_advance_99 : decode cX10_advance 99 = .ok (.if_icmp .le 8, 3) := by decide +kernel
theorem dX10_advance_102 : decode cX10_advance 102 = .ok (.aload_n 0, 1) := by decide +kernel
theorem dX10_advance_103 : decode cX10_advance 103 = .ok (.iconst 3, 1) := by decide +kernel
theorem dX10_advance_104 : decode cX10_advance 104 = .ok (.putfield 39, 3) := by decide +kernel
theorem dX10_advance_107 : decode cX10_advance 107 = .ok (.return_, 1) := by decide +kernel
def wX10_advance_44 (k80 : Nat → kx_S → Prop) (Q : kx_S → Prop) (l0 : Nat) (σ : kx_S) : Prop := xt σ l0 = 12 ∧ wX10_endOfRow l0 (xi σ 195 l0) (xi σ 196 l0) σ (fun r3 σ2 => xt σ2 l0 = 12 ∧ ∀ σ5, σ5 = xsi σ2 194 l0 r3 → k80 l0 σ5)
def wX10_advance_80 (Q : kx_S → Prop) (l0 : Nat) (σ : kx_S) : Prop := xt σ l0 = 12 ∧ ((¬ (xi σ 196 l0) = 2 → Q σ) ∧
  ((xi σ 196 l0) = 2 → ((((xi σ 194 l0) - (xi σ 195 l0)) ≤ 6 → Q σ) ∧
    (¬ (((xi σ 194 l0) - (xi σ 195 l0)) ≤ 6) → ∀ σ10, σ10 = xsi σ 196 l0 3 → Q σ10))))
def wX10_advance (l0 : Nat) (σ : kx_S) (Q : kx_S → Prop) : Prop := xt σ l0 = 12 ∧ wX10_endOfRow l0 (xi σ 194 l0) 5 σ (fun r14 σ13 => xt σ13 l0 = 12 ∧ ∀ σ16, σ16 = xsi σ13 195 l0 r14 → wX10_byteAt l0 (xi σ16 195 l0) σ16 (fun r19 σ18 => wX10_kindOf r19 σ18 (fun r21 σ20 => xt σ20 l0 = 12 ∧ ∀ σ23, σ23 = xsi σ20 196 l0 r21 → (((xi σ23 196 l0) = 1 → wX10_advance_44 (wX10_advance_80 Q) Q l0 σ23) ∧
  (¬ ((xi σ23 196 l0) = 1) → ((¬ (xi σ23 196 l0) = 2 → ∀ v27, v27 = (if (xi σ23 193 l0) < ((xi σ23 195 l0) + 1) then (xi σ23 193 l0) else ((xi σ23 195 l0) + 1)) → ∀ σ28, σ28 = xsi σ23 194 l0 v27 → wX10_advance_80 Q l0 σ28) ∧
    ((xi σ23 196 l0) = 2 → wX10_advance_44 (wX10_advance_80 Q) Q l0 σ23)))))))
set_option maxRecDepth 100000 in
set_option maxHeartbeats 4000000 in
theorem tX10_advance_44 (l : Launch) (G : kx_G) (σ0 : kx_S) {p : Program} {e : Env} {s : State} {m : MethodId} {args : Array Value} {below : List Frame} {meth : Method} {c : Code} (F : CallFix p m c cX10_advance 1 s args kt_ RX10) (hr : meth.sig.returnType = none) (hlocks : meth.locks = false) (Q : kx_S → Prop) (k80 : Nat → kx_S → Prop) (hk80 : ∀ (l0 : Nat) (σ : kx_S) (H : Heap) (locs : List Loc) (ls : Array Slot), k80 l0 σ → kx_X G (xc σ0) s H locs σ → lv_has ls 1 [(0, .ref l0)] → kx_W p l e (2) (44) (xc σ0) s m args below meth c H locs σ (MQ below (kx_Q G σ0 (kx_rv Q)) args s (kx_N - xc σ0) (600 * (kx_N - xc σ0)) (kx_A G)) (F0 m 80 ls [])) : ∀ (l0 : Nat) (σ : kx_S) (H : Heap) (locs : List Loc) (ls : Array Slot), wX10_advance_44 k80 Q l0 σ → kx_X G (xc σ0) s H locs σ → lv_has ls 1 [(0, .ref l0)] → kx_W p l e (2) (44) (xc σ0) s m args below meth c H locs σ (MQ below (kx_Q G σ0 (kx_rv Q)) args s (kx_N - xc σ0) (600 * (kx_N - xc σ0)) (kx_A G)) (F0 m 44 ls []) := by
  intro l0 σ H locs ls h C hl
  refine lv_aload_n F.1 F.2.1 dX10_advance_44 rfl (lv_at hl 0 rfl) ?_
  refine lv_aload_n F.1 F.2.1 dX10_advance_45 rfl (lv_at hl 0 rfl) ?_
  refine lv_aload_n F.1 F.2.1 dX10_advance_46 rfl (lv_at hl 0 rfl) ?_
  obtain ⟨ht1, h⟩ := h
  refine xg_X10_start F C ht1 ux_393 (fun _ h9 => h9) dX10_advance_47 ?_
  refine lv_aload_n F.1 F.2.1 dX10_advance_50 rfl (lv_at hl 0 rfl) ?_
  refine xg_X10_kind F C ht1 ux_394 (fun _ h9 => h9) dX10_advance_51 ?_
  refine xk_X10_endOfRow F C l0 (xi σ 195 l0) (xi σ 196 l0) ht1 h ux_395 (Nat.le_of_ble_eq_true rfl) (Nat.le_of_ble_eq_true rfl) hl.1 (by simp [Value.category]) dX10_advance_54 (fun r3 σ2 H locs h C => ?_)
  obtain ⟨ht4, h⟩ := h
  refine xp_X10_end (x := r3) F C ht4 ux_396 (fun _ h9 => h9) dX10_advance_57 (fun H locs C => ?_)
  generalize eσ5 : xsi σ2 194 l0 r3 = σ5 at C ⊢
  replace h := h σ5 eσ5.symm
  have ht6 : xt σ5 l0 = 12 := by rw [← eσ5]; exact ht4
  refine lv_goto (tgt := 80) F.1 F.2.1 dX10_advance_60 (by decide) ?_
  exact hk80 l0 σ5 H locs ls h C (lv_sub hl [0] rfl)
set_option maxRecDepth 100000 in
set_option maxHeartbeats 4000000 in
theorem tX10_advance_80 (l : Launch) (G : kx_G) (σ0 : kx_S) {p : Program} {e : Env} {s : State} {m : MethodId} {args : Array Value} {below : List Frame} {meth : Method} {c : Code} (F : CallFix p m c cX10_advance 1 s args kt_ RX10) (hr : meth.sig.returnType = none) (hlocks : meth.locks = false) (Q : kx_S → Prop) : ∀ (l0 : Nat) (σ : kx_S) (H : Heap) (locs : List Loc) (ls : Array Slot), wX10_advance_80 Q l0 σ → kx_X G (xc σ0) s H locs σ → lv_has ls 1 [(0, .ref l0)] → kx_W p l e (2) (44) (xc σ0) s m args below meth c H locs σ (MQ below (kx_Q G σ0 (kx_rv Q)) args s (kx_N - xc σ0) (600 * (kx_N - xc σ0)) (kx_A G)) (F0 m 80 ls []) := by
  intro l0 σ H locs ls h C hl
  refine lv_aload_n F.1 F.2.1 dX10_advance_80 rfl (lv_at hl 0 rfl) ?_
  obtain ⟨ht7, h⟩ := h
  refine xg_X10_kind F C ht7 ux_394 (fun _ h9 => h9) dX10_advance_81 ?_
  refine lv_iconst (v := 2) F.1 F.2.1 dX10_advance_84 (by decide) ?_
  refine lv_icmp_ne (tgt := 107) F.1 F.2.1 dX10_advance_85 (by decide) (fun c8 => ?_) (fun c8 => ?_)
  · replace h := h.1 c8
    exact kx_vret F C hr hlocks h dX10_advance_107
  · replace h := h.2 c8
    refine lv_aload_n F.1 F.2.1 dX10_advance_88 rfl (lv_at hl 0 rfl) ?_
    refine xg_X10_end F C ht7 ux_396 (fun _ h9 => h9) dX10_advance_89 ?_
    refine lv_aload_n F.1 F.2.1 dX10_advance_92 rfl (lv_at hl 0 rfl) ?_
    refine xg_X10_start F C ht7 ux_393 (fun _ h9 => h9) dX10_advance_93 ?_
    refine lv_isub (x := xi σ 194 l0) (y := xi σ 195 l0) F.1 F.2.1 dX10_advance_96 ?_
    refine lv_bipush (v := 6) F.1 F.2.1 dX10_advance_97 (by decide) ?_
    refine lv_icmp_le (tgt := 107) F.1 F.2.1 dX10_advance_99 (by decide) (fun c9 => ?_) (fun c9 => ?_)
    · replace h := h.1 c9
      exact kx_vret F C hr hlocks h dX10_advance_107
    · replace h := h.2 c9
      refine lv_aload_n F.1 F.2.1 dX10_advance_102 rfl (lv_at hl 0 rfl) ?_
      refine lv_iconst (v := 3) F.1 F.2.1 dX10_advance_103 (by decide) ?_
      refine xp_X10_kind (x := 3) F C ht7 ux_394 (fun _ h9 => h9) dX10_advance_104 (fun H locs C => ?_)
      generalize eσ10 : xsi σ 196 l0 3 = σ10 at C ⊢
      replace h := h σ10 eσ10.symm
      have ht11 : xt σ10 l0 = 12 := by rw [← eσ10]; exact ht7
      exact kx_vret F C hr hlocks h dX10_advance_107
set_option maxRecDepth 100000 in
set_option maxHeartbeats 4000000 in
theorem hx_X10_advance (l : Launch) (G : kx_G) (l0 : Nat) (σ : kx_S) (Q : kx_S → Prop) (h : wX10_advance l0 σ Q) : kx_M l G yX10_advance cX10_advance 1 none (2) (44) [.ref l0] σ (kx_rv Q) := by
  refine kx_enter (by decide) rfl (Nat.le_of_ble_eq_true rfl) ?_
  intro p e s m below meth c ls F hr hlocks C hname hl
  have hl : lv_has ls 1 [(0, .ref l0)] := hl
  obtain ⟨H, eH⟩ : ∃ z9, z9 = s.heap := ⟨_, rfl⟩
  obtain ⟨locs, eL⟩ : ∃ z9 : List Loc, z9 = [] := ⟨_, rfl⟩
  rw [← eH, ← eL] at C
  rw [← eH, ← eL]
  obtain ⟨σ0, e0⟩ : ∃ z9, z9 = σ := ⟨_, rfl⟩
  have C : kx_X G (xc σ0) s H locs σ := by rw [e0]; exact C
  suffices hgo : kx_W p l e (2) (44) (xc σ0) s m ([.ref l0] : List Value).toArray below meth c H locs σ (MQ below (kx_Q G σ0 (kx_rv Q)) ([.ref l0] : List Value).toArray s (kx_N - xc σ0) (600 * (kx_N - xc σ0)) (kx_A G)) (F0 m 0 ls []) by rw [e0] at hgo; exact hgo
  clear e0
  refine lv_aload_n F.1 F.2.1 dX10_advance_0 rfl (lv_at hl 0 rfl) ?_
  refine lv_aload_n F.1 F.2.1 dX10_advance_1 rfl (lv_at hl 0 rfl) ?_
  refine lv_aload_n F.1 F.2.1 dX10_advance_2 rfl (lv_at hl 0 rfl) ?_
  obtain ⟨ht12, h⟩ := h
  refine xg_X10_end F C ht12 ux_396 (fun _ h9 => h9) dX10_advance_3 ?_
  refine lv_iconst (v := 5) F.1 F.2.1 dX10_advance_6 (by decide) ?_
  refine xk_X10_endOfRow F C l0 (xi σ 194 l0) 5 ht12 h ux_395 (Nat.le_of_ble_eq_true rfl) (Nat.le_of_ble_eq_true rfl) hl.1 (by simp [Value.category]) dX10_advance_7 (fun r14 σ13 H locs h C => ?_)
  obtain ⟨ht15, h⟩ := h
  refine xp_X10_start (x := r14) F C ht15 ux_393 (fun _ h9 => h9) dX10_advance_10 (fun H locs C => ?_)
  generalize eσ16 : xsi σ13 195 l0 r14 = σ16 at C ⊢
  replace h := h σ16 eσ16.symm
  have ht17 : xt σ16 l0 = 12 := by rw [← eσ16]; exact ht15
  refine lv_aload_n F.1 F.2.1 dX10_advance_13 rfl (lv_at hl 0 rfl) ?_
  refine lv_aload_n F.1 F.2.1 dX10_advance_14 rfl (lv_at hl 0 rfl) ?_
  refine lv_aload_n F.1 F.2.1 dX10_advance_15 rfl (lv_at hl 0 rfl) ?_
  refine xg_X10_start F C ht17 ux_393 (fun _ h9 => h9) dX10_advance_16 ?_
  refine xk_X10_byteAt F C l0 (xi σ16 195 l0) ht17 h ux_388 (Nat.le_of_ble_eq_true rfl) (Nat.le_of_ble_eq_true rfl) hl.1 (by simp [Value.category]) dX10_advance_19 (fun r19 σ18 H locs h C => ?_)
  refine xk_X10_kindOf F C r19 h ux_389 (Nat.le_of_ble_eq_true rfl) (Nat.le_of_ble_eq_true rfl) hl.1 (by simp [Value.category]) dX10_advance_22 (fun r21 σ20 H locs h C => ?_)
  obtain ⟨ht22, h⟩ := h
  refine xp_X10_kind (x := r21) F C ht22 ux_394 (fun _ h9 => h9) dX10_advance_25 (fun H locs C => ?_)
  generalize eσ23 : xsi σ20 196 l0 r21 = σ23 at C ⊢
  replace h := h σ23 eσ23.symm
  have ht24 : xt σ23 l0 = 12 := by rw [← eσ23]; exact ht22
  refine lv_aload_n F.1 F.2.1 dX10_advance_28 rfl (lv_at hl 0 rfl) ?_
  refine xg_X10_kind F C ht24 ux_394 (fun _ h9 => h9) dX10_advance_29 ?_
  refine lv_iconst (v := 1) F.1 F.2.1 dX10_advance_32 (by decide) ?_
  refine lv_icmp_eq (tgt := 44) F.1 F.2.1 dX10_advance_33 (by decide) (fun c25 => ?_) (fun c25 => ?_)
  · replace h := h.1 c25
    exact tX10_advance_44 l G σ0 F hr hlocks Q (wX10_advance_80 Q) (tX10_advance_80 l G σ0 F hr hlocks Q) l0 σ23 H locs ls h C (lv_sub hl [0] rfl)
  · replace h := h.2 c25
    refine lv_aload_n F.1 F.2.1 dX10_advance_36 rfl (lv_at hl 0 rfl) ?_
    refine xg_X10_kind F C ht24 ux_394 (fun _ h9 => h9) dX10_advance_37 ?_
    refine lv_iconst (v := 2) F.1 F.2.1 dX10_advance_40 (by decide) ?_
    refine lv_icmp_ne (tgt := 63) F.1 F.2.1 dX10_advance_41 (by decide) (fun c26 => ?_) (fun c26 => ?_)
    · replace h := h.1 c26
      refine lv_aload_n F.1 F.2.1 dX10_advance_63 rfl (lv_at hl 0 rfl) ?_
      refine lv_aload_n F.1 F.2.1 dX10_advance_64 rfl (lv_at hl 0 rfl) ?_
      refine xg_X10_start F C ht24 ux_393 (fun _ h9 => h9) dX10_advance_65 ?_
      refine lv_iconst (v := 1) F.1 F.2.1 dX10_advance_68 (by decide) ?_
      refine lv_iadd (x := xi σ23 195 l0) (y := 1) F.1 F.2.1 dX10_advance_69 ?_
      refine lv_aload_n F.1 F.2.1 dX10_advance_70 rfl (lv_at hl 0 rfl) ?_
      refine xg_X10_length F C ht24 ux_383 (fun _ h9 => h9) dX10_advance_71 ?_
      refine kx_min F C ux_397 (Nat.le_of_ble_eq_true rfl) (by simp [Value.category]) hl.1 dX10_advance_74 ?_
      refine lv_topi (fun v27 ev27 => ?_)
      replace h := h v27 ev27
      refine xp_X10_end (x := v27) F C ht24 ux_396 (fun _ h9 => h9) dX10_advance_77 (fun H locs C => ?_)
      generalize eσ28 : xsi σ23 194 l0 v27 = σ28 at C ⊢
      replace h := h σ28 eσ28.symm
      have ht29 : xt σ28 l0 = 12 := by rw [← eσ28]; exact ht24
      exact tX10_advance_80 l G σ0 F hr hlocks Q l0 σ28 H locs ls h C (lv_sub hl [0] rfl)
    · replace h := h.2 c26
      exact tX10_advance_44 l G σ0 F hr hlocks Q (wX10_advance_80 Q) (tX10_advance_80 l G σ0 F hr hlocks Q) l0 σ23 H locs ls h C (lv_sub hl [0] rfl)
section
variable {p : Program} {l : Launch} {e : Env} {fr lo c0 : Nat} {s : State} {m : MethodId} {args : Array Value} {below : List Frame} {meth : Method} {c : Code} {H : Heap} {locs : List Loc} {Q : State → Prop}
variable {cc : ByteArray} {pc nL index : Nat} {ls : Array Slot} {rest : List Value} {G : kx_G} {σ : kx_S} {own : String}
theorem xk_X10_advance {P : kx_S → Prop} (F : CallFix p m c cc nL s args kt_ own) (C : kx_X G c0 s H locs σ) (l0 : Nat) (ha : xt σ l0 = 12) (h : wX10_advance l0 σ P) (hw : Cond.methodLink own index yX10_advance ∈ kt_) (h1 : (2) + 1 ≤ fr) (h2 : 8 + (1 + 11) + (44) ≤ lo) (hsz : ls.size = nL) (hW : (rest.map fun v => v.category).sum ≤ 8) (hdg : decode cc pc = .ok (.invokevirtual index, 3)) (kk : ∀ (u : kx_S) (H1 : Heap) (locs1 : List Loc), P u → kx_X G c0 s H1 locs1 u → kx_W p l e fr lo c0 s m args below meth c H1 locs1 u Q (F0 m (pc + 3) ls rest)) : kx_W p l e fr lo c0 s m args below meth c H locs σ Q (F0 m pc ls (.ref l0 :: rest)) :=
  kx_cV (n := 0) (As := []) (Cn := RX10) F C (hx_X10_advance l G l0 σ P h) (kt_V hw ux_399 ux_400 ux_101 ux_398) (by decide +kernel) ⟨h1, h2⟩ (kx_recv C (by rw [ha]; decide) (kx_e12 ha) rfl) rfl hsz hW hdg (fun v u H1 locs1 hP9 C9 => by obtain ⟨hv, hp⟩ := hP9; subst hv; exact kk u H1 locs1 hp C9)
end
theorem dX10_openText_0 : decode cX10_openText 0 = .ok (.aload_n 0, 1) := by decide +kernel
theorem dX10_openText_1 : decode cX10_openText 1 = .ok (.iload_n 1, 1) := by decide +kernel
theorem dX10_openText_2 : decode cX10_openText 2 = .ok (.putfield 15, 3) := by decide +kernel
theorem dX10_openText_5 : decode cX10_openText 5 = .ok (.aload_n 0, 1) := by decide +kernel
theorem dX10_openText_6 : decode cX10_openText 6 = .ok (.iconst 0, 1) := by decide +kernel
theorem dX10_openText_7 : decode cX10_openText 7 = .ok (.putfield 19, 3) := by decide +kernel
theorem dX10_openText_10 : decode cX10_openText 10 = .ok (.aload_n 0, 1) := by decide +kernel
theorem dX10_openText_11 : decode cX10_openText 11 = .ok (.invokevirtual 22, 3) := by decide +kernel
theorem dX10_openText_14 : decode cX10_openText 14 = .ok (.return_, 1) := by decide +kernel
def wX10_openText (l0 : Nat) (l1 : Int32) (σ : kx_S) (Q : kx_S → Prop) : Prop := xt σ l0 = 12 ∧ ∀ σ2, σ2 = xsi σ 193 l0 l1 → ∀ σ4, σ4 = xsi σ2 194 l0 0 → wX10_advance l0 σ4 (fun σ6 => Q σ6)
set_option maxRecDepth 100000 in
set_option maxHeartbeats 4000000 in
theorem hx_X10_openText (l : Launch) (G : kx_G) (l0 : Nat) (l1 : Int32) (σ : kx_S) (Q : kx_S → Prop) (h : wX10_openText l0 l1 σ Q) : kx_M l G yX10_openText cX10_openText 2 none (3) (64) [.ref l0, .int l1] σ (kx_rv Q) := by
  refine kx_enter (by decide) rfl (Nat.le_of_ble_eq_true rfl) ?_
  intro p e s m below meth c ls F hr hlocks C hname hl
  have hl : lv_has ls 2 [(0, .ref l0), (1, .int l1)] := hl
  obtain ⟨H, eH⟩ : ∃ z9, z9 = s.heap := ⟨_, rfl⟩
  obtain ⟨locs, eL⟩ : ∃ z9 : List Loc, z9 = [] := ⟨_, rfl⟩
  rw [← eH, ← eL] at C
  rw [← eH, ← eL]
  obtain ⟨σ0, e0⟩ : ∃ z9, z9 = σ := ⟨_, rfl⟩
  have C : kx_X G (xc σ0) s H locs σ := by rw [e0]; exact C
  suffices hgo : kx_W p l e (3) (64) (xc σ0) s m ([.ref l0, .int l1] : List Value).toArray below meth c H locs σ (MQ below (kx_Q G σ0 (kx_rv Q)) ([.ref l0, .int l1] : List Value).toArray s (kx_N - xc σ0) (600 * (kx_N - xc σ0)) (kx_A G)) (F0 m 0 ls []) by rw [e0] at hgo; exact hgo
  clear e0
  refine lv_aload_n F.1 F.2.1 dX10_openText_0 rfl (lv_at hl 0 rfl) ?_
  refine lv_iload_n F.1 F.2.1 dX10_openText_1 rfl (lv_at hl 1 rfl) ?_
  obtain ⟨ht1, h⟩ := h
  refine xp_X10_length (x := l1) F C ht1 ux_383 (fun _ h9 => h9) dX10_openText_2 (fun H locs C => ?_)
  generalize eσ2 : xsi σ 193 l0 l1 = σ2 at C ⊢
  replace h := h σ2 eσ2.symm
  have ht3 : xt σ2 l0 = 12 := by rw [← eσ2]; exact ht1
  refine lv_aload_n F.1 F.2.1 dX10_openText_5 rfl (lv_at hl 0 rfl) ?_
  refine lv_iconst (v := 0) F.1 F.2.1 dX10_openText_6 (by decide) ?_
  refine xp_X10_end (x := 0) F C ht3 ux_396 (fun _ h9 => h9) dX10_openText_7 (fun H locs C => ?_)
  generalize eσ4 : xsi σ2 194 l0 0 = σ4 at C ⊢
  replace h := h σ4 eσ4.symm
  have ht5 : xt σ4 l0 = 12 := by rw [← eσ4]; exact ht3
  refine lv_aload_n F.1 F.2.1 dX10_openText_10 rfl (lv_at hl 0 rfl) ?_
  refine xk_X10_advance F C l0 ht5 h ux_401 (Nat.le_of_ble_eq_true rfl) (Nat.le_of_ble_eq_true rfl) hl.1 (by simp [Value.category]) dX10_openText_11 (fun σ6 H locs h C => ?_)
  exact kx_vret F C hr hlocks h dX10_openText_14
section
variable {p : Program} {l : Launch} {e : Env} {fr lo c0 : Nat} {s : State} {m : MethodId} {args : Array Value} {below : List Frame} {meth : Method} {c : Code} {H : Heap} {locs : List Loc} {Q : State → Prop}
variable {cc : ByteArray} {pc nL index : Nat} {ls : Array Slot} {rest : List Value} {G : kx_G} {σ : kx_S} {own : String}
theorem xk_X10_openText {P : kx_S → Prop} (F : CallFix p m c cc nL s args kt_ own) (C : kx_X G c0 s H locs σ) (l0 : Nat) (l1 : Int32) (ha : xt σ l0 = 12) (h : wX10_openText l0 l1 σ P) (hw : Cond.methodLink own index yX10_openText ∈ kt_) (h1 : (3) + 1 ≤ fr) (h2 : 8 + (2 + 11) + (64) ≤ lo) (hsz : ls.size = nL) (hW : (rest.map fun v => v.category).sum ≤ 8) (hdg : decode cc pc = .ok (.invokevirtual index, 3)) (kk : ∀ (u : kx_S) (H1 : Heap) (locs1 : List Loc), P u → kx_X G c0 s H1 locs1 u → kx_W p l e fr lo c0 s m args below meth c H1 locs1 u Q (F0 m (pc + 3) ls rest)) : kx_W p l e fr lo c0 s m args below meth c H locs σ Q (F0 m pc ls (.int l1 :: .ref l0 :: rest)) :=
  kx_cV (n := 1) (As := [.int l1]) (Cn := RX10) F C (hx_X10_openText l G l0 l1 σ P h) (kt_V hw ux_403 ux_404 ux_101 ux_402) (by decide +kernel) ⟨h1, h2⟩ (kx_recv C (by rw [ha]; decide) (kx_e12 ha) rfl) rfl hsz hW hdg (fun v u H1 locs1 hP9 C9 => by obtain ⟨hv, hp⟩ := hP9; subst hv; exact kk u H1 locs1 hp C9)
end
theorem dX10_isWord_0 : decode cX10_isWord 0 = .ok (.aload_n 0, 1) := by decide +kernel
theorem dX10_isWord_1 : decode cX10_isWord 1 = .ok (.getfield 39, 3) := by decide +kernel
theorem dX10_isWord_4 : decode cX10_isWord 4 = .ok (.iconst 1, 1) := by decide +kernel
theorem dX10_isWord_5 : decode cX10_isWord 5 = .ok (.if_icmp .ne 19, 3) := by decide +kernel
theorem dX10_isWord_8 : decode cX10_isWord 8 = .ok (.aload_n 0, 1) := by decide +kernel
theorem dX10_isWord_9 : decode cX10_isWord 9 = .ok (.getfield 19, 3) := by decide +kernel
theorem dX10_isWord_12 : decode cX10_isWord 12 = .ok (.aload_n 0, 1) := by decide +kernel
theorem dX10_isWord_13 : decode cX10_isWord 13 = .ok (.getfield 29, 3) := by decide +kernel
theorem dX10_isWord_16 : decode cX10_isWord 16 = .ok (.isub, 1) := by decide +kernel
theorem dX10_isWord_17 : decode cX10_isWord 17 = .ok (.aload_n 1, 1) := by decide +kernel
theorem dX10_isWord_18 : decode cX10_isWord 18 = .ok (.invokevirtual 47, 3) := by decide +kernel
theorem dX10_isWord_21 : decode cX10_isWord 21 = .ok (.if_icmp .eq 5, 3) := by decide +kernel
theorem dX10_isWord_24 : decode cX10_isWord 24 = .ok (.iconst 0, 1) := by decide +kernel
theorem dX10_isWord_25 : decode cX10_isWord 25 = .ok (.ireturn, 1) := by decide +kernel
theorem dX10_isWord_26 : decode cX10_isWord 26 = .ok (.iconst 0, 1) := by decide +kernel
theorem dX10_isWord_27 : decode cX10_isWord 27 = .ok (.istore_n 2, 1) := by decide +kernel
theorem dX10_isWord_28 : decode cX10_isWord 28 = .ok (.iload_n 2, 1) := by decide +kernel
theorem dX10_isWord_29 : decode cX10_isWord 29 = .ok (.aload_n 1, 1) := by decide +kernel
theorem dX10_isWord_30 : decode cX10_isWord 30 = .ok (.invokevirtual 47, 3) := by decide +kernel
theorem dX10_isWord_33 : decode cX10_isWord 33 = .ok (.if_icmp .ge 29, 3) := by decide +kernel
theorem dX10_isWord_36 : decode cX10_isWord 36 = .ok (.aload_n 0, 1) := by decide +kernel
theorem dX10_isWord_37 : decode cX10_isWord 37 = .ok (.aload_n 0, 1) := by decide +kernel
theorem dX10_isWord_38 : decode cX10_isWord 38 = .ok (.getfield 29, 3) := by decide +kernel
theorem dX10_isWord_41 : decode cX10_isWord 41 = .ok (.iload_n 2, 1) := by decide +kernel
theorem dX10_isWord_42 : decode cX10_isWord 42 = .ok (.iadd, 1) := by decide +kernel
theorem dX10_isWord_43 : decode cX10_isWord 43 = .ok (.invokevirtual 32, 3) := by decide +kernel
theorem dX10_isWord_46 : decode cX10_isWord 46 = .ok (.aload_n 1, 1) := by decide +kernel
theorem dX10_isWord_47 : decode cX10_isWord 47 = .ok (.iload_n 2, 1) := by decide +kernel
theorem dX10_isWord_48 : decode cX10_isWord 48 = .ok (.invokevirtual 52, 3) := by decide +kernel
theorem dX10_isWord_51 : decode cX10_isWord 51 = .ok (.if_icmp .eq 5, 3) := by decide +kernel
theorem dX10_isWord_54 : decode cX10_isWord 54 = .ok (.iconst 0, 1) := by decide +kernel
theorem dX10_isWord_55 : decode cX10_isWord 55 = .ok (.ireturn, 1) := by decide +kernel
theorem dX10_isWord_56 : decode cX10_isWord 56 = .ok (.iinc 2 1, 3) := by decide +kernel
theorem dX10_isWord_59 : decode cX10_isWord 59 = .ok (.goto (-31), 3) := by decide +kernel
theorem dX10_isWord_62 : decode cX10_isWord 62 = .ok (.iconst 1, 1) := by decide +kernel
theorem dX10_isWord_63 : decode cX10_isWord 63 = .ok (.ireturn, 1) := by decide +kernel
def wX10_isWord_28 (Q : Int32 → kx_S → Prop) : Nat → Nat → Nat → Int32 → kx_S → Prop
  | 0, _, _, _, _ => False
  | n + 1, l0, l1, l2, σ => l1 < 12 ∧ (((nI (ks_len.getD l1 0)) ≤ l2 → Q 1 σ) ∧
    (¬ ((nI (ks_len.getD l1 0)) ≤ l2) → xt σ l0 = 12 ∧ wX10_byteAt l0 ((xi σ 195 l0) + l2) σ (fun r5 σ4 => l1 < 12 ∧ vp_in l2 (ks_len.getD l1 0) ∧ ((r5 = ((ks_byt.getD l1 []).getD l2.toNatClampNeg 0) → ∀ v9 : Int32, v9 = l2 + 1 → wX10_isWord_28 Q n l0 l1 v9 σ4) ∧
      (¬ (r5 = ((ks_byt.getD l1 []).getD l2.toNatClampNeg 0)) → Q 0 σ4)))))
def wX10_isWord (l0 : Nat) (l1 : Nat) (σ : kx_S) (Q : Int32 → kx_S → Prop) : Prop := xt σ l0 = 12 ∧ ((¬ (xi σ 196 l0) = 1 → Q 0 σ) ∧
  ((xi σ 196 l0) = 1 → l1 < 12 ∧ ((((xi σ 194 l0) - (xi σ 195 l0)) = (nI (ks_len.getD l1 0)) → ∃ j, wX10_isWord_28 Q j l0 l1 0 σ) ∧
    (¬ (((xi σ 194 l0) - (xi σ 195 l0)) = (nI (ks_len.getD l1 0))) → Q 0 σ))))
set_option maxRecDepth 100000 in
set_option maxHeartbeats 4000000 in
theorem tX10_isWord_28 (l : Launch) (G : kx_G) (σ0 : kx_S) {p : Program} {e : Env} {s : State} {m : MethodId} {args : Array Value} {below : List Frame} {meth : Method} {c : Code} (F : CallFix p m c cX10_isWord 3 s args kt_ RX10) (hr : meth.sig.returnType = (some .boolean)) (hlocks : meth.locks = false) (Q : Int32 → kx_S → Prop) : ∀ (n : Nat) (l0 : Nat) (l1 : Nat) (l2 : Int32) (σ : kx_S) (H : Heap) (locs : List Loc) (ls : Array Slot), wX10_isWord_28 Q n l0 l1 l2 σ → kx_X G (xc σ0) s H locs σ → lv_has ls 3 [(0, .ref l0), (1, .ref (G.2.2.2.2.2.1 l1)), (2, .int l2)] → kx_W p l e (4) (85) (xc σ0) s m args below meth c H locs σ (MQ below (kx_Q G σ0 (kx_ri Q)) args s (kx_N - xc σ0) (600 * (kx_N - xc σ0)) (kx_A G)) (F0 m 28 ls []) := by
  intro n
  induction n with
  | zero => intro l0 l1 l2 σ H locs ls h; exact h.elim
  | succ n ih =>
    intro l0 l1 l2 σ H locs ls h C hl
    refine lv_iload_n F.1 F.2.1 dX10_isWord_28 rfl (lv_at hl 2 rfl) ?_
    refine lv_aload_n F.1 F.2.1 dX10_isWord_29 rfl (lv_at hl 1 rfl) ?_
    obtain ⟨hn1, h⟩ := h
    refine kx_slen F C hn1 (Nat.le_of_ble_eq_true rfl) (Nat.le_of_ble_eq_true rfl) hl.1 (by simp [Value.category]) ux_405 dX10_isWord_30 (fun H locs C => ?_)
    refine lv_icmp_ge (tgt := 62) F.1 F.2.1 dX10_isWord_33 (by decide) (fun c2 => ?_) (fun c2 => ?_)
    · replace h := h.1 c2
      refine lv_iconst (v := 1) F.1 F.2.1 dX10_isWord_62 (by decide) ?_
      exact kx_zret F C hr hlocks rfl h dX10_isWord_63
    · replace h := h.2 c2
      refine lv_aload_n F.1 F.2.1 dX10_isWord_36 rfl (lv_at hl 0 rfl) ?_
      refine lv_aload_n F.1 F.2.1 dX10_isWord_37 rfl (lv_at hl 0 rfl) ?_
      obtain ⟨ht3, h⟩ := h
      refine xg_X10_start F C ht3 ux_393 (fun _ h9 => h9) dX10_isWord_38 ?_
      refine lv_iload_n F.1 F.2.1 dX10_isWord_41 rfl (lv_at hl 2 rfl) ?_
      refine lv_iadd (x := xi σ 195 l0) (y := l2) F.1 F.2.1 dX10_isWord_42 ?_
      refine xk_X10_byteAt F C l0 ((xi σ 195 l0) + l2) ht3 h ux_388 (Nat.le_of_ble_eq_true rfl) (Nat.le_of_ble_eq_true rfl) hl.1 (by simp [Value.category]) dX10_isWord_43 (fun r5 σ4 H locs h C => ?_)
      refine lv_aload_n F.1 F.2.1 dX10_isWord_46 rfl (lv_at hl 1 rfl) ?_
      refine lv_iload_n F.1 F.2.1 dX10_isWord_47 rfl (lv_at hl 2 rfl) ?_
      obtain ⟨hn6, hn7, h⟩ := h
      refine kx_schar F C hn6 hn7 (Nat.le_of_ble_eq_true rfl) (Nat.le_of_ble_eq_true rfl) hl.1 (by simp [Value.category]) ux_406 dX10_isWord_48 (fun H locs C => ?_)
      refine lv_icmp_eq (tgt := 56) F.1 F.2.1 dX10_isWord_51 (by decide) (fun c8 => ?_) (fun c8 => ?_)
      · replace h := h.1 c8
        obtain ⟨v9, ev9⟩ : ∃ z9 : Int32, z9 = l2 + 1 := ⟨_, rfl⟩
        replace h := h v9 ev9
        refine lv_iinc (v := v9) (lv' := [(2, .int v9), (0, .ref l0), (1, .ref (G.2.2.2.2.2.1 l1))]) F.1 F.2.1 dX10_isWord_56 hl (k := 2) rfl (by rw [ev9]; rfl) (by decide) rfl (fun ls hl => ?_)
        refine lv_goto (tgt := 28) F.1 F.2.1 dX10_isWord_59 (by decide) ?_
        exact ih l0 l1 v9 σ4 H locs ls h C (lv_sub hl [1, 2, 0] rfl)
      · replace h := h.2 c8
        refine lv_iconst (v := 0) F.1 F.2.1 dX10_isWord_54 (by decide) ?_
        exact kx_zret F C hr hlocks rfl h dX10_isWord_55
set_option maxRecDepth 100000 in
set_option maxHeartbeats 4000000 in
theorem hx_X10_isWord (l : Launch) (G : kx_G) (l0 : Nat) (l1 : Nat) (σ : kx_S) (Q : Int32 → kx_S → Prop) (h : wX10_isWord l0 l1 σ Q) : kx_M l G yX10_isWord cX10_isWord 3 (some .boolean) (4) (85) [.ref l0, .ref (G.2.2.2.2.2.1 l1)] σ (kx_ri Q) := by
  refine kx_enter (by decide) rfl (Nat.le_of_ble_eq_true rfl) ?_
  intro p e s m below meth c ls F hr hlocks C hname hl
  have hl : lv_has ls 3 [(0, .ref l0), (1, .ref (G.2.2.2.2.2.1 l1))] := hl
  obtain ⟨H, eH⟩ : ∃ z9, z9 = s.heap := ⟨_, rfl⟩
  obtain ⟨locs, eL⟩ : ∃ z9 : List Loc, z9 = [] := ⟨_, rfl⟩
  rw [← eH, ← eL] at C
  rw [← eH, ← eL]
  obtain ⟨σ0, e0⟩ : ∃ z9, z9 = σ := ⟨_, rfl⟩
  have C : kx_X G (xc σ0) s H locs σ := by rw [e0]; exact C
  suffices hgo : kx_W p l e (4) (85) (xc σ0) s m ([.ref l0, .ref (G.2.2.2.2.2.1 l1)] : List Value).toArray below meth c H locs σ (MQ below (kx_Q G σ0 (kx_ri Q)) ([.ref l0, .ref (G.2.2.2.2.2.1 l1)] : List Value).toArray s (kx_N - xc σ0) (600 * (kx_N - xc σ0)) (kx_A G)) (F0 m 0 ls []) by rw [e0] at hgo; exact hgo
  clear e0
  refine lv_aload_n F.1 F.2.1 dX10_isWord_0 rfl (lv_at hl 0 rfl) ?_
  obtain ⟨ht10, h⟩ := h
  refine xg_X10_kind F C ht10 ux_394 (fun _ h9 => h9) dX10_isWord_1 ?_
  refine lv_iconst (v := 1) F.1 F.2.1 dX10_isWord_4 (by decide) ?_
  refine lv_icmp_ne (tgt := 24) F.1 F.2.1 dX10_isWord_5 (by decide) (fun c11 => ?_) (fun c11 => ?_)
  · replace h := h.1 c11
    refine lv_iconst (v := 0) F.1 F.2.1 dX10_isWord_24 (by decide) ?_
    exact kx_zret F C hr hlocks rfl h dX10_isWord_25
  · replace h := h.2 c11
    refine lv_aload_n F.1 F.2.1 dX10_isWord_8 rfl (lv_at hl 0 rfl) ?_
    refine xg_X10_end F C ht10 ux_396 (fun _ h9 => h9) dX10_isWord_9 ?_
    refine lv_aload_n F.1 F.2.1 dX10_isWord_12 rfl (lv_at hl 0 rfl) ?_
    refine xg_X10_start F C ht10 ux_393 (fun _ h9 => h9) dX10_isWord_13 ?_
    refine lv_isub (x := xi σ 194 l0) (y := xi σ 195 l0) F.1 F.2.1 dX10_isWord_16 ?_
    refine lv_aload_n F.1 F.2.1 dX10_isWord_17 rfl (lv_at hl 1 rfl) ?_
    obtain ⟨hn12, h⟩ := h
    refine kx_slen F C hn12 (Nat.le_of_ble_eq_true rfl) (Nat.le_of_ble_eq_true rfl) hl.1 (by simp [Value.category]) ux_405 dX10_isWord_18 (fun H locs C => ?_)
    refine lv_icmp_eq (tgt := 26) F.1 F.2.1 dX10_isWord_21 (by decide) (fun c13 => ?_) (fun c13 => ?_)
    · replace h := h.1 c13
      refine lv_iconst (v := 0) F.1 F.2.1 dX10_isWord_26 (by decide) ?_
      refine lv_istore_n (lv' := [(2, .int 0), (0, .ref l0), (1, .ref (G.2.2.2.2.2.1 l1))]) F.1 F.2.1 dX10_isWord_27 rfl hl (by decide) rfl (fun ls hl => ?_)
      obtain ⟨n14, h⟩ := h
      exact tX10_isWord_28 l G σ0 F hr hlocks Q n14 l0 l1 0 σ H locs ls h C (lv_sub hl [1, 2, 0] rfl)
    · replace h := h.2 c13
      refine lv_iconst (v := 0) F.1 F.2.1 dX10_isWord_24 (by decide) ?_
      exact kx_zret F C hr hlocks rfl h dX10_isWord_25
section
variable {p : Program} {l : Launch} {e : Env} {fr lo c0 : Nat} {s : State} {m : MethodId} {args : Array Value} {below : List Frame} {meth : Method} {c : Code} {H : Heap} {locs : List Loc} {Q : State → Prop}
variable {cc : ByteArray} {pc nL index : Nat} {ls : Array Slot} {rest : List Value} {G : kx_G} {σ : kx_S} {own : String}
theorem xk_X10_isWord {P : Int32 → kx_S → Prop} (F : CallFix p m c cc nL s args kt_ own) (C : kx_X G c0 s H locs σ) (l0 : Nat) (l1 : Nat) (ha : xt σ l0 = 12) (h : wX10_isWord l0 l1 σ P) (hw : Cond.methodLink own index yX10_isWord ∈ kt_) (h1 : (4) + 1 ≤ fr) (h2 : 8 + (3 + 11) + (85) ≤ lo) (hsz : ls.size = nL) (hW : (rest.map fun v => v.category).sum ≤ 8) (hdg : decode cc pc = .ok (.invokevirtual index, 3)) (kk : ∀ (r : Int32) (u : kx_S) (H1 : Heap) (locs1 : List Loc), P r u → kx_X G c0 s H1 locs1 u → kx_W p l e fr lo c0 s m args below meth c H1 locs1 u Q (F0 m (pc + 3) ls (.int r :: rest))) : kx_W p l e fr lo c0 s m args below meth c H locs σ Q (F0 m pc ls (.ref (G.2.2.2.2.2.1 l1) :: .ref l0 :: rest)) :=
  kx_cV (n := 1) (As := [.ref (G.2.2.2.2.2.1 l1)]) (Cn := RX10) F C (hx_X10_isWord l G l0 l1 σ P h) (kt_V hw ux_408 ux_409 ux_101 ux_407) (by decide +kernel) ⟨h1, h2⟩ (kx_recv C (by rw [ha]; decide) (kx_e12 ha) rfl) rfl hsz hW hdg (fun v u H1 locs1 hP9 C9 => by obtain ⟨r, hv, hp⟩ := hP9; subst hv; exact kk r u H1 locs1 hp C9)
end
theorem dX10_numberValue_0 : decode cX10_numberValue 0 = .ok (.iconst 0, 1) := by decide +kernel
theorem dX10_numberValue_1 : decode cX10_numberValue 1 = .ok (.istore_n 1, 1) := by decide +kernel
theorem dX10_numberValue_2 : decode cX10_numberValue 2 = .ok (.aload_n 0, 1) := by decide +kernel
theorem dX10_numberValue_3 : decode cX10_numberValue 3 = .ok (.getfield 29, 3) := by decide +kernel
theorem dX10_numberValue_6 : decode cX10_numberValue 6 = .ok (.istore_n 2, 1) := by decide +kernel
theorem dX10_numberValue_7 : decode cX10_numberValue 7 = .ok (.iload_n 2, 1) := by decide +kernel
theorem dX10_numberValue_8 : decode cX10_numberValue 8 = .ok (.aload_n 0, 1) := by decide +kernel
theorem dX10_numberValue_9 : decode cX10_numberValue 9 = .ok (.getfield 19, 3) := by decide +kernel
theorem dX10_numberValue_12 : decode cX10_numberValue 12 = .ok (.if_icmp .ge 23, 3) := by decide +kernel
theorem dX10_numberValue_15 : decode cX10_numberValue 15 = .ok (.iload_n 1, 1) := by decide +kernel
theorem dX10_numberValue_16 : decode cX10_numberValue 16 = .ok (.bipush 10, 2) := by decide +kernel
theorem dX10_numberValue_18 : decode cX10_numberValue 18 = .ok (.imul, 1) := by decide +kernel
theorem dX10_numberValue_19 : decode cX10_numberValue 19 = .ok (.aload_n 0, 1) := by decide +kernel
theorem dX10_numberValue_20 : decode cX10_numberValue 20 = .ok (.iload_n 2, 1) := by decide +kernel
theorem dX10_numberValue_21 : decode cX10_numberValue 21 = .ok (.invokevirtual 32, 3) := by decide +kernel
theorem dX10_numberValue_24 : decode cX10_numberValue 24 = .ok (.iadd, 1) := by decide +kernel
theorem dX10_numberValue_25 : decode cX10_numberValue 25 = .ok (.bipush 48, 2) := by decide +kernel
theorem dX10_numberValue_27 : decode cX10_numberValue 27 = .ok (.isub, 1) := by decide +kernel
theorem dX10_numberValue_28 : decode cX10_numberValue 28 = .ok (.istore_n 1, 1) := by decide +kernel
theorem dX10_numberValue_29 : decode cX10_numberValue 29 = .ok (.iinc 2 1, 3) := by decide +kernel
theorem dX10_numberValue_32 : decode cX10_numberValue 32 = .ok (.goto (-25), 3) := by decide +kernel
theorem dX10_numberValue_35 : decode cX10_numberValue 35 = .ok (.iload_n 1, 1) := by decide +kernel
theorem dX10_numberValue_36 : decode cX10_numberValue 36 = .ok (.ireturn, 1) := by decide +kernel
def wX10_numberValue_7 (Q : Int32 → kx_S → Prop) : Nat → Nat → Int32 → Int32 → kx_S → Prop
  | 0, _, _, _, _ => False
  | n + 1, l0, l1, l2, σ => xt σ l0 = 12 ∧ (((xi σ 194 l0) ≤ l2 → Q l1 σ) ∧
    (¬ ((xi σ 194 l0) ≤ l2) → wX10_byteAt l0 l2 σ (fun r4 σ3 => ∀ v5, v5 = ((l1 * 10) + r4) - 48 → ∀ v6 : Int32, v6 = l2 + 1 → wX10_numberValue_7 Q n l0 v5 v6 σ3)))
def wX10_numberValue (l0 : Nat) (σ : kx_S) (Q : Int32 → kx_S → Prop) : Prop := xt σ l0 = 12 ∧ ∀ v8, v8 = xi σ 195 l0 → ∃ j, wX10_numberValue_7 Q j l0 0 v8 σ
set_option maxRecDepth 100000 in
set_option maxHeartbeats 4000000 in
theorem tX10_numberValue_7 (l : Launch) (G : kx_G) (σ0 : kx_S) {p : Program} {e : Env} {s : State} {m : MethodId} {args : Array Value} {below : List Frame} {meth : Method} {c : Code} (F : CallFix p m c cX10_numberValue 3 s args kt_ RX10) (hr : meth.sig.returnType = (some .int)) (hlocks : meth.locks = false) (Q : Int32 → kx_S → Prop) : ∀ (n : Nat) (l0 : Nat) (l1 : Int32) (l2 : Int32) (σ : kx_S) (H : Heap) (locs : List Loc) (ls : Array Slot), wX10_numberValue_7 Q n l0 l1 l2 σ → kx_X G (xc σ0) s H locs σ → lv_has ls 3 [(0, .ref l0), (1, .int l1), (2, .int l2)] → kx_W p l e (1) (21) (xc σ0) s m args below meth c H locs σ (MQ below (kx_Q G σ0 (kx_ri Q)) args s (kx_N - xc σ0) (600 * (kx_N - xc σ0)) (kx_A G)) (F0 m 7 ls []) := by
  intro n
  induction n with
  | zero => intro l0 l1 l2 σ H locs ls h; exact h.elim
  | succ n ih =>
    intro l0 l1 l2 σ H locs ls h C hl
    refine lv_iload_n F.1 F.2.1 dX10_numberValue_7 rfl (lv_at hl 2 rfl) ?_
    refine lv_aload_n F.1 F.2.1 dX10_numberValue_8 rfl (lv_at hl 0 rfl) ?_
    obtain ⟨ht1, h⟩ := h
    refine xg_X10_end F C ht1 ux_396 (fun _ h9 => h9) dX10_numberValue_9 ?_
    refine lv_icmp_ge (tgt := 35) F.1 F.2.1 dX10_numberValue_12 (by decide) (fun c2 => ?_) (fun c2 => ?_)
    · replace h := h.1 c2
      refine lv_iload_n F.1 F.2.1 dX10_numberValue_35 rfl (lv_at hl 1 rfl) ?_
      exact kx_iret F C hr hlocks h dX10_numberValue_36
    · replace h := h.2 c2
      refine lv_iload_n F.1 F.2.1 dX10_numberValue_15 rfl (lv_at hl 1 rfl) ?_
      refine lv_bipush (v := 10) F.1 F.2.1 dX10_numberValue_16 (by decide) ?_
      refine lv_imul (x := l1) (y := 10) F.1 F.2.1 dX10_numberValue_18 ?_
      refine lv_aload_n F.1 F.2.1 dX10_numberValue_19 rfl (lv_at hl 0 rfl) ?_
      refine lv_iload_n F.1 F.2.1 dX10_numberValue_20 rfl (lv_at hl 2 rfl) ?_
      refine xk_X10_byteAt F C l0 l2 ht1 h ux_388 (Nat.le_of_ble_eq_true rfl) (Nat.le_of_ble_eq_true rfl) hl.1 (by simp [Value.category]) dX10_numberValue_21 (fun r4 σ3 H locs h C => ?_)
      refine lv_iadd (x := l1 * 10) (y := r4) F.1 F.2.1 dX10_numberValue_24 ?_
      refine lv_bipush (v := 48) F.1 F.2.1 dX10_numberValue_25 (by decide) ?_
      refine lv_isub (x := (l1 * 10) + r4) (y := 48) F.1 F.2.1 dX10_numberValue_27 ?_
      refine lv_topi (fun v5 ev5 => ?_)
      replace h := h v5 ev5
      refine lv_istore_n (lv' := [(1, .int v5), (0, .ref l0), (2, .int l2)]) F.1 F.2.1 dX10_numberValue_28 rfl hl (by decide) rfl (fun ls hl => ?_)
      obtain ⟨v6, ev6⟩ : ∃ z9 : Int32, z9 = l2 + 1 := ⟨_, rfl⟩
      replace h := h v6 ev6
      refine lv_iinc (v := v6) (lv' := [(2, .int v6), (1, .int v5), (0, .ref l0)]) F.1 F.2.1 dX10_numberValue_29 hl (k := 2) rfl (by rw [ev6]; rfl) (by decide) rfl (fun ls hl => ?_)
      refine lv_goto (tgt := 7) F.1 F.2.1 dX10_numberValue_32 (by decide) ?_
      exact ih l0 v5 v6 σ3 H locs ls h C (lv_sub hl [2, 1, 0] rfl)
set_option maxRecDepth 100000 in
set_option maxHeartbeats 4000000 in
theorem hx_X10_numberValue (l : Launch) (G : kx_G) (l0 : Nat) (σ : kx_S) (Q : Int32 → kx_S → Prop) (h : wX10_numberValue l0 σ Q) : kx_M l G yX10_numberValue cX10_numberValue 3 (some .int) (1) (21) [.ref l0] σ (kx_ri Q) := by
  refine kx_enter (by decide) rfl (Nat.le_of_ble_eq_true rfl) ?_
  intro p e s m below meth c ls F hr hlocks C hname hl
  have hl : lv_has ls 3 [(0, .ref l0)] := hl
  obtain ⟨H, eH⟩ : ∃ z9, z9 = s.heap := ⟨_, rfl⟩
  obtain ⟨locs, eL⟩ : ∃ z9 : List Loc, z9 = [] := ⟨_, rfl⟩
  rw [← eH, ← eL] at C
  rw [← eH, ← eL]
  obtain ⟨σ0, e0⟩ : ∃ z9, z9 = σ := ⟨_, rfl⟩
  have C : kx_X G (xc σ0) s H locs σ := by rw [e0]; exact C
  suffices hgo : kx_W p l e (1) (21) (xc σ0) s m ([.ref l0] : List Value).toArray below meth c H locs σ (MQ below (kx_Q G σ0 (kx_ri Q)) ([.ref l0] : List Value).toArray s (kx_N - xc σ0) (600 * (kx_N - xc σ0)) (kx_A G)) (F0 m 0 ls []) by rw [e0] at hgo; exact hgo
  clear e0
  refine lv_iconst (v := 0) F.1 F.2.1 dX10_numberValue_0 (by decide) ?_
  refine lv_istore_n (lv' := [(1, .int 0), (0, .ref l0)]) F.1 F.2.1 dX10_numberValue_1 rfl hl (by decide) rfl (fun ls hl => ?_)
  refine lv_aload_n F.1 F.2.1 dX10_numberValue_2 rfl (lv_at hl 1 rfl) ?_
  obtain ⟨ht7, h⟩ := h
  refine xg_X10_start F C ht7 ux_393 (fun _ h9 => h9) dX10_numberValue_3 ?_
  refine lv_topi (fun v8 ev8 => ?_)
  replace h := h v8 ev8
  refine lv_istore_n (lv' := [(2, .int v8), (1, .int 0), (0, .ref l0)]) F.1 F.2.1 dX10_numberValue_6 rfl hl (by decide) rfl (fun ls hl => ?_)
  obtain ⟨n9, h⟩ := h
  exact tX10_numberValue_7 l G σ0 F hr hlocks Q n9 l0 0 v8 σ H locs ls h C (lv_sub hl [2, 1, 0] rfl)
section
variable {p : Program} {l : Launch} {e : Env} {fr lo c0 : Nat} {s : State} {m : MethodId} {args : Array Value} {below : List Frame} {meth : Method} {c : Code} {H : Heap} {locs : List Loc} {Q : State → Prop}
variable {cc : ByteArray} {pc nL index : Nat} {ls : Array Slot} {rest : List Value} {G : kx_G} {σ : kx_S} {own : String}
theorem xk_X10_numberValue {P : Int32 → kx_S → Prop} (F : CallFix p m c cc nL s args kt_ own) (C : kx_X G c0 s H locs σ) (l0 : Nat) (ha : xt σ l0 = 12) (h : wX10_numberValue l0 σ P) (hw : Cond.methodLink own index yX10_numberValue ∈ kt_) (h1 : (1) + 1 ≤ fr) (h2 : 8 + (3 + 11) + (21) ≤ lo) (hsz : ls.size = nL) (hW : (rest.map fun v => v.category).sum ≤ 8) (hdg : decode cc pc = .ok (.invokevirtual index, 3)) (kk : ∀ (r : Int32) (u : kx_S) (H1 : Heap) (locs1 : List Loc), P r u → kx_X G c0 s H1 locs1 u → kx_W p l e fr lo c0 s m args below meth c H1 locs1 u Q (F0 m (pc + 3) ls (.int r :: rest))) : kx_W p l e fr lo c0 s m args below meth c H locs σ Q (F0 m pc ls (.ref l0 :: rest)) :=
  kx_cV (n := 0) (As := []) (Cn := RX10) F C (hx_X10_numberValue l G l0 σ P h) (kt_V hw ux_411 ux_412 ux_101 ux_410) (by decide +kernel) ⟨h1, h2⟩ (kx_recv C (by rw [ha]; decide) (kx_e12 ha) rfl) rfl hsz hW hdg (fun v u H1 locs1 hP9 C9 => by obtain ⟨r, hv, hp⟩ := hP9; subst hv; exact kk r u H1 locs1 hp C9)
end
theorem dX5_init_0 : decode cX5_init 0 = .ok (.aload_n 0, 1) := by decide +kernel
theorem dX5_init_1 : decode cX5_init 1 = .ok (.invokespecial 3, 3) := by decide +kernel
theorem dX5_init_4 : decode cX5_init 4 = .ok (.aload_n 0, 1) := by decide +kernel
theorem dX5_init_5 : decode cX5_init 5 = .ok (.new 9, 3) := by decide +kernel
theorem dX5_init_8 : decode cX5_init 8 = .ok (.dup, 1) := by decide +kernel
theorem dX5_init_9 : decode cX5_init 9 = .ok (.aload_n 1, 1) := by decide +kernel
theorem dX5_init_10 : decode cX5_init 10 = .ok (.invokespecial 11, 3) := by decide +kernel
theorem dX5_init_13 : decode cX5_init 13 = .ok (.putfield 14, 3) := by decide +kernel
theorem dX5_init_16 : decode cX5_init 16 = .ok (.aload_n 0, 1) := by decide +kernel
theorem dX5_init_17 : decode cX5_init 17 = .ok (.sipush 500, 3) := by decide +kernel
theorem dX5_init_20 : decode cX5_init 20 = .ok (.newarray .int, 2) := by decide +kernel
theorem dX5_init_22 : decode cX5_init 22 = .ok (.putfield 22, 3) := by decide +kernel
theorem dX5_init_25 : decode cX5_init 25 = .ok (.return_, 1) := by decide +kernel
def wX5_init (l0 : Nat) (l1 : Nat) (σ : kx_S) (Q : kx_S → Prop) : Prop := xc σ < kx_N ∧ ∀ p2, xt σ p2 = 0 → p2 ≠ xz σ → ∀ σ5, σ5 = xnew σ p2 12 → wX10_init p2 l1 σ5 (fun σ7 => xt σ7 l0 = 7 ∧ ∀ σ9, σ9 = xsr σ7 112 l0 (some p2) → xc σ9 < kx_N ∧ ¬ (500 : Int32) < 0 ∧ (Int32.toNatClampNeg 500) ≤ 600 ∧ ∀ p11, xt σ9 p11 = 0 → p11 ≠ xz σ9 → ∀ σ17, σ17 = xnewA σ9 p11 20 (Int32.toNatClampNeg 500) → xt σ17 l0 = 7 ∧ ∀ σ20, σ20 = xsr σ17 113 l0 (some p11) → Q σ20)
set_option maxRecDepth 100000 in
set_option maxHeartbeats 4000000 in
theorem hx_X5_init (l : Launch) (G : kx_G) (l0 : Nat) (l1 : Nat) (σ : kx_S) (Q : kx_S → Prop) (h : wX5_init l0 l1 σ Q) : kx_M l G yX5_init cX5_init 2 none (2) (33) [.ref l0, .ref l1] σ (kx_rv Q) := by
  refine kx_enter (by decide) rfl (Nat.le_of_ble_eq_true rfl) ?_
  intro p e s m below meth c ls F hr hlocks C hname hl
  have hini : meth.name = "<init>" := hname
  have hl : lv_has ls 2 [(0, .ref l0), (1, .ref l1)] := hl
  obtain ⟨H, eH⟩ : ∃ z9, z9 = s.heap := ⟨_, rfl⟩
  obtain ⟨locs, eL⟩ : ∃ z9 : List Loc, z9 = [] := ⟨_, rfl⟩
  rw [← eH, ← eL] at C
  rw [← eH, ← eL]
  obtain ⟨σ0, e0⟩ : ∃ z9, z9 = σ := ⟨_, rfl⟩
  have C : kx_X G (xc σ0) s H locs σ := by rw [e0]; exact C
  suffices hgo : kx_W p l e (2) (33) (xc σ0) s m ([.ref l0, .ref l1] : List Value).toArray below meth c H locs σ (MQ below (kx_Q G σ0 (kx_rv Q)) ([.ref l0, .ref l1] : List Value).toArray s (kx_N - xc σ0) (600 * (kx_N - xc σ0)) (kx_A G)) (F0 m 0 ls []) by rw [e0] at hgo; exact hgo
  clear e0
  refine lv_aload_n F.1 F.2.1 dX5_init_0 rfl (lv_at hl 0 rfl) ?_
  refine kx_objI F ux_413 hl.1 (Nat.le_of_ble_eq_true rfl) (by simp [Value.category]) dX5_init_1 ?_
  refine lv_aload_n F.1 F.2.1 dX5_init_4 rfl (lv_at hl 0 rfl) ?_
  obtain ⟨hn1, h⟩ := h
  refine xw_X10 F C hn1 ux_414 dX5_init_5 (fun p2 H z3 z4 C => ?_)
  replace h := h p2 z3 (fun h9 => z4 (h9.trans (show xz σ = _ from C.2.1.1)))
  generalize eσ5 : xnew σ p2 12 = σ5 at C ⊢
  replace h := h σ5 eσ5.symm
  have ht6 : xt σ5 p2 = 12 := by rw [← eσ5]; exact va_up_self _ _ _
  refine lv_dup F.1 F.2.1 dX5_init_8 rfl ?_
  refine lv_aload_n F.1 F.2.1 dX5_init_9 rfl (lv_at hl 1 rfl) ?_
  refine xk_X10_init F C p2 l1 h ux_415 (Nat.le_of_ble_eq_true rfl) (Nat.le_of_ble_eq_true rfl) hl.1 (by simp [Value.category]) dX5_init_10 (fun σ7 H locs h C => ?_)
  obtain ⟨ht8, h⟩ := h
  refine xp_X5_tokens (x := some p2) F C ht8 ux_416 (fun _ h9 => h9) hini rfl dX5_init_13 (fun H locs C => ?_)
  generalize eσ9 : xsr σ7 112 l0 (some p2) = σ9 at C ⊢
  replace h := h σ9 eσ9.symm
  have ht10 : xt σ9 l0 = 7 := by rw [← eσ9]; exact ht8
  refine lv_aload_n F.1 F.2.1 dX5_init_16 rfl (lv_at hl 0 rfl) ?_
  refine lv_sipush (v := 500) F.1 F.2.1 dX5_init_17 (by decide) ?_
  obtain ⟨hn12, hn13, hn14, h⟩ := h
  refine kx_newi F C ux_201 hn12 hn13 hn14 dX5_init_20 (fun p11 H z15 z16 C => ?_)
  replace h := h p11 z15 (fun h9 => z16 (h9.trans (show xz σ9 = _ from C.2.1.1)))
  generalize eσ17 : xnewA σ9 p11 20 (Int32.toNatClampNeg 500) = σ17 at C ⊢
  replace h := h σ17 eσ17.symm
  have ht18 : xt σ17 p11 = 20 := by rw [← eσ17]; exact va_up_self _ _ _
  obtain ⟨ht19, h⟩ := h
  refine xp_X5_code (x := some p11) F C ht19 ux_417 (fun _ h9 => h9) hini rfl dX5_init_22 (fun H locs C => ?_)
  generalize eσ20 : xsr σ17 113 l0 (some p11) = σ20 at C ⊢
  replace h := h σ20 eσ20.symm
  have ht21 : xt σ20 p11 = 20 := by rw [← eσ20]; exact ht18
  have ht22 : xt σ20 l0 = 7 := by rw [← eσ20]; exact ht19
  exact kx_vret F C hr hlocks h dX5_init_25
section
variable {p : Program} {l : Launch} {e : Env} {fr lo c0 : Nat} {s : State} {m : MethodId} {args : Array Value} {below : List Frame} {meth : Method} {c : Code} {H : Heap} {locs : List Loc} {Q : State → Prop}
variable {cc : ByteArray} {pc nL index : Nat} {ls : Array Slot} {rest : List Value} {G : kx_G} {σ : kx_S} {own : String}
theorem xk_X5_init {P : kx_S → Prop} (F : CallFix p m c cc nL s args kt_ own) (C : kx_X G c0 s H locs σ) (l0 : Nat) (l1 : Nat) (h : wX5_init l0 l1 σ P) (hw : Cond.methodLink own index yX5_init ∈ kt_) (h1 : (2) + 1 ≤ fr) (h2 : 8 + (2 + 11) + (33) ≤ lo) (hsz : ls.size = nL) (hW : (rest.map fun v => v.category).sum ≤ 8) (hdg : decode cc pc = .ok (.invokespecial index, 3)) (kk : ∀ (u : kx_S) (H1 : Heap) (locs1 : List Loc), P u → kx_X G c0 s H1 locs1 u → kx_W p l e fr lo c0 s m args below meth c H1 locs1 u Q (F0 m (pc + 3) ls rest)) : kx_W p l e fr lo c0 s m args below meth c H locs σ Q (F0 m pc ls (.ref l1 :: .ref l0 :: rest)) :=
  kx_cI (n := 1) (As := [.ref l1]) F C (hx_X5_init l G l0 l1 σ P h) ux_418 ux_59 hw ux_419 rfl (by decide +kernel) ⟨h1, h2⟩ rfl hsz hW hdg (fun v u H1 locs1 hP9 C9 => by obtain ⟨hv, hp⟩ := hP9; subst hv; exact kk u H1 locs1 hp C9)
end
theorem dX5_put_0 : decode cX5_put 0 = .ok (.aload_n 0, 1) := by decide +kernel
theorem dX5_put_1 : decode cX5_put 1 = .ok (.getfield 26, 3) := by decide +kernel
theorem dX5_put_4 : decode cX5_put 4 = .ok (.aload_n 0, 1) := by decide +kernel
theorem dX5_put_5 : decode cX5_put 5 = .ok (.getfield 22, 3) := by decide +kernel
theorem dX5_put_8 : decode cX5_put 8 = .ok (.arraylength, 1) := by decide +kernel
theorem dX5_put_9 : decode cX5_put 9 = .ok (.if_icmp .ge 23, 3) := by decide +kernel
theorem dX5_put_12 : decode cX5_put 12 = .ok (.aload_n 0, 1) := by decide +kernel
theorem dX5_put_13 : decode cX5_put 13 = .ok (.getfield 22, 3) := by decide +kernel
theorem dX5_put_16 : decode cX5_put 16 = .ok (.aload_n 0, 1) := by decide +kernel
theorem dX5_put_17 : decode cX5_put 17 = .ok (.getfield 26, 3) := by decide +kernel
theorem dX5_put_20 : decode cX5_put 20 = .ok (.iload_n 1, 1) := by decide +kernel
theorem dX5_put_21 : decode cX5_put 21 = .ok (.iastore, 1) := by decide +kernel
theorem dX5_put_22 : decode cX5_put 22 = .ok (.aload_n 0, 1) := by decide +kernel
theorem dX5_put_23 : decode cX5_put 23 = .ok (.dup, 1) := by decide +kernel
theorem dX5_put_24 : decode cX5_put 24 = .ok (.getfield 26, 3) := by decide +kernel
theorem dX5_put_27 : decode cX5_put 27 = .ok (.iconst 1, 1) := by decide +kernel
theorem dX5_put_28 : decode cX5_put 28 = .ok (.iadd, 1) := by decide +kernel
theorem dX5_put_29 : decode cX5_put 29 = .ok (.putfield 26, 3) := by decide +kernel
theorem dX5_put_32 : decode cX5_put 32 = .ok (.return_, 1) := by decide +kernel
def wX5_put (l0 : Nat) (l1 : Int32) (σ : kx_S) (Q : kx_S → Prop) : Prop := xt σ l0 = 7 ∧ ∃ a2, xr σ 113 l0 = some a2 ∧ xt σ a2 = 20 ∧ (((nI (xn σ a2)) ≤ (xi σ 114 l0) → Q σ) ∧
  (¬ ((nI (xn σ a2)) ≤ (xi σ 114 l0)) → ∃ a6, xr σ 113 l0 = some a6 ∧ xt σ a6 = 20 ∧ vp_in (xi σ 114 l0) (xn σ a6) ∧ ∀ σ10, σ10 = xsai σ a6 (xi σ 114 l0).toNatClampNeg l1 → ∀ σ14, σ14 = xsi σ10 114 l0 ((xi σ10 114 l0) + 1) → Q σ14))
set_option maxRecDepth 100000 in
set_option maxHeartbeats 4000000 in
theorem hx_X5_put (l : Launch) (G : kx_G) (l0 : Nat) (l1 : Int32) (σ : kx_S) (Q : kx_S → Prop) (h : wX5_put l0 l1 σ Q) : kx_M l G yX5_put cX5_put 2 none (0) (0) [.ref l0, .int l1] σ (kx_rv Q) := by
  refine kx_enter (by decide) rfl (Nat.le_of_ble_eq_true rfl) ?_
  intro p e s m below meth c ls F hr hlocks C hname hl
  have hl : lv_has ls 2 [(0, .ref l0), (1, .int l1)] := hl
  obtain ⟨H, eH⟩ : ∃ z9, z9 = s.heap := ⟨_, rfl⟩
  obtain ⟨locs, eL⟩ : ∃ z9 : List Loc, z9 = [] := ⟨_, rfl⟩
  rw [← eH, ← eL] at C
  rw [← eH, ← eL]
  obtain ⟨σ0, e0⟩ : ∃ z9, z9 = σ := ⟨_, rfl⟩
  have C : kx_X G (xc σ0) s H locs σ := by rw [e0]; exact C
  suffices hgo : kx_W p l e (0) (0) (xc σ0) s m ([.ref l0, .int l1] : List Value).toArray below meth c H locs σ (MQ below (kx_Q G σ0 (kx_rv Q)) ([.ref l0, .int l1] : List Value).toArray s (kx_N - xc σ0) (600 * (kx_N - xc σ0)) (kx_A G)) (F0 m 0 ls []) by rw [e0] at hgo; exact hgo
  clear e0
  refine lv_aload_n F.1 F.2.1 dX5_put_0 rfl (lv_at hl 0 rfl) ?_
  obtain ⟨ht1, h⟩ := h
  refine xg_X5_codeLength F C ht1 ux_420 (fun _ h9 => h9) dX5_put_1 ?_
  refine lv_aload_n F.1 F.2.1 dX5_put_4 rfl (lv_at hl 0 rfl) ?_
  refine xg_X5_code F C ht1 ux_417 (fun _ h9 => h9) dX5_put_5 ?_
  obtain ⟨a2, ea3, h⟩ := h
  refine xq_nn ea3 ?_
  obtain ⟨ht4, h⟩ := h
  refine kx_alen F C (Or.inl ht4) dX5_put_8 ?_
  refine lv_icmp_ge (tgt := 32) F.1 F.2.1 dX5_put_9 (by decide) (fun c5 => ?_) (fun c5 => ?_)
  · replace h := h.1 c5
    exact kx_vret F C hr hlocks h dX5_put_32
  · replace h := h.2 c5
    refine lv_aload_n F.1 F.2.1 dX5_put_12 rfl (lv_at hl 0 rfl) ?_
    refine xg_X5_code F C ht1 ux_417 (fun _ h9 => h9) dX5_put_13 ?_
    obtain ⟨a6, ea7, h⟩ := h
    refine xq_nn ea7 ?_
    refine lv_aload_n F.1 F.2.1 dX5_put_16 rfl (lv_at hl 0 rfl) ?_
    refine xg_X5_codeLength F C ht1 ux_420 (fun _ h9 => h9) dX5_put_17 ?_
    refine lv_iload_n F.1 F.2.1 dX5_put_20 rfl (lv_at hl 1 rfl) ?_
    obtain ⟨ht8, h⟩ := h
    obtain ⟨hn9, h⟩ := h
    refine kx_iast F C ht8 hn9 dX5_put_21 (fun H locs C => ?_)
    generalize eσ10 : xsai σ a6 (xi σ 114 l0).toNatClampNeg l1 = σ10 at C ⊢
    replace h := h σ10 eσ10.symm
    have ht11 : xt σ10 l0 = 7 := by rw [← eσ10]; exact ht1
    have ht12 : xt σ10 a2 = 20 := by rw [← eσ10]; exact ht4
    have ht13 : xt σ10 a6 = 20 := by rw [← eσ10]; exact ht8
    refine lv_aload_n F.1 F.2.1 dX5_put_22 rfl (lv_at hl 0 rfl) ?_
    refine lv_dup F.1 F.2.1 dX5_put_23 rfl ?_
    refine xg_X5_codeLength F C ht11 ux_420 (fun _ h9 => h9) dX5_put_24 ?_
    refine lv_iconst (v := 1) F.1 F.2.1 dX5_put_27 (by decide) ?_
    refine lv_iadd (x := xi σ10 114 l0) (y := 1) F.1 F.2.1 dX5_put_28 ?_
    refine xp_X5_codeLength (x := (xi σ10 114 l0) + 1) F C ht11 ux_420 (fun _ h9 => h9) dX5_put_29 (fun H locs C => ?_)
    generalize eσ14 : xsi σ10 114 l0 ((xi σ10 114 l0) + 1) = σ14 at C ⊢
    replace h := h σ14 eσ14.symm
    have ht15 : xt σ14 l0 = 7 := by rw [← eσ14]; exact ht11
    have ht16 : xt σ14 a2 = 20 := by rw [← eσ14]; exact ht12
    have ht17 : xt σ14 a6 = 20 := by rw [← eσ14]; exact ht13
    exact kx_vret F C hr hlocks h dX5_put_32
section
variable {p : Program} {l : Launch} {e : Env} {fr lo c0 : Nat} {s : State} {m : MethodId} {args : Array Value} {below : List Frame} {meth : Method} {c : Code} {H : Heap} {locs : List Loc} {Q : State → Prop}
variable {cc : ByteArray} {pc nL index : Nat} {ls : Array Slot} {rest : List Value} {G : kx_G} {σ : kx_S} {own : String}
theorem xk_X5_put {P : kx_S → Prop} (F : CallFix p m c cc nL s args kt_ own) (C : kx_X G c0 s H locs σ) (l0 : Nat) (l1 : Int32) (ha : xt σ l0 = 7) (h : wX5_put l0 l1 σ P) (hw : Cond.methodLink own index yX5_put ∈ kt_) (h1 : (0) + 1 ≤ fr) (h2 : 8 + (2 + 11) + (0) ≤ lo) (hsz : ls.size = nL) (hW : (rest.map fun v => v.category).sum ≤ 8) (hdg : decode cc pc = .ok (.invokevirtual index, 3)) (kk : ∀ (u : kx_S) (H1 : Heap) (locs1 : List Loc), P u → kx_X G c0 s H1 locs1 u → kx_W p l e fr lo c0 s m args below meth c H1 locs1 u Q (F0 m (pc + 3) ls rest)) : kx_W p l e fr lo c0 s m args below meth c H locs σ Q (F0 m pc ls (.int l1 :: .ref l0 :: rest)) :=
  kx_cV (n := 1) (As := [.int l1]) (Cn := RX5) F C (hx_X5_put l G l0 l1 σ P h) (kt_V hw ux_422 ux_423 ux_59 ux_421) (by decide +kernel) ⟨h1, h2⟩ (kx_recv C (by rw [ha]; decide) (kx_e7 ha) rfl) rfl hsz hW hdg (fun v u H1 locs1 hP9 C9 => by obtain ⟨hv, hp⟩ := hP9; subst hv; exact kk u H1 locs1 hp C9)
end
theorem dX5_fail_0 : decode cX5_fail 0 = .ok (.aload_n 0, 1) := by decide +kernel
theorem dX5_fail_1 : decode cX5_fail 1 = .ok (.getfield 30, 3) := by decide +kernel
theorem dX5_fail_4 : decode cX5_fail 4 = .ok (.ifCond .ne 19, 3) := by decide +kernel
theorem dX5_fail_7 : decode cX5_fail 7 = .ok (.aload_n 0, 1) := by decide +kernel
theorem dX5_fail_8 : decode cX5_fail 8 = .ok (.iload_n 1, 1) := by decide +kernel
theorem dX5_fail_9 : decode cX5_fail 9 = .ok (.putfield 30, 3) := by decide +kernel
theorem dX5_fail_12 : decode cX5_fail 12 = .ok (.aload_n 0, 1) := by decide +kernel
theorem dX5_fail_13 : decode cX5_fail 13 = .ok (.aload_n 0, 1) := by decide +kernel
theorem dX5_fail_14 : decode cX5_fail 14 = .ok (.getfield 14, 3) := by decide +kernel
theorem dX5_fail_17 : decode cX5_fail 17 = .ok (.getfield 113, 3) := by decide +kernel
theorem dX5_fail_20 : decode cX5_fail 20 = .ok (.putfield 33, 3) := by decide +kernel
theorem dX5_fail_23 : decode cX5_fail 23 = .ok (.return_, 1) := by decide +kernel
def wX5_fail (l0 : Nat) (l1 : Int32) (σ : kx_S) (Q : kx_S → Prop) : Prop := xt σ l0 = 7 ∧ ((¬ (xi σ 115 l0) = 0 → Q σ) ∧
  ((xi σ 115 l0) = 0 → ∀ σ3, σ3 = xsi σ 115 l0 l1 → ∃ a5, xr σ3 112 l0 = some a5 ∧ xt σ3 a5 = 12 ∧ ∀ σ8, σ8 = xsi σ3 116 l0 (xi σ3 195 a5) → Q σ8))
set_option maxRecDepth 100000 in
set_option maxHeartbeats 4000000 in
theorem hx_X5_fail (l : Launch) (G : kx_G) (l0 : Nat) (l1 : Int32) (σ : kx_S) (Q : kx_S → Prop) (h : wX5_fail l0 l1 σ Q) : kx_M l G yX5_fail cX5_fail 2 none (0) (0) [.ref l0, .int l1] σ (kx_rv Q) := by
  refine kx_enter (by decide) rfl (Nat.le_of_ble_eq_true rfl) ?_
  intro p e s m below meth c ls F hr hlocks C hname hl
  have hl : lv_has ls 2 [(0, .ref l0), (1, .int l1)] := hl
  obtain ⟨H, eH⟩ : ∃ z9, z9 = s.heap := ⟨_, rfl⟩
  obtain ⟨locs, eL⟩ : ∃ z9 : List Loc, z9 = [] := ⟨_, rfl⟩
  rw [← eH, ← eL] at C
  rw [← eH, ← eL]
  obtain ⟨σ0, e0⟩ : ∃ z9, z9 = σ := ⟨_, rfl⟩
  have C : kx_X G (xc σ0) s H locs σ := by rw [e0]; exact C
  suffices hgo : kx_W p l e (0) (0) (xc σ0) s m ([.ref l0, .int l1] : List Value).toArray below meth c H locs σ (MQ below (kx_Q G σ0 (kx_rv Q)) ([.ref l0, .int l1] : List Value).toArray s (kx_N - xc σ0) (600 * (kx_N - xc σ0)) (kx_A G)) (F0 m 0 ls []) by rw [e0] at hgo; exact hgo
  clear e0
  refine lv_aload_n F.1 F.2.1 dX5_fail_0 rfl (lv_at hl 0 rfl) ?_
  obtain ⟨ht1, h⟩ := h
  refine xg_X5_fault F C ht1 ux_424 (fun _ h9 => h9) dX5_fail_1 ?_
  refine lv_if_ne (tgt := 23) F.1 F.2.1 dX5_fail_4 (by decide) (fun c2 => ?_) (fun c2 => ?_)
  · replace h := h.1 c2
    exact kx_vret F C hr hlocks h dX5_fail_23
  · replace h := h.2 c2
    refine lv_aload_n F.1 F.2.1 dX5_fail_7 rfl (lv_at hl 0 rfl) ?_
    refine lv_iload_n F.1 F.2.1 dX5_fail_8 rfl (lv_at hl 1 rfl) ?_
    refine xp_X5_fault (x := l1) F C ht1 ux_424 (fun _ h9 => h9) dX5_fail_9 (fun H locs C => ?_)
    generalize eσ3 : xsi σ 115 l0 l1 = σ3 at C ⊢
    replace h := h σ3 eσ3.symm
    have ht4 : xt σ3 l0 = 7 := by rw [← eσ3]; exact ht1
    refine lv_aload_n F.1 F.2.1 dX5_fail_12 rfl (lv_at hl 0 rfl) ?_
    refine lv_aload_n F.1 F.2.1 dX5_fail_13 rfl (lv_at hl 0 rfl) ?_
    refine xg_X5_tokens F C ht4 ux_416 (fun _ h9 => h9) dX5_fail_14 ?_
    obtain ⟨a5, ea6, h⟩ := h
    refine xq_nn ea6 ?_
    obtain ⟨ht7, h⟩ := h
    refine xg_X10_start F C ht7 ux_425 (fun _ h9 => h9) dX5_fail_17 ?_
    refine xp_X5_faultPlace (x := xi σ3 195 a5) F C ht4 ux_426 (fun _ h9 => h9) dX5_fail_20 (fun H locs C => ?_)
    generalize eσ8 : xsi σ3 116 l0 (xi σ3 195 a5) = σ8 at C ⊢
    replace h := h σ8 eσ8.symm
    have ht9 : xt σ8 l0 = 7 := by rw [← eσ8]; exact ht4
    have ht10 : xt σ8 a5 = 12 := by rw [← eσ8]; exact ht7
    exact kx_vret F C hr hlocks h dX5_fail_23
section
variable {p : Program} {l : Launch} {e : Env} {fr lo c0 : Nat} {s : State} {m : MethodId} {args : Array Value} {below : List Frame} {meth : Method} {c : Code} {H : Heap} {locs : List Loc} {Q : State → Prop}
variable {cc : ByteArray} {pc nL index : Nat} {ls : Array Slot} {rest : List Value} {G : kx_G} {σ : kx_S} {own : String}
theorem xk_X5_fail {P : kx_S → Prop} (F : CallFix p m c cc nL s args kt_ own) (C : kx_X G c0 s H locs σ) (l0 : Nat) (l1 : Int32) (ha : xt σ l0 = 7) (h : wX5_fail l0 l1 σ P) (hw : Cond.methodLink own index yX5_fail ∈ kt_) (h1 : (0) + 1 ≤ fr) (h2 : 8 + (2 + 11) + (0) ≤ lo) (hsz : ls.size = nL) (hW : (rest.map fun v => v.category).sum ≤ 8) (hdg : decode cc pc = .ok (.invokevirtual index, 3)) (kk : ∀ (u : kx_S) (H1 : Heap) (locs1 : List Loc), P u → kx_X G c0 s H1 locs1 u → kx_W p l e fr lo c0 s m args below meth c H1 locs1 u Q (F0 m (pc + 3) ls rest)) : kx_W p l e fr lo c0 s m args below meth c H locs σ Q (F0 m pc ls (.int l1 :: .ref l0 :: rest)) :=
  kx_cV (n := 1) (As := [.int l1]) (Cn := RX5) F C (hx_X5_fail l G l0 l1 σ P h) (kt_V hw ux_428 ux_429 ux_59 ux_427) (by decide +kernel) ⟨h1, h2⟩ (kx_recv C (by rw [ha]; decide) (kx_e7 ha) rfl) rfl hsz hW hdg (fun v u H1 locs1 hP9 C9 => by obtain ⟨hv, hp⟩ := hP9; subst hv; exact kk u H1 locs1 hp C9)
end
theorem dX5_pass_0 : decode cX5_pass 0 = .ok (.aload_n 0, 1) := by decide +kernel
theorem dX5_pass_1 : decode cX5_pass 1 = .ok (.getfield 30, 3) := by decide +kernel
theorem dX5_pass_4 : decode cX5_pass 4 = .ok (.ifCond .eq 4, 3) := by decide +kernel
theorem dX5_pass_7 : decode cX5_pass 7 = .ok (.return_, 1) := by decide +kernel
theorem dX5_pass_8 : decode cX5_pass 8 = .ok (.aload_n 0, 1) := by decide +kernel
theorem dX5_pass_9 : decode cX5_pass 9 = .ok (.getfield 14, 3) := by decide +kernel
theorem dX5_pass_12 : decode cX5_pass 12 = .ok (.getfield 40, 3) := by decide +kernel
theorem dX5_pass_15 : decode cX5_pass 15 = .ok (.iload_n 1, 1) := by decide +kernel
theorem dX5_pass_16 : decode cX5_pass 16 = .ok (.if_icmp .eq 9, 3) := by decide +kernel
theorem dX5_pass_19 : decode cX5_pass 19 = .ok (.aload_n 0, 1) := by decide +kernel
theorem dX5_pass_20 : decode cX5_pass 20 = .ok (.iconst 1, 1) := by decide +kernel
theorem dX5_pass_21 : decode cX5_pass 21 = .ok (.invokevirtual 54, 3) := by decide +kernel
theorem dX5_pass_24 : decode cX5_pass 24 = .ok (.return_, 1) := by decide +kernel
theorem dX5_pass_25 : decode cX5_pass 25 = .ok (.aload_n 0, 1) := by decide +kernel
theorem dX5_pass_26 : decode cX5_pass 26 = .ok (.getfield 14, 3) := by decide +kernel
theorem dX5_pass_29 : decode cX5_pass 29 = .ok (.invokevirtual 57, 3) := by decide +kernel
theorem dX5_pass_32 : decode cX5_pass 32 = .ok (.return_, 1) := by decide +kernel
def wX5_pass (l0 : Nat) (l1 : Int32) (σ : kx_S) (Q : kx_S → Prop) : Prop := xt σ l0 = 7 ∧ (((xi σ 115 l0) = 0 → ∃ a3, xr σ 112 l0 = some a3 ∧ xt σ a3 = 12 ∧ (((xi σ 196 a3) = l1 → ∃ a7, xr σ 112 l0 = some a7 ∧ xt σ a7 = 12 ∧ wX10_advance a7 σ (fun σ9 => Q σ9)) ∧
    (¬ ((xi σ 196 a3) = l1) → wX5_fail l0 1 σ (fun σ11 => Q σ11)))) ∧
  (¬ ((xi σ 115 l0) = 0) → Q σ))
set_option maxRecDepth 100000 in
set_option maxHeartbeats 4000000 in
theorem hx_X5_pass (l : Launch) (G : kx_G) (l0 : Nat) (l1 : Int32) (σ : kx_S) (Q : kx_S → Prop) (h : wX5_pass l0 l1 σ Q) : kx_M l G yX5_pass cX5_pass 2 none (3) (64) [.ref l0, .int l1] σ (kx_rv Q) := by
  refine kx_enter (by decide) rfl (Nat.le_of_ble_eq_true rfl) ?_
  intro p e s m below meth c ls F hr hlocks C hname hl
  have hl : lv_has ls 2 [(0, .ref l0), (1, .int l1)] := hl
  obtain ⟨H, eH⟩ : ∃ z9, z9 = s.heap := ⟨_, rfl⟩
  obtain ⟨locs, eL⟩ : ∃ z9 : List Loc, z9 = [] := ⟨_, rfl⟩
  rw [← eH, ← eL] at C
  rw [← eH, ← eL]
  obtain ⟨σ0, e0⟩ : ∃ z9, z9 = σ := ⟨_, rfl⟩
  have C : kx_X G (xc σ0) s H locs σ := by rw [e0]; exact C
  suffices hgo : kx_W p l e (3) (64) (xc σ0) s m ([.ref l0, .int l1] : List Value).toArray below meth c H locs σ (MQ below (kx_Q G σ0 (kx_rv Q)) ([.ref l0, .int l1] : List Value).toArray s (kx_N - xc σ0) (600 * (kx_N - xc σ0)) (kx_A G)) (F0 m 0 ls []) by rw [e0] at hgo; exact hgo
  clear e0
  refine lv_aload_n F.1 F.2.1 dX5_pass_0 rfl (lv_at hl 0 rfl) ?_
  obtain ⟨ht1, h⟩ := h
  refine xg_X5_fault F C ht1 ux_424 (fun _ h9 => h9) dX5_pass_1 ?_
  refine lv_if_eq (tgt := 8) F.1 F.2.1 dX5_pass_4 (by decide) (fun c2 => ?_) (fun c2 => ?_)
  · replace h := h.1 c2
    refine lv_aload_n F.1 F.2.1 dX5_pass_8 rfl (lv_at hl 0 rfl) ?_
    refine xg_X5_tokens F C ht1 ux_416 (fun _ h9 => h9) dX5_pass_9 ?_
    obtain ⟨a3, ea4, h⟩ := h
    refine xq_nn ea4 ?_
    obtain ⟨ht5, h⟩ := h
    refine xg_X10_kind F C ht5 ux_430 (fun _ h9 => h9) dX5_pass_12 ?_
    refine lv_iload_n F.1 F.2.1 dX5_pass_15 rfl (lv_at hl 1 rfl) ?_
    refine lv_icmp_eq (tgt := 25) F.1 F.2.1 dX5_pass_16 (by decide) (fun c6 => ?_) (fun c6 => ?_)
    · replace h := h.1 c6
      refine lv_aload_n F.1 F.2.1 dX5_pass_25 rfl (lv_at hl 0 rfl) ?_
      refine xg_X5_tokens F C ht1 ux_416 (fun _ h9 => h9) dX5_pass_26 ?_
      obtain ⟨a7, ea8, h⟩ := h
      refine xq_nn ea8 ?_
      obtain ⟨ht10, h⟩ := h
      refine xk_X10_advance F C a7 ht10 h ux_431 (Nat.le_of_ble_eq_true rfl) (Nat.le_of_ble_eq_true rfl) hl.1 (by simp [Value.category]) dX5_pass_29 (fun σ9 H locs h C => ?_)
      exact kx_vret F C hr hlocks h dX5_pass_32
    · replace h := h.2 c6
      refine lv_aload_n F.1 F.2.1 dX5_pass_19 rfl (lv_at hl 0 rfl) ?_
      refine lv_iconst (v := 1) F.1 F.2.1 dX5_pass_20 (by decide) ?_
      refine xk_X5_fail F C l0 1 ht1 h ux_432 (Nat.le_of_ble_eq_true rfl) (Nat.le_of_ble_eq_true rfl) hl.1 (by simp [Value.category]) dX5_pass_21 (fun σ11 H locs h C => ?_)
      exact kx_vret F C hr hlocks h dX5_pass_24
  · replace h := h.2 c2
    exact kx_vret F C hr hlocks h dX5_pass_7
section
variable {p : Program} {l : Launch} {e : Env} {fr lo c0 : Nat} {s : State} {m : MethodId} {args : Array Value} {below : List Frame} {meth : Method} {c : Code} {H : Heap} {locs : List Loc} {Q : State → Prop}
variable {cc : ByteArray} {pc nL index : Nat} {ls : Array Slot} {rest : List Value} {G : kx_G} {σ : kx_S} {own : String}
theorem xk_X5_pass {P : kx_S → Prop} (F : CallFix p m c cc nL s args kt_ own) (C : kx_X G c0 s H locs σ) (l0 : Nat) (l1 : Int32) (ha : xt σ l0 = 7) (h : wX5_pass l0 l1 σ P) (hw : Cond.methodLink own index yX5_pass ∈ kt_) (h1 : (3) + 1 ≤ fr) (h2 : 8 + (2 + 11) + (64) ≤ lo) (hsz : ls.size = nL) (hW : (rest.map fun v => v.category).sum ≤ 8) (hdg : decode cc pc = .ok (.invokevirtual index, 3)) (kk : ∀ (u : kx_S) (H1 : Heap) (locs1 : List Loc), P u → kx_X G c0 s H1 locs1 u → kx_W p l e fr lo c0 s m args below meth c H1 locs1 u Q (F0 m (pc + 3) ls rest)) : kx_W p l e fr lo c0 s m args below meth c H locs σ Q (F0 m pc ls (.int l1 :: .ref l0 :: rest)) :=
  kx_cV (n := 1) (As := [.int l1]) (Cn := RX5) F C (hx_X5_pass l G l0 l1 σ P h) (kt_V hw ux_434 ux_435 ux_59 ux_433) (by decide +kernel) ⟨h1, h2⟩ (kx_recv C (by rw [ha]; decide) (kx_e7 ha) rfl) rfl hsz hW hdg (fun v u H1 locs1 hP9 C9 => by obtain ⟨hv, hp⟩ := hP9; subst hv; exact kk u H1 locs1 hp C9)
end
theorem dX5_codeOfName_0 : decode cX5_codeOfName 0 = .ok (.aload_n 0, 1) := by decide +kernel
theorem dX5_codeOfName_1 : decode cX5_codeOfName 1 = .ok (.getfield 14, 3) := by decide +kernel
theorem dX5_codeOfName_4 : decode cX5_codeOfName 4 = .ok (.ldc 99, 2) := by decide +kernel
theorem dX5_codeOfName_6 : decode cX5_codeOfName 6 = .ok (.invokevirtual 48, 3) := by decide +kernel
theorem dX5_codeOfName_9 : decode cX5_codeOfName 9 = .ok (.ifCond .eq 5, 3) := by decide +kernel
theorem dX5_codeOfName_12 : decode cX5_codeOfName 12 = .ok (.iconst (-1), 1) := by decide +kernel
theorem dX5_codeOfName_13 : decode cX5_codeOfName 13 = .ok (.ireturn, 1) := by decide +kernel
theorem dX5_codeOfName_14 : decode cX5_codeOfName 14 = .ok (.aload_n 0, 1) := by decide +kernel
theorem dX5_codeOfName_15 : decode cX5_codeOfName 15 = .ok (.getfield 14, 3) := by decide +kernel
theorem dX5_codeOfName_18 : decode cX5_codeOfName 18 = .ok (.ldc 101, 2) := by decide +kernel
theorem dX5_codeOfName_20 : decode cX5_codeOfName 20 = .ok (.invokevirtual 48, 3) := by decide +kernel
theorem dX5_codeOfName_23 : decode cX5_codeOfName 23 = .ok (.ifCond .eq 6, 3) := by decide +kernel
theorem dX5_codeOfName_26 : decode cX5_codeOfName 26 = .ok (.bipush (-2), 2) := by decide +kernel
theorem dX5_codeOfName_28 : decode cX5_codeOfName 28 = .ok (.ireturn, 1) := by decide +kernel
theorem dX5_codeOfName_29 : decode cX5_codeOfName 29 = .ok (.aload_n 0, 1) := by decide +kernel
theorem dX5_codeOfName_30 : decode cX5_codeOfName 30 = .ok (.getfield 14, 3) := by decide +kernel
theorem dX5_codeOfName_33 : decode cX5_codeOfName 33 = .ok (.ldc 103, 2) := by decide +kernel
theorem dX5_codeOfName_35 : decode cX5_codeOfName 35 = .ok (.invokevirtual 48, 3) := by decide +kernel
theorem dX5_codeOfName_38 : decode cX5_codeOfName 38 = .ok (.ifCond .eq 6, 3) := by decide +kernel
theorem dX5_codeOfName_41 : decode cX5_codeOfName 41 = .ok (.bipush (-3), 2) := by decide +kernel
theorem dX5_codeOfName_43 : decode cX5_codeOfName 43 = .ok (.ireturn, 1) := by decide +kernel
theorem dX5_codeOfName_44 : decode cX5_codeOfName 44 = .ok (.aload_n 0, 1) := by decide +kernel
theorem dX5_codeOfName_45 : decode cX5_codeOfName 45 = .ok (.getfield 14, 3) := by decide +kernel
theorem dX5_codeOfName_48 : decode cX5_codeOfName 48 = .ok (.ldc 105, 2) := by decide +kernel
theorem dX5_codeOfName_50 : decode cX5_codeOfName 50 = .ok (.invokevirtual 48, 3) := by decide +kernel
theorem dX5_codeOfName_53 : decode cX5_codeOfName 53 = .ok (.ifCond .eq 6, 3) := by decide +kernel
theorem dX5_codeOfName_56 : decode cX5_codeOfName 56 = .ok (.bipush (-4), 2) := by decide +kernel
theorem dX5_codeOfName_58 : decode cX5_codeOfName 58 = .ok (.ireturn, 1) := by decide +kernel
theorem dX5_codeOfName_59 : decode cX5_codeOfName 59 = .ok (.aload_n 0, 1) := by decide +kernel
theorem dX5_codeOfName_60 : decode cX5_codeOfName 60 = .ok (.getfield 14, 3) := by decide +kernel
theorem dX5_codeOfName_63 : decode cX5_codeOfName 63 = .ok (.ldc 107, 2) := by decide +kernel
theorem dX5_codeOfName_65 : decode cX5_codeOfName 65 = .ok (.invokevirtual 48, 3) := by decide +kernel
theorem dX5_codeOfName_68 : decode cX5_codeOfName 68 = .ok (.ifCond .eq 6, 3) := by decide +kernel
theorem dX5_codeOfName_71 : decode cX5_codeOfName 71 = .ok (.bipush (-5), 2) := by decide +kernel
theorem dX5_codeOfName_73 : decode cX5_codeOfName 73 = .ok (.ireturn, 1) := by decide +kernel
theorem dX5_codeOfName_74 : decode cX5_codeOfName 74 = .ok (.aload_n 0, 1) := by decide +kernel
theorem dX5_codeOfName_75 : decode cX5_codeOfName 75 = .ok (.getfield 14, 3) := by decide +kernel
theorem dX5_codeOfName_78 : decode cX5_codeOfName 78 = .ok (.ldc 109, 2) := by decide +kernel
theorem dX5_codeOfName_80 : decode cX5_codeOfName 80 = .ok (.invokevirtual 48, 3) := by decide +kernel
theorem dX5_codeOfName_83 : decode cX5_codeOfName 83 = .ok (.ifCond .eq 6, 3) := by decide +kernel
theorem dX5_codeOfName_86 : decode cX5_codeOfName 86 = .ok (.bipush (-6), 2) := by decide +kernel
theorem dX5_codeOfName_88 : decode cX5_codeOfName 88 = .ok (.ireturn, 1) := by decide +kernel
theorem dX5_codeOfName_89 : decode cX5_codeOfName 89 = .ok (.aload_n 0, 1) := by decide +kernel
theorem dX5_codeOfName_90 : decode cX5_codeOfName 90 = .ok (.getfield 14, 3) := by decide +kernel
theorem dX5_codeOfName_93 : decode cX5_codeOfName 93 = .ok (.ldc 111, 2) := by decide +kernel
theorem dX5_codeOfName_95 : decode cX5_codeOfName 95 = .ok (.invokevirtual 48, 3) := by decide +kernel
theorem dX5_codeOfName_98 : decode cX5_codeOfName 98 = .ok (.ifCond .eq 8, 3) := by decide +kernel
theorem dX5_codeOfName_101 : decode cX5_codeOfName 101 = .ok (.bipush (-7), 2) := by decide +kernel
theorem dX5_codeOfName_103 : decode cX5_codeOfName 103 = .ok (.goto 4, 3) := by decide +kernel
theorem dX5_codeOfName_106 : decode cX5_codeOfName 106 = .ok (.iconst 0, 1) := by decide +kernel
theorem dX5_codeOfName_107 : decode cX5_codeOfName 107 = .ok (.ireturn, 1) := by decide +kernel
def wX5_codeOfName (l0 : Nat) (σ : kx_S) (Q : Int32 → kx_S → Prop) : Prop := xt σ l0 = 7 ∧ ∃ a2, xr σ 112 l0 = some a2 ∧ xt σ a2 = 12 ∧ wX10_isWord a2 0 σ (fun r5 σ4 => ((r5 = 0 → xt σ4 l0 = 7 ∧ ∃ a9, xr σ4 112 l0 = some a9 ∧ xt σ4 a9 = 12 ∧ wX10_isWord a9 1 σ4 (fun r12 σ11 => ((r12 = 0 → xt σ11 l0 = 7 ∧ ∃ a16, xr σ11 112 l0 = some a16 ∧ xt σ11 a16 = 12 ∧ wX10_isWord a16 2 σ11 (fun r19 σ18 => ((r19 = 0 → xt σ18 l0 = 7 ∧ ∃ a23, xr σ18 112 l0 = some a23 ∧ xt σ18 a23 = 12 ∧ wX10_isWord a23 3 σ18 (fun r26 σ25 => ((r26 = 0 → xt σ25 l0 = 7 ∧ ∃ a30, xr σ25 112 l0 = some a30 ∧ xt σ25 a30 = 12 ∧ wX10_isWord a30 4 σ25 (fun r33 σ32 => ((r33 = 0 → xt σ32 l0 = 7 ∧ ∃ a37, xr σ32 112 l0 = some a37 ∧ xt σ32 a37 = 12 ∧ wX10_isWord a37 5 σ32 (fun r40 σ39 => ((r40 = 0 → xt σ39 l0 = 7 ∧ ∃ a44, xr σ39 112 l0 = some a44 ∧ xt σ39 a44 = 12 ∧ wX10_isWord a44 6 σ39 (fun r47 σ46 => ((r47 = 0 → Q 0 σ46) ∧
              (¬ (r47 = 0) → Q (-7) σ46)))) ∧
            (¬ (r40 = 0) → Q (-6) σ39)))) ∧
          (¬ (r33 = 0) → Q (-5) σ32)))) ∧
        (¬ (r26 = 0) → Q (-4) σ25)))) ∧
      (¬ (r19 = 0) → Q (-3) σ18)))) ∧
    (¬ (r12 = 0) → Q (-2) σ11)))) ∧
  (¬ (r5 = 0) → Q (-1) σ4)))
set_option maxRecDepth 100000 in
set_option maxHeartbeats 4000000 in
theorem hx_X5_codeOfName (l : Launch) (G : kx_G) (l0 : Nat) (σ : kx_S) (Q : Int32 → kx_S → Prop) (h : wX5_codeOfName l0 σ Q) : kx_M l G yX5_codeOfName cX5_codeOfName 1 (some .int) (5) (107) [.ref l0] σ (kx_ri Q) := by
  refine kx_enter (by decide) rfl (Nat.le_of_ble_eq_true rfl) ?_
  intro p e s m below meth c ls F hr hlocks C hname hl
  have hl : lv_has ls 1 [(0, .ref l0)] := hl
  obtain ⟨H, eH⟩ : ∃ z9, z9 = s.heap := ⟨_, rfl⟩
  obtain ⟨locs, eL⟩ : ∃ z9 : List Loc, z9 = [] := ⟨_, rfl⟩
  rw [← eH, ← eL] at C
  rw [← eH, ← eL]
  obtain ⟨σ0, e0⟩ : ∃ z9, z9 = σ := ⟨_, rfl⟩
  have C : kx_X G (xc σ0) s H locs σ := by rw [e0]; exact C
  suffices hgo : kx_W p l e (5) (107) (xc σ0) s m ([.ref l0] : List Value).toArray below meth c H locs σ (MQ below (kx_Q G σ0 (kx_ri Q)) ([.ref l0] : List Value).toArray s (kx_N - xc σ0) (600 * (kx_N - xc σ0)) (kx_A G)) (F0 m 0 ls []) by rw [e0] at hgo; exact hgo
  clear e0
  refine lv_aload_n F.1 F.2.1 dX5_codeOfName_0 rfl (lv_at hl 0 rfl) ?_
  obtain ⟨ht1, h⟩ := h
  refine xg_X5_tokens F C ht1 ux_416 (fun _ h9 => h9) dX5_codeOfName_1 ?_
  obtain ⟨a2, ea3, h⟩ := h
  refine xq_nn ea3 ?_
  refine kx_ldcW (i := 0) F C rfl dX5_codeOfName_4 ?_
  obtain ⟨ht6, h⟩ := h
  refine xk_X10_isWord F C a2 0 ht6 h ux_436 (Nat.le_of_ble_eq_true rfl) (Nat.le_of_ble_eq_true rfl) hl.1 (by simp [Value.category]) dX5_codeOfName_6 (fun r5 σ4 H locs h C => ?_)
  refine lv_if_eq (tgt := 14) F.1 F.2.1 dX5_codeOfName_9 (by decide) (fun c7 => ?_) (fun c7 => ?_)
  · replace h := h.1 c7
    refine lv_aload_n F.1 F.2.1 dX5_codeOfName_14 rfl (lv_at hl 0 rfl) ?_
    obtain ⟨ht8, h⟩ := h
    refine xg_X5_tokens F C ht8 ux_416 (fun _ h9 => h9) dX5_codeOfName_15 ?_
    obtain ⟨a9, ea10, h⟩ := h
    refine xq_nn ea10 ?_
    refine kx_ldcW (i := 1) F C rfl dX5_codeOfName_18 ?_
    obtain ⟨ht13, h⟩ := h
    refine xk_X10_isWord F C a9 1 ht13 h ux_436 (Nat.le_of_ble_eq_true rfl) (Nat.le_of_ble_eq_true rfl) hl.1 (by simp [Value.category]) dX5_codeOfName_20 (fun r12 σ11 H locs h C => ?_)
    refine lv_if_eq (tgt := 29) F.1 F.2.1 dX5_codeOfName_23 (by decide) (fun c14 => ?_) (fun c14 => ?_)
    · replace h := h.1 c14
      refine lv_aload_n F.1 F.2.1 dX5_codeOfName_29 rfl (lv_at hl 0 rfl) ?_
      obtain ⟨ht15, h⟩ := h
      refine xg_X5_tokens F C ht15 ux_416 (fun _ h9 => h9) dX5_codeOfName_30 ?_
      obtain ⟨a16, ea17, h⟩ := h
      refine xq_nn ea17 ?_
      refine kx_ldcW (i := 2) F C rfl dX5_codeOfName_33 ?_
      obtain ⟨ht20, h⟩ := h
      refine xk_X10_isWord F C a16 2 ht20 h ux_436 (Nat.le_of_ble_eq_true rfl) (Nat.le_of_ble_eq_true rfl) hl.1 (by simp [Value.category]) dX5_codeOfName_35 (fun r19 σ18 H locs h C => ?_)
      refine lv_if_eq (tgt := 44) F.1 F.2.1 dX5_codeOfName_38 (by decide) (fun c21 => ?_) (fun c21 => ?_)
      · replace h := h.1 c21
        refine lv_aload_n F.1 F.2.1 dX5_codeOfName_44 rfl (lv_at hl 0 rfl) ?_
        obtain ⟨ht22, h⟩ := h
        refine xg_X5_tokens F C ht22 ux_416 (fun _ h9 => h9) dX5_codeOfName_45 ?_
        obtain ⟨a23, ea24, h⟩ := h
        refine xq_nn ea24 ?_
        refine kx_ldcW (i := 3) F C rfl dX5_codeOfName_48 ?_
        obtain ⟨ht27, h⟩ := h
        refine xk_X10_isWord F C a23 3 ht27 h ux_436 (Nat.le_of_ble_eq_true rfl) (Nat.le_of_ble_eq_true rfl) hl.1 (by simp [Value.category]) dX5_codeOfName_50 (fun r26 σ25 H locs h C => ?_)
        refine lv_if_eq (tgt := 59) F.1 F.2.1 dX5_codeOfName_53 (by decide) (fun c28 => ?_) (fun c28 => ?_)
        · replace h := h.1 c28
          refine lv_aload_n F.1 F.2.1 dX5_codeOfName_59 rfl (lv_at hl 0 rfl) ?_
          obtain ⟨ht29, h⟩ := h
          refine xg_X5_tokens F C ht29 ux_416 (fun _ h9 => h9) dX5_codeOfName_60 ?_
          obtain ⟨a30, ea31, h⟩ := h
          refine xq_nn ea31 ?_
          refine kx_ldcW (i := 4) F C rfl dX5_codeOfName_63 ?_
          obtain ⟨ht34, h⟩ := h
          refine xk_X10_isWord F C a30 4 ht34 h ux_436 (Nat.le_of_ble_eq_true rfl) (Nat.le_of_ble_eq_true rfl) hl.1 (by simp [Value.category]) dX5_codeOfName_65 (fun r33 σ32 H locs h C => ?_)
          refine lv_if_eq (tgt := 74) F.1 F.2.1 dX5_codeOfName_68 (by decide) (fun c35 => ?_) (fun c35 => ?_)
          · replace h := h.1 c35
            refine lv_aload_n F.1 F.2.1 dX5_codeOfName_74 rfl (lv_at hl 0 rfl) ?_
            obtain ⟨ht36, h⟩ := h
            refine xg_X5_tokens F C ht36 ux_416 (fun _ h9 => h9) dX5_codeOfName_75 ?_
            obtain ⟨a37, ea38, h⟩ := h
            refine xq_nn ea38 ?_
            refine kx_ldcW (i := 5) F C rfl dX5_codeOfName_78 ?_
            obtain ⟨ht41, h⟩ := h
            refine xk_X10_isWord F C a37 5 ht41 h ux_436 (Nat.le_of_ble_eq_true rfl) (Nat.le_of_ble_eq_true rfl) hl.1 (by simp [Value.category]) dX5_codeOfName_80 (fun r40 σ39 H locs h C => ?_)
            refine lv_if_eq (tgt := 89) F.1 F.2.1 dX5_codeOfName_83 (by decide) (fun c42 => ?_) (fun c42 => ?_)
            · replace h := h.1 c42
              refine lv_aload_n F.1 F.2.1 dX5_codeOfName_89 rfl (lv_at hl 0 rfl) ?_
              obtain ⟨ht43, h⟩ := h
              refine xg_X5_tokens F C ht43 ux_416 (fun _ h9 => h9) dX5_codeOfName_90 ?_
              obtain ⟨a44, ea45, h⟩ := h
              refine xq_nn ea45 ?_
              refine kx_ldcW (i := 6) F C rfl dX5_codeOfName_93 ?_
              obtain ⟨ht48, h⟩ := h
              refine xk_X10_isWord F C a44 6 ht48 h ux_436 (Nat.le_of_ble_eq_true rfl) (Nat.le_of_ble_eq_true rfl) hl.1 (by simp [Value.category]) dX5_codeOfName_95 (fun r47 σ46 H locs h C => ?_)
              refine lv_if_eq (tgt := 106) F.1 F.2.1 dX5_codeOfName_98 (by decide) (fun c49 => ?_) (fun c49 => ?_)
              · replace h := h.1 c49
                refine lv_iconst (v := 0) F.1 F.2.1 dX5_codeOfName_106 (by decide) ?_
                exact kx_iret F C hr hlocks h dX5_codeOfName_107
              · replace h := h.2 c49
                refine lv_bipush (v := (-7)) F.1 F.2.1 dX5_codeOfName_101 (by decide) ?_
                refine lv_goto (tgt := 107) F.1 F.2.1 dX5_codeOfName_103 (by decide) ?_
                exact kx_iret F C hr hlocks h dX5_codeOfName_107
            · replace h := h.2 c42
              refine lv_bipush (v := (-6)) F.1 F.2.1 dX5_codeOfName_86 (by decide) ?_
              exact kx_iret F C hr hlocks h dX5_codeOfName_88
          · replace h := h.2 c35
            refine lv_bipush (v := (-5)) F.1 F.2.1 dX5_codeOfName_71 (by decide) ?_
            exact kx_iret F C hr hlocks h dX5_codeOfName_73
        · replace h := h.2 c28
          refine lv_bipush (v := (-4)) F.1 F.2.1 dX5_codeOfName_56 (by decide) ?_
          exact kx_iret F C hr hlocks h dX5_codeOfName_58
      · replace h := h.2 c21
        refine lv_bipush (v := (-3)) F.1 F.2.1 dX5_codeOfName_41 (by decide) ?_
        exact kx_iret F C hr hlocks h dX5_codeOfName_43
    · replace h := h.2 c14
      refine lv_bipush (v := (-2)) F.1 F.2.1 dX5_codeOfName_26 (by decide) ?_
      exact kx_iret F C hr hlocks h dX5_codeOfName_28
  · replace h := h.2 c7
    refine lv_iconst (v := (-1)) F.1 F.2.1 dX5_codeOfName_12 (by decide) ?_
    exact kx_iret F C hr hlocks h dX5_codeOfName_13
section
variable {p : Program} {l : Launch} {e : Env} {fr lo c0 : Nat} {s : State} {m : MethodId} {args : Array Value} {below : List Frame} {meth : Method} {c : Code} {H : Heap} {locs : List Loc} {Q : State → Prop}
variable {cc : ByteArray} {pc nL index : Nat} {ls : Array Slot} {rest : List Value} {G : kx_G} {σ : kx_S} {own : String}
theorem xk_X5_codeOfName {P : Int32 → kx_S → Prop} (F : CallFix p m c cc nL s args kt_ own) (C : kx_X G c0 s H locs σ) (l0 : Nat) (ha : xt σ l0 = 7) (h : wX5_codeOfName l0 σ P) (hw : Cond.methodLink own index yX5_codeOfName ∈ kt_) (h1 : (5) + 1 ≤ fr) (h2 : 8 + (1 + 11) + (107) ≤ lo) (hsz : ls.size = nL) (hW : (rest.map fun v => v.category).sum ≤ 8) (hdg : decode cc pc = .ok (.invokevirtual index, 3)) (kk : ∀ (r : Int32) (u : kx_S) (H1 : Heap) (locs1 : List Loc), P r u → kx_X G c0 s H1 locs1 u → kx_W p l e fr lo c0 s m args below meth c H1 locs1 u Q (F0 m (pc + 3) ls (.int r :: rest))) : kx_W p l e fr lo c0 s m args below meth c H locs σ Q (F0 m pc ls (.ref l0 :: rest)) :=
  kx_cV (n := 0) (As := []) (Cn := RX5) F C (hx_X5_codeOfName l G l0 σ P h) (kt_V hw ux_438 ux_439 ux_59 ux_437) (by decide +kernel) ⟨h1, h2⟩ (kx_recv C (by rw [ha]; decide) (kx_e7 ha) rfl) rfl hsz hW hdg (fun v u H1 locs1 hP9 C9 => by obtain ⟨r, hv, hp⟩ := hP9; subst hv; exact kk r u H1 locs1 hp C9)
end
theorem dX5_faultOfPart_0 : decode cX5_faultOfPart 0 = .ok (.aload_n 0, 1) := by decide +kernel
theorem dX5_faultOfPart_1 : decode cX5_faultOfPart 1 = .ok (.getfield 14, 3) := by decide +kernel
theorem dX5_faultOfPart_4 : decode cX5_faultOfPart 4 = .ok (.getfield 40, 3) := by decide +kernel
theorem dX5_faultOfPart_7 : decode cX5_faultOfPart 7 = .ok (.lookupswitch 58 #[(1, 43), (2, 41), (3, 56), (40, 41)], 41) := by decide +kernel
theorem dX5_faultOfPart_48 : decode cX5_faultOfPart 48 = .ok (.iconst 0, 1) := by decide +kernel
theorem dX5_faultOfPart_49 : decode cX5_faultOfPart 49 = .ok (.ireturn, 1) := by decide +kernel
theorem dX5_faultOfPart_50 : decode cX5_faultOfPart 50 = .ok (.aload_n 0, 1) := by decide +kernel
theorem dX5_faultOfPart_51 : decode cX5_faultOfPart 51 = .ok (.invokevirtual 96, 3) := by decide +kernel
theorem dX5_faultOfPart_54 : decode cX5_faultOfPart 54 = .ok (.ifCond .ne 7, 3) := by decide +kernel
theorem dX5_faultOfPart_57 : decode cX5_faultOfPart 57 = .ok (.iconst 3, 1) := by decide +kernel
theorem dX5_faultOfPart_58 : decode cX5_faultOfPart 58 = .ok (.goto 4, 3) := by decide +kernel
theorem dX5_faultOfPart_61 : decode cX5_faultOfPart 61 = .ok (.iconst 0, 1) := by decide +kernel
theorem dX5_faultOfPart_62 : decode cX5_faultOfPart 62 = .ok (.ireturn, 1) := by decide +kernel
theorem dX5_faultOfPart_63 : decode cX5_faultOfPart 63 = .ok (.iconst 2, 1) := by decide +kernel
theorem dX5_faultOfPart_64 : decode cX5_faultOfPart 64 = .ok (.ireturn, 1) := by decide +kernel
theorem dX5_faultOfPart_65 : decode cX5_faultOfPart 65 = .ok (.iconst 1, 1) := by decide +kernel
theorem dX5_faultOfPart_66 : decode cX5_faultOfPart 66 = .ok (.ireturn, 1) := by decide +kernel
def wX5_faultOfPart (l0 : Nat) (σ : kx_S) (Q : Int32 → kx_S → Prop) : Prop := xt σ l0 = 7 ∧ ∃ a2, xr σ 112 l0 = some a2 ∧ xt σ a2 = 12 ∧ ∀ v5, v5 = xi σ 196 a2 → ((v5 = 1 → wX5_codeOfName l0 σ (fun r8 σ7 => ((¬ r8 = 0 → Q 0 σ7) ∧
    (r8 = 0 → Q 3 σ7)))) ∧
  ((v5 = 2 → Q 0 σ) ∧
  ((v5 = 3 → Q 2 σ) ∧
  ((v5 = 40 → Q 0 σ) ∧
  (¬ v5 = 1 → ¬ v5 = 2 → ¬ v5 = 3 → ¬ v5 = 40 → Q 1 σ)))))
set_option maxRecDepth 100000 in
set_option maxHeartbeats 4000000 in
theorem hx_X5_faultOfPart (l : Launch) (G : kx_G) (l0 : Nat) (σ : kx_S) (Q : Int32 → kx_S → Prop) (h : wX5_faultOfPart l0 σ Q) : kx_M l G yX5_faultOfPart cX5_faultOfPart 1 (some .int) (6) (127) [.ref l0] σ (kx_ri Q) := by
  refine kx_enter (by decide) rfl (Nat.le_of_ble_eq_true rfl) ?_
  intro p e s m below meth c ls F hr hlocks C hname hl
  have hl : lv_has ls 1 [(0, .ref l0)] := hl
  obtain ⟨H, eH⟩ : ∃ z9, z9 = s.heap := ⟨_, rfl⟩
  obtain ⟨locs, eL⟩ : ∃ z9 : List Loc, z9 = [] := ⟨_, rfl⟩
  rw [← eH, ← eL] at C
  rw [← eH, ← eL]
  obtain ⟨σ0, e0⟩ : ∃ z9, z9 = σ := ⟨_, rfl⟩
  have C : kx_X G (xc σ0) s H locs σ := by rw [e0]; exact C
  suffices hgo : kx_W p l e (6) (127) (xc σ0) s m ([.ref l0] : List Value).toArray below meth c H locs σ (MQ below (kx_Q G σ0 (kx_ri Q)) ([.ref l0] : List Value).toArray s (kx_N - xc σ0) (600 * (kx_N - xc σ0)) (kx_A G)) (F0 m 0 ls []) by rw [e0] at hgo; exact hgo
  clear e0
  refine lv_aload_n F.1 F.2.1 dX5_faultOfPart_0 rfl (lv_at hl 0 rfl) ?_
  obtain ⟨ht1, h⟩ := h
  refine xg_X5_tokens F C ht1 ux_416 (fun _ h9 => h9) dX5_faultOfPart_1 ?_
  obtain ⟨a2, ea3, h⟩ := h
  refine xq_nn ea3 ?_
  obtain ⟨ht4, h⟩ := h
  refine xg_X10_kind F C ht4 ux_430 (fun _ h9 => h9) dX5_faultOfPart_4 ?_
  refine lv_topi (fun v5 ev5 => ?_)
  replace h := h v5 ev5
  by_cases c6 : v5 = 1
  · replace h := h.1 c6
    refine lv_lookup (off := 43) (tgt := 50) F.1 F.2.1 dX5_faultOfPart_7 (by decide) (by rw [c6]; decide) (by decide) ?_
    refine lv_aload_n F.1 F.2.1 dX5_faultOfPart_50 rfl (lv_at hl 0 rfl) ?_
    refine xk_X5_codeOfName F C l0 ht1 h ux_440 (Nat.le_of_ble_eq_true rfl) (Nat.le_of_ble_eq_true rfl) hl.1 (by simp [Value.category]) dX5_faultOfPart_51 (fun r8 σ7 H locs h C => ?_)
    refine lv_if_ne (tgt := 61) F.1 F.2.1 dX5_faultOfPart_54 (by decide) (fun c9 => ?_) (fun c9 => ?_)
    · replace h := h.1 c9
      refine lv_iconst (v := 0) F.1 F.2.1 dX5_faultOfPart_61 (by decide) ?_
      exact kx_iret F C hr hlocks h dX5_faultOfPart_62
    · replace h := h.2 c9
      refine lv_iconst (v := 3) F.1 F.2.1 dX5_faultOfPart_57 (by decide) ?_
      refine lv_goto (tgt := 62) F.1 F.2.1 dX5_faultOfPart_58 (by decide) ?_
      exact kx_iret F C hr hlocks h dX5_faultOfPart_62
  replace h := h.2
  by_cases c10 : v5 = 2
  · replace h := h.1 c10
    refine lv_lookup (off := 41) (tgt := 48) F.1 F.2.1 dX5_faultOfPart_7 (by decide) (by rw [c10]; decide) (by decide) ?_
    refine lv_iconst (v := 0) F.1 F.2.1 dX5_faultOfPart_48 (by decide) ?_
    exact kx_iret F C hr hlocks h dX5_faultOfPart_49
  replace h := h.2
  by_cases c11 : v5 = 3
  · replace h := h.1 c11
    refine lv_lookup (off := 56) (tgt := 63) F.1 F.2.1 dX5_faultOfPart_7 (by decide) (by rw [c11]; decide) (by decide) ?_
    refine lv_iconst (v := 2) F.1 F.2.1 dX5_faultOfPart_63 (by decide) ?_
    exact kx_iret F C hr hlocks h dX5_faultOfPart_64
  replace h := h.2
  by_cases c12 : v5 = 40
  · replace h := h.1 c12
    refine lv_lookup (off := 41) (tgt := 48) F.1 F.2.1 dX5_faultOfPart_7 (by decide) (by rw [c12]; decide) (by decide) ?_
    refine lv_iconst (v := 0) F.1 F.2.1 dX5_faultOfPart_48 (by decide) ?_
    exact kx_iret F C hr hlocks h dX5_faultOfPart_49
  replace h := h.2
  replace h := h c6 c10 c11 c12
  refine lv_lookup (off := 58) (tgt := 65) F.1 F.2.1 dX5_faultOfPart_7 (by decide) (by rw [lv_osw c6 (by decide)]; rw [lv_osw c10 (by decide)]; rw [lv_osw c11 (by decide)]; rw [lv_osw c12 (by decide)]; rfl) (by decide) ?_
  refine lv_iconst (v := 1) F.1 F.2.1 dX5_faultOfPart_65 (by decide) ?_
  exact kx_iret F C hr hlocks h dX5_faultOfPart_66
section
variable {p : Program} {l : Launch} {e : Env} {fr lo c0 : Nat} {s : State} {m : MethodId} {args : Array Value} {below : List Frame} {meth : Method} {c : Code} {H : Heap} {locs : List Loc} {Q : State → Prop}
variable {cc : ByteArray} {pc nL index : Nat} {ls : Array Slot} {rest : List Value} {G : kx_G} {σ : kx_S} {own : String}
theorem xk_X5_faultOfPart {P : Int32 → kx_S → Prop} (F : CallFix p m c cc nL s args kt_ own) (C : kx_X G c0 s H locs σ) (l0 : Nat) (ha : xt σ l0 = 7) (h : wX5_faultOfPart l0 σ P) (hw : Cond.methodLink own index yX5_faultOfPart ∈ kt_) (h1 : (6) + 1 ≤ fr) (h2 : 8 + (1 + 11) + (127) ≤ lo) (hsz : ls.size = nL) (hW : (rest.map fun v => v.category).sum ≤ 8) (hdg : decode cc pc = .ok (.invokevirtual index, 3)) (kk : ∀ (r : Int32) (u : kx_S) (H1 : Heap) (locs1 : List Loc), P r u → kx_X G c0 s H1 locs1 u → kx_W p l e fr lo c0 s m args below meth c H1 locs1 u Q (F0 m (pc + 3) ls (.int r :: rest))) : kx_W p l e fr lo c0 s m args below meth c H locs σ Q (F0 m pc ls (.ref l0 :: rest)) :=
  kx_cV (n := 0) (As := []) (Cn := RX5) F C (hx_X5_faultOfPart l G l0 σ P h) (kt_V hw ux_442 ux_443 ux_59 ux_441) (by decide +kernel) ⟨h1, h2⟩ (kx_recv C (by rw [ha]; decide) (kx_e7 ha) rfl) rfl hsz hW hdg (fun v u H1 locs1 hP9 C9 => by obtain ⟨r, hv, hp⟩ := hP9; subst hv; exact kk r u H1 locs1 hp C9)
end
theorem dX5_readPart_0 : decode cX5_readPart 0 = .ok (.aload_n 0, 1) := by decide +kernel
theorem dX5_readPart_1 : decode cX5_readPart 1 = .ok (.invokevirtual 73, 3) := by decide +kernel
theorem dX5_readPart_4 : decode cX5_readPart 4 = .ok (.istore_n 2, 1) := by decide +kernel
theorem dX5_readPart_5 : decode cX5_readPart 5 = .ok (.iload_n 2, 1) := by decide +kernel
theorem dX5_readPart_6 : decode cX5_readPart 6 = .ok (.ifCond .eq 11, 3) := by decide +kernel
theorem dX5_readPart_9 : decode cX5_readPart 9 = .ok (.aload_n 0, 1) := by decide +kernel
theorem dX5_readPart_10 : decode cX5_readPart 10 = .ok (.iload_n 2, 1) := by decide +kernel
theorem dX5_readPart_11 : decode cX5_readPart 11 = .ok (.invokevirtual 54, 3) := by decide +kernel
theorem dX5_readPart_14 : decode cX5_readPart 14 = .ok (.goto 74, 3) := by decide +kernel
theorem dX5_readPart_17 : decode cX5_readPart 17 = .ok (.aload_n 0, 1) := by decide +kernel
theorem dX5_readPart_18 : decode cX5_readPart 18 = .ok (.getfield 14, 3) := by decide +kernel
theorem dX5_readPart_21 : decode cX5_readPart 21 = .ok (.getfield 40, 3) := by decide +kernel
theorem dX5_readPart_24 : decode cX5_readPart 24 = .ok (.bipush 40, 2) := by decide +kernel
theorem dX5_readPart_26 : decode cX5_readPart 26 = .ok (.if_icmp .ne 26, 3) := by decide +kernel
theorem dX5_readPart_29 : decode cX5_readPart 29 = .ok (.aload_n 0, 1) := by decide +kernel
theorem dX5_readPart_30 : decode cX5_readPart 30 = .ok (.getfield 14, 3) := by decide +kernel
theorem dX5_readPart_33 : decode cX5_readPart 33 = .ok (.invokevirtual 57, 3) := by decide +kernel
theorem dX5_readPart_36 : decode cX5_readPart 36 = .ok (.aload_n 0, 1) := by decide +kernel
theorem dX5_readPart_37 : decode cX5_readPart 37 = .ok (.iload_n 1, 1) := by decide +kernel
theorem dX5_readPart_38 : decode cX5_readPart 38 = .ok (.iconst 1, 1) := by decide +kernel
theorem dX5_readPart_39 : decode cX5_readPart 39 = .ok (.iadd, 1) := by decide +kernel
theorem dX5_readPart_40 : decode cX5_readPart 40 = .ok (.invokevirtual 60, 3) := by decide +kernel
theorem dX5_readPart_43 : decode cX5_readPart 43 = .ok (.aload_n 0, 1) := by decide +kernel
theorem dX5_readPart_44 : decode cX5_readPart 44 = .ok (.bipush 41, 2) := by decide +kernel
theorem dX5_readPart_46 : decode cX5_readPart 46 = .ok (.invokevirtual 63, 3) := by decide +kernel
theorem dX5_readPart_49 : decode cX5_readPart 49 = .ok (.goto 39, 3) := by decide +kernel
theorem dX5_readPart_52 : decode cX5_readPart 52 = .ok (.aload_n 0, 1) := by decide +kernel
theorem dX5_readPart_53 : decode cX5_readPart 53 = .ok (.aload_n 0, 1) := by decide +kernel
theorem dX5_readPart_54 : decode cX5_readPart 54 = .ok (.getfield 14, 3) := by decide +kernel
theorem dX5_readPart_57 : decode cX5_readPart 57 = .ok (.getfield 40, 3) := by decide +kernel
theorem dX5_readPart_60 : decode cX5_readPart 60 = .ok (.iconst 2, 1) := by decide +kernel
theorem dX5_readPart_61 : decode cX5_readPart 61 = .ok (.if_icmp .ne 13, 3) := by decide +kernel
theorem dX5_readPart_64 : decode cX5_readPart 64 = .ok (.aload_n 0, 1) := by decide +kernel
theorem dX5_readPart_65 : decode cX5_readPart 65 = .ok (.getfield 14, 3) := by decide +kernel
theorem dX5_readPart_68 : decode cX5_readPart 68 = .ok (.invokevirtual 93, 3) := by decide +kernel
theorem dX5_readPart_71 : decode cX5_readPart 71 = .ok (.goto 7, 3) := by decide +kernel
theorem dX5_readPart_74 : decode cX5_readPart 74 = .ok (.aload_n 0, 1) := by decide +kernel
theorem dX5_readPart_75 : decode cX5_readPart 75 = .ok (.invokevirtual 96, 3) := by decide +kernel
theorem dX5_readPart_78 : decode cX5_readPart 78 = .ok (.invokevirtual 68, 3) := by decide +kernel
theorem dX5_readPart_81 : decode cX5_readPart 81 = .ok (.aload_n 0, 1) := by decide +kernel
theorem dX5_readPart_82 : decode cX5_readPart 82 = .ok (.getfield 14, 3) := by decide +kernel
theorem dX5_readPart_85 : decode cX5_readPart 85 = .ok (.invokevirtual 57, 3) := by decide +kernel
theorem dX5_readPart_88 : decode cX5_readPart 88 = .ok (.return_, 1) := by decide +kernel
def wX5_readPart_78 (re : Nat → Int32 → kx_S → (kx_S → Prop) → Prop) (Q : kx_S → Prop) (l0 : Nat) (s0 : Int32) (s1 : Nat) (σ : kx_S) : Prop := xt σ s1 = 7 ∧ wX5_put s1 s0 σ (fun σ1 => xt σ1 l0 = 7 ∧ ∃ a4, xr σ1 112 l0 = some a4 ∧ xt σ1 a4 = 12 ∧ wX10_advance a4 σ1 (fun σ6 => Q σ6))
def wX5_readPart (re : Nat → Int32 → kx_S → (kx_S → Prop) → Prop) (l0 : Nat) (l1 : Int32) (σ : kx_S) (Q : kx_S → Prop) : Prop := xt σ l0 = 7 ∧ wX5_faultOfPart l0 σ (fun r9 σ8 => ((r9 = 0 → xt σ8 l0 = 7 ∧ ∃ a13, xr σ8 112 l0 = some a13 ∧ xt σ8 a13 = 12 ∧ ((¬ (xi σ8 196 a13) = 40 → ∃ a17, xr σ8 112 l0 = some a17 ∧ xt σ8 a17 = 12 ∧ ((¬ (xi σ8 196 a17) = 2 → wX5_codeOfName l0 σ8 (fun r22 σ21 => wX5_readPart_78 re Q l0 r22 l0 σ21)) ∧
      ((xi σ8 196 a17) = 2 → ∃ a23, xr σ8 112 l0 = some a23 ∧ xt σ8 a23 = 12 ∧ wX10_numberValue a23 σ8 (fun r26 σ25 => wX5_readPart_78 re Q l0 r26 l0 σ25)))) ∧
    ((xi σ8 196 a13) = 40 → ∃ a28, xr σ8 112 l0 = some a28 ∧ xt σ8 a28 = 12 ∧ wX10_advance a28 σ8 (fun σ30 => xt σ30 l0 = 7 ∧ re l0 (l1 + 1) σ30 (fun σ32 => xt σ32 l0 = 7 ∧ wX5_pass l0 41 σ32 (fun σ34 => Q σ34)))))) ∧
  (¬ (r9 = 0) → xt σ8 l0 = 7 ∧ wX5_fail l0 r9 σ8 (fun σ36 => Q σ36))))
set_option maxRecDepth 100000 in
set_option maxHeartbeats 4000000 in
theorem tX5_readPart_78 (l : Launch) (G : kx_G) (σ0 : kx_S) (re : Nat → Int32 → kx_S → (kx_S → Prop) → Prop) (FR LO : Nat) (hre : ∀ (b : Nat) (a : Int32) (σ : kx_S) (P : kx_S → Prop), re b a σ P → kx_M l G yX5_readExpr cX5_readExpr 4 none FR LO [.ref b, .int a] σ (kx_rv P)) {p : Program} {e : Env} {s : State} {m : MethodId} {args : Array Value} {below : List Frame} {meth : Method} {c : Code} (F : CallFix p m c cX5_readPart 3 s args kt_ RX5) (hr : meth.sig.returnType = none) (hlocks : meth.locks = false) (Q : kx_S → Prop) : ∀ (l0 : Nat) (s0 : Int32) (s1 : Nat) (σ : kx_S) (H : Heap) (locs : List Loc) (ls : Array Slot), wX5_readPart_78 re Q l0 s0 s1 σ → kx_X G (xc σ0) s H locs σ → lv_has ls 3 [(0, .ref l0)] → kx_W p l e (FR + 7) (LO + 147) (xc σ0) s m args below meth c H locs σ (MQ below (kx_Q G σ0 (kx_rv Q)) args s (kx_N - xc σ0) (600 * (kx_N - xc σ0)) (kx_A G)) (F0 m 78 ls [.int s0, .ref s1]) := by
  intro l0 s0 s1 σ H locs ls h C hl
  obtain ⟨ht2, h⟩ := h
  refine xk_X5_put F C s1 s0 ht2 h ux_444 (by omega) (by omega) hl.1 (by simp [Value.category]) dX5_readPart_78 (fun σ1 H locs h C => ?_)
  refine lv_aload_n F.1 F.2.1 dX5_readPart_81 rfl (lv_at hl 0 rfl) ?_
  obtain ⟨ht3, h⟩ := h
  refine xg_X5_tokens F C ht3 ux_416 (fun _ h9 => h9) dX5_readPart_82 ?_
  obtain ⟨a4, ea5, h⟩ := h
  refine xq_nn ea5 ?_
  obtain ⟨ht7, h⟩ := h
  refine xk_X10_advance F C a4 ht7 h ux_431 (by omega) (by omega) hl.1 (by simp [Value.category]) dX5_readPart_85 (fun σ6 H locs h C => ?_)
  exact kx_vret F C hr hlocks h dX5_readPart_88
set_option maxRecDepth 100000 in
set_option maxHeartbeats 4000000 in
theorem hx_X5_readPart (l : Launch) (G : kx_G) (re : Nat → Int32 → kx_S → (kx_S → Prop) → Prop) (FR LO : Nat) (hre : ∀ (b : Nat) (a : Int32) (σ : kx_S) (P : kx_S → Prop), re b a σ P → kx_M l G yX5_readExpr cX5_readExpr 4 none FR LO [.ref b, .int a] σ (kx_rv P)) (l0 : Nat) (l1 : Int32) (σ : kx_S) (Q : kx_S → Prop) (h : wX5_readPart re l0 l1 σ Q) : kx_M l G yX5_readPart cX5_readPart 3 none (FR + 7) (LO + 147) [.ref l0, .int l1] σ (kx_rv Q) := by
  refine kx_enter (by decide) rfl (Nat.le_of_ble_eq_true rfl) ?_
  intro p e s m below meth c ls F hr hlocks C hname hl
  have hl : lv_has ls 3 [(0, .ref l0), (1, .int l1)] := hl
  obtain ⟨H, eH⟩ : ∃ z9, z9 = s.heap := ⟨_, rfl⟩
  obtain ⟨locs, eL⟩ : ∃ z9 : List Loc, z9 = [] := ⟨_, rfl⟩
  rw [← eH, ← eL] at C
  rw [← eH, ← eL]
  obtain ⟨σ0, e0⟩ : ∃ z9, z9 = σ := ⟨_, rfl⟩
  have C : kx_X G (xc σ0) s H locs σ := by rw [e0]; exact C
  suffices hgo : kx_W p l e (FR + 7) (LO + 147) (xc σ0) s m ([.ref l0, .int l1] : List Value).toArray below meth c H locs σ (MQ below (kx_Q G σ0 (kx_rv Q)) ([.ref l0, .int l1] : List Value).toArray s (kx_N - xc σ0) (600 * (kx_N - xc σ0)) (kx_A G)) (F0 m 0 ls []) by rw [e0] at hgo; exact hgo
  clear e0
  refine lv_aload_n F.1 F.2.1 dX5_readPart_0 rfl (lv_at hl 0 rfl) ?_
  obtain ⟨ht10, h⟩ := h
  refine xk_X5_faultOfPart F C l0 ht10 h ux_445 (by omega) (by omega) hl.1 (by simp [Value.category]) dX5_readPart_1 (fun r9 σ8 H locs h C => ?_)
  refine lv_istore_n (lv' := [(2, .int r9), (0, .ref l0), (1, .int l1)]) F.1 F.2.1 dX5_readPart_4 rfl hl (by decide) rfl (fun ls hl => ?_)
  refine lv_iload_n F.1 F.2.1 dX5_readPart_5 rfl (lv_at hl 0 rfl) ?_
  refine lv_if_eq (tgt := 17) F.1 F.2.1 dX5_readPart_6 (by decide) (fun c11 => ?_) (fun c11 => ?_)
  · replace h := h.1 c11
    refine lv_aload_n F.1 F.2.1 dX5_readPart_17 rfl (lv_at hl 1 rfl) ?_
    obtain ⟨ht12, h⟩ := h
    refine xg_X5_tokens F C ht12 ux_416 (fun _ h9 => h9) dX5_readPart_18 ?_
    obtain ⟨a13, ea14, h⟩ := h
    refine xq_nn ea14 ?_
    obtain ⟨ht15, h⟩ := h
    refine xg_X10_kind F C ht15 ux_430 (fun _ h9 => h9) dX5_readPart_21 ?_
    refine lv_bipush (v := 40) F.1 F.2.1 dX5_readPart_24 (by decide) ?_
    refine lv_icmp_ne (tgt := 52) F.1 F.2.1 dX5_readPart_26 (by decide) (fun c16 => ?_) (fun c16 => ?_)
    · replace h := h.1 c16
      refine lv_aload_n F.1 F.2.1 dX5_readPart_52 rfl (lv_at hl 1 rfl) ?_
      refine lv_aload_n F.1 F.2.1 dX5_readPart_53 rfl (lv_at hl 1 rfl) ?_
      refine xg_X5_tokens F C ht12 ux_416 (fun _ h9 => h9) dX5_readPart_54 ?_
      obtain ⟨a17, ea18, h⟩ := h
      refine xq_nn ea18 ?_
      obtain ⟨ht19, h⟩ := h
      refine xg_X10_kind F C ht19 ux_430 (fun _ h9 => h9) dX5_readPart_57 ?_
      refine lv_iconst (v := 2) F.1 F.2.1 dX5_readPart_60 (by decide) ?_
      refine lv_icmp_ne (tgt := 74) F.1 F.2.1 dX5_readPart_61 (by decide) (fun c20 => ?_) (fun c20 => ?_)
      · replace h := h.1 c20
        refine lv_aload_n F.1 F.2.1 dX5_readPart_74 rfl (lv_at hl 1 rfl) ?_
        refine xk_X5_codeOfName F C l0 ht12 h ux_440 (by omega) (by omega) hl.1 (by simp [Value.category]) dX5_readPart_75 (fun r22 σ21 H locs h C => ?_)
        exact tX5_readPart_78 l G σ0 re FR LO hre F hr hlocks Q l0 r22 l0 σ21 H locs ls h C (lv_sub hl [1] rfl)
      · replace h := h.2 c20
        refine lv_aload_n F.1 F.2.1 dX5_readPart_64 rfl (lv_at hl 1 rfl) ?_
        refine xg_X5_tokens F C ht12 ux_416 (fun _ h9 => h9) dX5_readPart_65 ?_
        obtain ⟨a23, ea24, h⟩ := h
        refine xq_nn ea24 ?_
        obtain ⟨ht27, h⟩ := h
        refine xk_X10_numberValue F C a23 ht27 h ux_446 (by omega) (by omega) hl.1 (by simp [Value.category]) dX5_readPart_68 (fun r26 σ25 H locs h C => ?_)
        refine lv_goto (tgt := 78) F.1 F.2.1 dX5_readPart_71 (by decide) ?_
        exact tX5_readPart_78 l G σ0 re FR LO hre F hr hlocks Q l0 r26 l0 σ25 H locs ls h C (lv_sub hl [1] rfl)
    · replace h := h.2 c16
      refine lv_aload_n F.1 F.2.1 dX5_readPart_29 rfl (lv_at hl 1 rfl) ?_
      refine xg_X5_tokens F C ht12 ux_416 (fun _ h9 => h9) dX5_readPart_30 ?_
      obtain ⟨a28, ea29, h⟩ := h
      refine xq_nn ea29 ?_
      obtain ⟨ht31, h⟩ := h
      refine xk_X10_advance F C a28 ht31 h ux_431 (by omega) (by omega) hl.1 (by simp [Value.category]) dX5_readPart_33 (fun σ30 H locs h C => ?_)
      refine lv_aload_n F.1 F.2.1 dX5_readPart_36 rfl (lv_at hl 1 rfl) ?_
      refine lv_iload_n F.1 F.2.1 dX5_readPart_37 rfl (lv_at hl 2 rfl) ?_
      refine lv_iconst (v := 1) F.1 F.2.1 dX5_readPart_38 (by decide) ?_
      refine lv_iadd (x := l1) (y := 1) F.1 F.2.1 dX5_readPart_39 ?_
      obtain ⟨ht33, h⟩ := h
      refine xk_X5_readExpr_re F C ht33 (hre l0 (l1 + 1) σ30 _ h) ux_447 (by omega) (by omega) hl.1 (by simp [Value.category]) dX5_readPart_40 (fun σ32 H locs h C => ?_)
      refine lv_aload_n F.1 F.2.1 dX5_readPart_43 rfl (lv_at hl 1 rfl) ?_
      refine lv_bipush (v := 41) F.1 F.2.1 dX5_readPart_44 (by decide) ?_
      obtain ⟨ht35, h⟩ := h
      refine xk_X5_pass F C l0 41 ht35 h ux_448 (by omega) (by omega) hl.1 (by simp [Value.category]) dX5_readPart_46 (fun σ34 H locs h C => ?_)
      refine lv_goto (tgt := 88) F.1 F.2.1 dX5_readPart_49 (by decide) ?_
      exact kx_vret F C hr hlocks h dX5_readPart_88
  · replace h := h.2 c11
    refine lv_aload_n F.1 F.2.1 dX5_readPart_9 rfl (lv_at hl 1 rfl) ?_
    refine lv_iload_n F.1 F.2.1 dX5_readPart_10 rfl (lv_at hl 0 rfl) ?_
    obtain ⟨ht37, h⟩ := h
    refine xk_X5_fail F C l0 r9 ht37 h ux_432 (by omega) (by omega) hl.1 (by simp [Value.category]) dX5_readPart_11 (fun σ36 H locs h C => ?_)
    refine lv_goto (tgt := 88) F.1 F.2.1 dX5_readPart_14 (by decide) ?_
    exact kx_vret F C hr hlocks h dX5_readPart_88
section
variable {p : Program} {l : Launch} {e : Env} {fr lo c0 : Nat} {s : State} {m : MethodId} {args : Array Value} {below : List Frame} {meth : Method} {c : Code} {H : Heap} {locs : List Loc} {Q : State → Prop}
variable {cc : ByteArray} {pc nL index : Nat} {ls : Array Slot} {rest : List Value} {G : kx_G} {σ : kx_S} {own : String}
theorem xk_X5_readPart {P : kx_S → Prop} (F : CallFix p m c cc nL s args kt_ own) (C : kx_X G c0 s H locs σ) (re : Nat → Int32 → kx_S → (kx_S → Prop) → Prop) (FR LO : Nat) (hre : ∀ (b : Nat) (a : Int32) (σ : kx_S) (P : kx_S → Prop), re b a σ P → kx_M l G yX5_readExpr cX5_readExpr 4 none FR LO [.ref b, .int a] σ (kx_rv P)) (l0 : Nat) (l1 : Int32) (ha : xt σ l0 = 7) (h : wX5_readPart re l0 l1 σ P) (hw : Cond.methodLink own index yX5_readPart ∈ kt_) (h1 : (FR + 7) + 1 ≤ fr) (h2 : 8 + (3 + 11) + (LO + 147) ≤ lo) (hsz : ls.size = nL) (hW : (rest.map fun v => v.category).sum ≤ 8) (hdg : decode cc pc = .ok (.invokevirtual index, 3)) (kk : ∀ (u : kx_S) (H1 : Heap) (locs1 : List Loc), P u → kx_X G c0 s H1 locs1 u → kx_W p l e fr lo c0 s m args below meth c H1 locs1 u Q (F0 m (pc + 3) ls rest)) : kx_W p l e fr lo c0 s m args below meth c H locs σ Q (F0 m pc ls (.int l1 :: .ref l0 :: rest)) :=
  kx_cV (n := 1) (As := [.int l1]) (Cn := RX5) F C (hx_X5_readPart l G re FR LO hre l0 l1 σ P h) (kt_V hw ux_450 ux_451 ux_59 ux_449) (by decide +kernel) ⟨h1, h2⟩ (kx_recv C (by rw [ha]; decide) (kx_e7 ha) rfl) rfl hsz hW hdg (fun v u H1 locs1 hP9 C9 => by obtain ⟨hv, hp⟩ := hP9; subst hv; exact kk u H1 locs1 hp C9)
end
theorem dX5_readTerm_0 : decode cX5_readTerm 0 = .ok (.aload_n 0, 1) := by decide +kernel
theorem dX5_readTerm_1 : decode cX5_readTerm 1 = .ok (.iload_n 1, 1) := by decide +kernel
theorem dX5_readTerm_2 : decode cX5_readTerm 2 = .ok (.invokevirtual 90, 3) := by decide +kernel
theorem dX5_readTerm_5 : decode cX5_readTerm 5 = .ok (.iconst 0, 1) := by decide +kernel
theorem dX5_readTerm_6 : decode cX5_readTerm 6 = .ok (.istore_n 2, 1) := by decide +kernel
theorem dX5_readTerm_7 : decode cX5_readTerm 7 = .ok (.iload_n 2, 1) := by decide +kernel
theorem dX5_readTerm_8 : decode cX5_readTerm 8 = .ok (.sipush 500, 3) := by decide +kernel
theorem dX5_readTerm_11 : decode cX5_readTerm 11 = .ok (.if_icmp .ge 66, 3) := by decide +kernel
theorem dX5_readTerm_14 : decode cX5_readTerm 14 = .ok (.aload_n 0, 1) := by decide +kernel
theorem dX5_readTerm_15 : decode cX5_readTerm 15 = .ok (.getfield 30, 3) := by decide +kernel
theorem dX5_readTerm_18 : decode cX5_readTerm 18 = .ok (.ifCond .ne 59, 3) := by decide +kernel
theorem dX5_readTerm_21 : decode cX5_readTerm 21 = .ok (.aload_n 0, 1) := by decide +kernel
theorem dX5_readTerm_22 : decode cX5_readTerm 22 = .ok (.getfield 14, 3) := by decide +kernel
theorem dX5_readTerm_25 : decode cX5_readTerm 25 = .ok (.getfield 40, 3) := by decide +kernel
theorem dX5_readTerm_28 : decode cX5_readTerm 28 = .ok (.istore_n 3, 1) := by decide +kernel
theorem dX5_readTerm_29 : decode cX5_readTerm 29 = .ok (.iload_n 3, 1) := by decide +kernel
theorem dX5_readTerm_30 : decode cX5_readTerm 30 = .ok (.bipush 42, 2) := by decide +kernel
theorem dX5_readTerm_32 : decode cX5_readTerm 32 = .ok (.if_icmp .eq 10, 3) := by decide +kernel
theorem dX5_readTerm_35 : decode cX5_readTerm 35 = .ok (.iload_n 3, 1) := by decide +kernel
theorem dX5_readTerm_36 : decode cX5_readTerm 36 = .ok (.bipush 47, 2) := by decide +kernel
theorem dX5_readTerm_38 : decode cX5_readTerm 38 = .ok (.if_icmp .eq 4, 3) := by decide +kernel
theorem dX5_readTerm_41 : decode cX5_readTerm 41 = .ok (.return_, 1) := by decide +kernel
theorem dX5_readTerm_42 : decode cX5_readTerm 42 = .ok (.aload_n 0, 1) := by decide +kernel
theorem dX5_readTerm_43 : decode cX5_readTerm 43 = .ok (.getfield 14, 3) := by decide +kernel
theorem dX5_readTerm_46 : decode cX5_readTerm 46 = .ok (.invokevirtual 57, 3) := by decide +kernel
theorem dX5_readTerm_49 : decode cX5_readTerm 49 = .ok (.aload_n 0, 1) := by decide +kernel
theorem dX5_readTerm_50 : decode cX5_readTerm 50 = .ok (.iload_n 1, 1) := by decide +kernel
theorem dX5_readTerm_51 : decode cX5_readTerm 51 = .ok (.invokevirtual 90, 3) := by decide +kernel
theorem dX5_readTerm_54 : decode cX5_readTerm 54 = .ok (.aload_n 0, 1) := by decide +kernel
theorem dX5_readTerm_55 : decode cX5_readTerm 55 = .ok (.iload_n 3, 1) := by decide +kernel
theorem dX5_readTerm_56 : decode cX5_readTerm 56 = .ok (.bipush 42, 2) := by decide +kernel
theorem dX5_readTerm_58 : decode cX5_readTerm 58 = .ok (.if_icmp .ne 8, 3) := by decide +kernel
theorem dX5_readTerm_61 : decode cX5_readTerm 61 = .ok (.bipush (-10), 2) := by decide +kernel
theorem dX5_readTerm_63 : decode cX5_readTerm 63 = .ok (.goto 5, 3) := by decide +kernel
theorem dX5_readTerm_66 : decode cX5_readTerm 66 = .ok (.bipush (-11), 2) := by decide +kernel
theorem dX5_readTerm_68 : decode cX5_readTerm 68 = .ok (.invokevirtual 68, 3) := by decide +kernel
theorem dX5_readTerm_71 : decode cX5_readTerm 71 = .ok (.iinc 2 1, 3) := by decide +kernel
theorem dX5_readTerm_74 : decode cX5_readTerm 74 = .ok (.goto (-67), 3) := by decide +kernel
theorem dX5_readTerm_77 : decode cX5_readTerm 77 = .ok (.return_, 1) := by decide +kernel
def wX5_readTerm_68 (re : Nat → Int32 → kx_S → (kx_S → Prop) → Prop) (k7 : Nat → Int32 → Int32 → kx_S → Prop) (Q : kx_S → Prop) (l0 : Nat) (l1 : Int32) (l2 : Int32) (s0 : Int32) (s1 : Nat) (σ : kx_S) : Prop := xt σ s1 = 7 ∧ wX5_put s1 s0 σ (fun σ1 => ∀ v3 : Int32, v3 = l2 + 1 → k7 l0 l1 v3 σ1)
def wX5_readTerm_42 (re : Nat → Int32 → kx_S → (kx_S → Prop) → Prop) (k7 : Nat → Int32 → Int32 → kx_S → Prop) (Q : kx_S → Prop) (l0 : Nat) (l1 : Int32) (l2 : Int32) (l3 : Int32) (σ : kx_S) : Prop := xt σ l0 = 7 ∧ ∃ a5, xr σ 112 l0 = some a5 ∧ xt σ a5 = 12 ∧ wX10_advance a5 σ (fun σ7 => xt σ7 l0 = 7 ∧ wX5_readPart re l0 l1 σ7 (fun σ9 => ((¬ l3 = 42 → wX5_readTerm_68 re k7 Q l0 l1 l2 (-11) l0 σ9) ∧
  (l3 = 42 → wX5_readTerm_68 re k7 Q l0 l1 l2 (-10) l0 σ9))))
def wX5_readTerm_7 (re : Nat → Int32 → kx_S → (kx_S → Prop) → Prop) (Q : kx_S → Prop) : Nat → Nat → Int32 → Int32 → kx_S → Prop
  | 0, _, _, _, _ => False
  | n + 1, l0, l1, l2, σ => ((500 ≤ l2 → Q σ) ∧
    (¬ (500 ≤ l2) → xt σ l0 = 7 ∧ ((¬ (xi σ 115 l0) = 0 → Q σ) ∧
      ((xi σ 115 l0) = 0 → ∃ a15, xr σ 112 l0 = some a15 ∧ xt σ a15 = 12 ∧ ∀ v18, v18 = xi σ 196 a15 → ((v18 = 42 → wX5_readTerm_42 re (wX5_readTerm_7 re Q n) Q l0 l1 l2 v18 σ) ∧
        (¬ (v18 = 42) → ((v18 = 47 → wX5_readTerm_42 re (wX5_readTerm_7 re Q n) Q l0 l1 l2 v18 σ) ∧
          (¬ (v18 = 47) → Q σ))))))))
def wX5_readTerm (re : Nat → Int32 → kx_S → (kx_S → Prop) → Prop) (l0 : Nat) (l1 : Int32) (σ : kx_S) (Q : kx_S → Prop) : Prop := xt σ l0 = 7 ∧ wX5_readPart re l0 l1 σ (fun σ21 => ∃ j, wX5_readTerm_7 re Q j l0 l1 0 σ21)
set_option maxRecDepth 100000 in
set_option maxHeartbeats 4000000 in
theorem tX5_readTerm_68 (l : Launch) (G : kx_G) (σ0 : kx_S) (re : Nat → Int32 → kx_S → (kx_S → Prop) → Prop) (FR LO : Nat) (hre : ∀ (b : Nat) (a : Int32) (σ : kx_S) (P : kx_S → Prop), re b a σ P → kx_M l G yX5_readExpr cX5_readExpr 4 none FR LO [.ref b, .int a] σ (kx_rv P)) {p : Program} {e : Env} {s : State} {m : MethodId} {args : Array Value} {below : List Frame} {meth : Method} {c : Code} (F : CallFix p m c cX5_readTerm 4 s args kt_ RX5) (hr : meth.sig.returnType = none) (hlocks : meth.locks = false) (Q : kx_S → Prop) (k7 : Nat → Int32 → Int32 → kx_S → Prop) (hk7 : ∀ (l0 : Nat) (l1 : Int32) (l2 : Int32) (σ : kx_S) (H : Heap) (locs : List Loc) (ls : Array Slot), k7 l0 l1 l2 σ → kx_X G (xc σ0) s H locs σ → lv_has ls 4 [(0, .ref l0), (1, .int l1), (2, .int l2)] → kx_W p l e (FR + 8) (LO + 169) (xc σ0) s m args below meth c H locs σ (MQ below (kx_Q G σ0 (kx_rv Q)) args s (kx_N - xc σ0) (600 * (kx_N - xc σ0)) (kx_A G)) (F0 m 7 ls [])) : ∀ (l0 : Nat) (l1 : Int32) (l2 : Int32) (s0 : Int32) (s1 : Nat) (σ : kx_S) (H : Heap) (locs : List Loc) (ls : Array Slot), wX5_readTerm_68 re k7 Q l0 l1 l2 s0 s1 σ → kx_X G (xc σ0) s H locs σ → lv_has ls 4 [(0, .ref l0), (1, .int l1), (2, .int l2)] → kx_W p l e (FR + 8) (LO + 169) (xc σ0) s m args below meth c H locs σ (MQ below (kx_Q G σ0 (kx_rv Q)) args s (kx_N - xc σ0) (600 * (kx_N - xc σ0)) (kx_A G)) (F0 m 68 ls [.int s0, .ref s1]) := by
  intro l0 l1 l2 s0 s1 σ H locs ls h C hl
  obtain ⟨ht2, h⟩ := h
  refine xk_X5_put F C s1 s0 ht2 h ux_444 (by omega) (by omega) hl.1 (by simp [Value.category]) dX5_readTerm_68 (fun σ1 H locs h C => ?_)
  obtain ⟨v3, ev3⟩ : ∃ z9 : Int32, z9 = l2 + 1 := ⟨_, rfl⟩
  replace h := h v3 ev3
  refine lv_iinc (v := v3) (lv' := [(2, .int v3), (0, .ref l0), (1, .int l1)]) F.1 F.2.1 dX5_readTerm_71 hl (k := 2) rfl (by rw [ev3]; rfl) (by decide) rfl (fun ls hl => ?_)
  refine lv_goto (tgt := 7) F.1 F.2.1 dX5_readTerm_74 (by decide) ?_
  exact hk7 l0 l1 v3 σ1 H locs ls h C (lv_sub hl [1, 2, 0] rfl)
set_option maxRecDepth 100000 in
set_option maxHeartbeats 4000000 in
theorem tX5_readTerm_42 (l : Launch) (G : kx_G) (σ0 : kx_S) (re : Nat → Int32 → kx_S → (kx_S → Prop) → Prop) (FR LO : Nat) (hre : ∀ (b : Nat) (a : Int32) (σ : kx_S) (P : kx_S → Prop), re b a σ P → kx_M l G yX5_readExpr cX5_readExpr 4 none FR LO [.ref b, .int a] σ (kx_rv P)) {p : Program} {e : Env} {s : State} {m : MethodId} {args : Array Value} {below : List Frame} {meth : Method} {c : Code} (F : CallFix p m c cX5_readTerm 4 s args kt_ RX5) (hr : meth.sig.returnType = none) (hlocks : meth.locks = false) (Q : kx_S → Prop) (k7 : Nat → Int32 → Int32 → kx_S → Prop) (hk7 : ∀ (l0 : Nat) (l1 : Int32) (l2 : Int32) (σ : kx_S) (H : Heap) (locs : List Loc) (ls : Array Slot), k7 l0 l1 l2 σ → kx_X G (xc σ0) s H locs σ → lv_has ls 4 [(0, .ref l0), (1, .int l1), (2, .int l2)] → kx_W p l e (FR + 8) (LO + 169) (xc σ0) s m args below meth c H locs σ (MQ below (kx_Q G σ0 (kx_rv Q)) args s (kx_N - xc σ0) (600 * (kx_N - xc σ0)) (kx_A G)) (F0 m 7 ls [])) : ∀ (l0 : Nat) (l1 : Int32) (l2 : Int32) (l3 : Int32) (σ : kx_S) (H : Heap) (locs : List Loc) (ls : Array Slot), wX5_readTerm_42 re k7 Q l0 l1 l2 l3 σ → kx_X G (xc σ0) s H locs σ → lv_has ls 4 [(0, .ref l0), (1, .int l1), (2, .int l2), (3, .int l3)] → kx_W p l e (FR + 8) (LO + 169) (xc σ0) s m args below meth c H locs σ (MQ below (kx_Q G σ0 (kx_rv Q)) args s (kx_N - xc σ0) (600 * (kx_N - xc σ0)) (kx_A G)) (F0 m 42 ls []) := by
  intro l0 l1 l2 l3 σ H locs ls h C hl
  refine lv_aload_n F.1 F.2.1 dX5_readTerm_42 rfl (lv_at hl 0 rfl) ?_
  obtain ⟨ht4, h⟩ := h
  refine xg_X5_tokens F C ht4 ux_416 (fun _ h9 => h9) dX5_readTerm_43 ?_
  obtain ⟨a5, ea6, h⟩ := h
  refine xq_nn ea6 ?_
  obtain ⟨ht8, h⟩ := h
  refine xk_X10_advance F C a5 ht8 h ux_431 (by omega) (by omega) hl.1 (by simp [Value.category]) dX5_readTerm_46 (fun σ7 H locs h C => ?_)
  refine lv_aload_n F.1 F.2.1 dX5_readTerm_49 rfl (lv_at hl 0 rfl) ?_
  refine lv_iload_n F.1 F.2.1 dX5_readTerm_50 rfl (lv_at hl 1 rfl) ?_
  obtain ⟨ht10, h⟩ := h
  refine xk_X5_readPart F C re FR LO hre l0 l1 ht10 h ux_452 (by omega) (by omega) hl.1 (by simp [Value.category]) dX5_readTerm_51 (fun σ9 H locs h C => ?_)
  refine lv_aload_n F.1 F.2.1 dX5_readTerm_54 rfl (lv_at hl 0 rfl) ?_
  refine lv_iload_n F.1 F.2.1 dX5_readTerm_55 rfl (lv_at hl 3 rfl) ?_
  refine lv_bipush (v := 42) F.1 F.2.1 dX5_readTerm_56 (by decide) ?_
  refine lv_icmp_ne (tgt := 66) F.1 F.2.1 dX5_readTerm_58 (by decide) (fun c11 => ?_) (fun c11 => ?_)
  · replace h := h.1 c11
    refine lv_bipush (v := (-11)) F.1 F.2.1 dX5_readTerm_66 (by decide) ?_
    exact tX5_readTerm_68 l G σ0 re FR LO hre F hr hlocks Q k7 hk7 l0 l1 l2 (-11) l0 σ9 H locs ls h C (lv_sub hl [0, 1, 2] rfl)
  · replace h := h.2 c11
    refine lv_bipush (v := (-10)) F.1 F.2.1 dX5_readTerm_61 (by decide) ?_
    refine lv_goto (tgt := 68) F.1 F.2.1 dX5_readTerm_63 (by decide) ?_
    exact tX5_readTerm_68 l G σ0 re FR LO hre F hr hlocks Q k7 hk7 l0 l1 l2 (-10) l0 σ9 H locs ls h C (lv_sub hl [0, 1, 2] rfl)
set_option maxRecDepth 100000 in
set_option maxHeartbeats 4000000 in
theorem tX5_readTerm_7 (l : Launch) (G : kx_G) (σ0 : kx_S) (re : Nat → Int32 → kx_S → (kx_S → Prop) → Prop) (FR LO : Nat) (hre : ∀ (b : Nat) (a : Int32) (σ : kx_S) (P : kx_S → Prop), re b a σ P → kx_M l G yX5_readExpr cX5_readExpr 4 none FR LO [.ref b, .int a] σ (kx_rv P)) {p : Program} {e : Env} {s : State} {m : MethodId} {args : Array Value} {below : List Frame} {meth : Method} {c : Code} (F : CallFix p m c cX5_readTerm 4 s args kt_ RX5) (hr : meth.sig.returnType = none) (hlocks : meth.locks = false) (Q : kx_S → Prop) : ∀ (n : Nat) (l0 : Nat) (l1 : Int32) (l2 : Int32) (σ : kx_S) (H : Heap) (locs : List Loc) (ls : Array Slot), wX5_readTerm_7 re Q n l0 l1 l2 σ → kx_X G (xc σ0) s H locs σ → lv_has ls 4 [(0, .ref l0), (1, .int l1), (2, .int l2)] → kx_W p l e (FR + 8) (LO + 169) (xc σ0) s m args below meth c H locs σ (MQ below (kx_Q G σ0 (kx_rv Q)) args s (kx_N - xc σ0) (600 * (kx_N - xc σ0)) (kx_A G)) (F0 m 7 ls []) := by
  intro n
  induction n with
  | zero => intro l0 l1 l2 σ H locs ls h; exact h.elim
  | succ n ih =>
    intro l0 l1 l2 σ H locs ls h C hl
    refine lv_iload_n F.1 F.2.1 dX5_readTerm_7 rfl (lv_at hl 2 rfl) ?_
    refine lv_sipush (v := 500) F.1 F.2.1 dX5_readTerm_8 (by decide) ?_
    refine lv_icmp_ge (tgt := 77) F.1 F.2.1 dX5_readTerm_11 (by decide) (fun c12 => ?_) (fun c12 => ?_)
    · replace h := h.1 c12
      exact kx_vret F C hr hlocks h dX5_readTerm_77
    · replace h := h.2 c12
      refine lv_aload_n F.1 F.2.1 dX5_readTerm_14 rfl (lv_at hl 0 rfl) ?_
      obtain ⟨ht13, h⟩ := h
      refine xg_X5_fault F C ht13 ux_424 (fun _ h9 => h9) dX5_readTerm_15 ?_
      refine lv_if_ne (tgt := 77) F.1 F.2.1 dX5_readTerm_18 (by decide) (fun c14 => ?_) (fun c14 => ?_)
      · replace h := h.1 c14
        exact kx_vret F C hr hlocks h dX5_readTerm_77
      · replace h := h.2 c14
        refine lv_aload_n F.1 F.2.1 dX5_readTerm_21 rfl (lv_at hl 0 rfl) ?_
        refine xg_X5_tokens F C ht13 ux_416 (fun _ h9 => h9) dX5_readTerm_22 ?_
        obtain ⟨a15, ea16, h⟩ := h
        refine xq_nn ea16 ?_
        obtain ⟨ht17, h⟩ := h
        refine xg_X10_kind F C ht17 ux_430 (fun _ h9 => h9) dX5_readTerm_25 ?_
        refine lv_topi (fun v18 ev18 => ?_)
        replace h := h v18 ev18
        refine lv_istore_n (lv' := [(3, .int v18), (0, .ref l0), (1, .int l1), (2, .int l2)]) F.1 F.2.1 dX5_readTerm_28 rfl hl (by decide) rfl (fun ls hl => ?_)
        refine lv_iload_n F.1 F.2.1 dX5_readTerm_29 rfl (lv_at hl 0 rfl) ?_
        refine lv_bipush (v := 42) F.1 F.2.1 dX5_readTerm_30 (by decide) ?_
        refine lv_icmp_eq (tgt := 42) F.1 F.2.1 dX5_readTerm_32 (by decide) (fun c19 => ?_) (fun c19 => ?_)
        · replace h := h.1 c19
          exact tX5_readTerm_42 l G σ0 re FR LO hre F hr hlocks Q (wX5_readTerm_7 re Q n) (fun l0 l1 l2 σ9 H locs ls h C hl => ih l0 l1 l2 σ9 H locs ls h C hl) l0 l1 l2 v18 σ H locs ls h C (lv_sub hl [1, 2, 3, 0] rfl)
        · replace h := h.2 c19
          refine lv_iload_n F.1 F.2.1 dX5_readTerm_35 rfl (lv_at hl 0 rfl) ?_
          refine lv_bipush (v := 47) F.1 F.2.1 dX5_readTerm_36 (by decide) ?_
          refine lv_icmp_eq (tgt := 42) F.1 F.2.1 dX5_readTerm_38 (by decide) (fun c20 => ?_) (fun c20 => ?_)
          · replace h := h.1 c20
            exact tX5_readTerm_42 l G σ0 re FR LO hre F hr hlocks Q (wX5_readTerm_7 re Q n) (fun l0 l1 l2 σ9 H locs ls h C hl => ih l0 l1 l2 σ9 H locs ls h C hl) l0 l1 l2 v18 σ H locs ls h C (lv_sub hl [1, 2, 3, 0] rfl)
          · replace h := h.2 c20
            exact kx_vret F C hr hlocks h dX5_readTerm_41
set_option maxRecDepth 100000 in
set_option maxHeartbeats 4000000 in
theorem hx_X5_readTerm (l : Launch) (G : kx_G) (re : Nat → Int32 → kx_S → (kx_S → Prop) → Prop) (FR LO : Nat) (hre : ∀ (b : Nat) (a : Int32) (σ : kx_S) (P : kx_S → Prop), re b a σ P → kx_M l G yX5_readExpr cX5_readExpr 4 none FR LO [.ref b, .int a] σ (kx_rv P)) (l0 : Nat) (l1 : Int32) (σ : kx_S) (Q : kx_S → Prop) (h : wX5_readTerm re l0 l1 σ Q) : kx_M l G yX5_readTerm cX5_readTerm 4 none (FR + 8) (LO + 169) [.ref l0, .int l1] σ (kx_rv Q) := by
  refine kx_enter (by decide) rfl (Nat.le_of_ble_eq_true rfl) ?_
  intro p e s m below meth c ls F hr hlocks C hname hl
  have hl : lv_has ls 4 [(0, .ref l0), (1, .int l1)] := hl
  obtain ⟨H, eH⟩ : ∃ z9, z9 = s.heap := ⟨_, rfl⟩
  obtain ⟨locs, eL⟩ : ∃ z9 : List Loc, z9 = [] := ⟨_, rfl⟩
  rw [← eH, ← eL] at C
  rw [← eH, ← eL]
  obtain ⟨σ0, e0⟩ : ∃ z9, z9 = σ := ⟨_, rfl⟩
  have C : kx_X G (xc σ0) s H locs σ := by rw [e0]; exact C
  suffices hgo : kx_W p l e (FR + 8) (LO + 169) (xc σ0) s m ([.ref l0, .int l1] : List Value).toArray below meth c H locs σ (MQ below (kx_Q G σ0 (kx_rv Q)) ([.ref l0, .int l1] : List Value).toArray s (kx_N - xc σ0) (600 * (kx_N - xc σ0)) (kx_A G)) (F0 m 0 ls []) by rw [e0] at hgo; exact hgo
  clear e0
  refine lv_aload_n F.1 F.2.1 dX5_readTerm_0 rfl (lv_at hl 0 rfl) ?_
  refine lv_iload_n F.1 F.2.1 dX5_readTerm_1 rfl (lv_at hl 1 rfl) ?_
  obtain ⟨ht22, h⟩ := h
  refine xk_X5_readPart F C re FR LO hre l0 l1 ht22 h ux_452 (by omega) (by omega) hl.1 (by simp [Value.category]) dX5_readTerm_2 (fun σ21 H locs h C => ?_)
  refine lv_iconst (v := 0) F.1 F.2.1 dX5_readTerm_5 (by decide) ?_
  refine lv_istore_n (lv' := [(2, .int 0), (0, .ref l0), (1, .int l1)]) F.1 F.2.1 dX5_readTerm_6 rfl hl (by decide) rfl (fun ls hl => ?_)
  obtain ⟨n23, h⟩ := h
  exact tX5_readTerm_7 l G σ0 re FR LO hre F hr hlocks Q n23 l0 l1 0 σ21 H locs ls h C (lv_sub hl [1, 2, 0] rfl)
section
variable {p : Program} {l : Launch} {e : Env} {fr lo c0 : Nat} {s : State} {m : MethodId} {args : Array Value} {below : List Frame} {meth : Method} {c : Code} {H : Heap} {locs : List Loc} {Q : State → Prop}
variable {cc : ByteArray} {pc nL index : Nat} {ls : Array Slot} {rest : List Value} {G : kx_G} {σ : kx_S} {own : String}
theorem xk_X5_readTerm {P : kx_S → Prop} (F : CallFix p m c cc nL s args kt_ own) (C : kx_X G c0 s H locs σ) (re : Nat → Int32 → kx_S → (kx_S → Prop) → Prop) (FR LO : Nat) (hre : ∀ (b : Nat) (a : Int32) (σ : kx_S) (P : kx_S → Prop), re b a σ P → kx_M l G yX5_readExpr cX5_readExpr 4 none FR LO [.ref b, .int a] σ (kx_rv P)) (l0 : Nat) (l1 : Int32) (ha : xt σ l0 = 7) (h : wX5_readTerm re l0 l1 σ P) (hw : Cond.methodLink own index yX5_readTerm ∈ kt_) (h1 : (FR + 8) + 1 ≤ fr) (h2 : 8 + (4 + 11) + (LO + 169) ≤ lo) (hsz : ls.size = nL) (hW : (rest.map fun v => v.category).sum ≤ 8) (hdg : decode cc pc = .ok (.invokevirtual index, 3)) (kk : ∀ (u : kx_S) (H1 : Heap) (locs1 : List Loc), P u → kx_X G c0 s H1 locs1 u → kx_W p l e fr lo c0 s m args below meth c H1 locs1 u Q (F0 m (pc + 3) ls rest)) : kx_W p l e fr lo c0 s m args below meth c H locs σ Q (F0 m pc ls (.int l1 :: .ref l0 :: rest)) :=
  kx_cV (n := 1) (As := [.int l1]) (Cn := RX5) F C (hx_X5_readTerm l G re FR LO hre l0 l1 σ P h) (kt_V hw ux_454 ux_455 ux_59 ux_453) (by decide +kernel) ⟨h1, h2⟩ (kx_recv C (by rw [ha]; decide) (kx_e7 ha) rfl) rfl hsz hW hdg (fun v u H1 locs1 hP9 C9 => by obtain ⟨hv, hp⟩ := hP9; subst hv; exact kk u H1 locs1 hp C9)
end
theorem dX5_readSum_0 : decode cX5_readSum 0 = .ok (.aload_n 0, 1) := by decide +kernel
theorem dX5_readSum_1 : decode cX5_readSum 1 = .ok (.iload_n 1, 1) := by decide +kernel
theorem dX5_readSum_2 : decode cX5_readSum 2 = .ok (.invokevirtual 87, 3) := by decide +kernel
theorem dX5_readSum_5 : decode cX5_readSum 5 = .ok (.iconst 0, 1) := by decide +kernel
theorem dX5_readSum_6 : decode cX5_readSum 6 = .ok (.istore_n 2, 1) := by decide +kernel
theorem dX5_readSum_7 : decode cX5_readSum 7 = .ok (.iload_n 2, 1) := by decide +kernel
theorem dX5_readSum_8 : decode cX5_readSum 8 = .ok (.sipush 500, 3) := by decide +kernel
theorem dX5_readSum_11 : decode cX5_readSum 11 = .ok (.if_icmp .ge 66, 3) := by decide +kernel
theorem dX5_readSum_14 : decode cX5_readSum 14 = .ok (.aload_n 0, 1) := by decide +kernel
theorem dX5_readSum_15 : decode cX5_readSum 15 = .ok (.getfield 30, 3) := by decide +kernel
theorem dX5_readSum_18 : decode cX5_readSum 18 = .ok (.ifCond .ne 59, 3) := by decide +kernel
theorem dX5_readSum_21 : decode cX5_readSum 21 = .ok (.aload_n 0, 1) := by decide +kernel
theorem dX5_readSum_22 : decode cX5_readSum 22 = .ok (.getfield 14, 3) := by decide +kernel
theorem dX5_readSum_25 : decode cX5_readSum 25 = .ok (.getfield 40, 3) := by decide +kernel
theorem dX5_readSum_28 : decode cX5_readSum 28 = .ok (.istore_n 3, 1) := by decide +kernel
theorem dX5_readSum_29 : decode cX5_readSum 29 = .ok (.iload_n 3, 1) := by decide +kernel
theorem dX5_readSum_30 : decode cX5_readSum 30 = .ok (.bipush 43, 2) := by decide +kernel
theorem dX5_readSum_32 : decode cX5_readSum 32 = .ok (.if_icmp .eq 10, 3) := by decide +kernel
theorem dX5_readSum_35 : decode cX5_readSum 35 = .ok (.iload_n 3, 1) := by decide +kernel
theorem dX5_readSum_36 : decode cX5_readSum 36 = .ok (.bipush 45, 2) := by decide +kernel
theorem dX5_readSum_38 : decode cX5_readSum 38 = .ok (.if_icmp .eq 4, 3) := by decide +kernel
theorem dX5_readSum_41 : decode cX5_readSum 41 = .ok (.return_, 1) := by decide +kernel
theorem dX5_readSum_42 : decode cX5_readSum 42 = .ok (.aload_n 0, 1) := by decide +kernel
theorem dX5_readSum_43 : decode cX5_readSum 43 = .ok (.getfield 14, 3) := by decide +kernel
theorem dX5_readSum_46 : decode cX5_readSum 46 = .ok (.invokevirtual 57, 3) := by decide +kernel
theorem dX5_readSum_49 : decode cX5_readSum 49 = .ok (.aload_n 0, 1) := by decide +kernel
theorem dX5_readSum_50 : decode cX5_readSum 50 = .ok (.iload_n 1, 1) := by decide +kernel
theorem dX5_readSum_51 : decode cX5_readSum 51 = .ok (.invokevirtual 87, 3) := by decide +kernel
theorem dX5_readSum_54 : decode cX5_readSum 54 = .ok (.aload_n 0, 1) := by decide +kernel
theorem dX5_readSum_55 : decode cX5_readSum 55 = .ok (.iload_n 3, 1) := by decide +kernel
theorem dX5_readSum_56 : decode cX5_readSum 56 = .ok (.bipush 43, 2) := by decide +kernel
theorem dX5_readSum_58 : decode cX5_readSum 58 = .ok (.if_icmp .ne 8, 3) := by decide +kernel
theorem dX5_readSum_61 : decode cX5_readSum 61 = .ok (.bipush (-8), 2) := by decide +kernel
theorem dX5_readSum_63 : decode cX5_readSum 63 = .ok (.goto 5, 3) := by decide +kernel
theorem dX5_readSum_66 : decode cX5_readSum 66 = .ok (.bipush (-9), 2) := by decide +kernel
theorem dX5_readSum_68 : decode cX5_readSum 68 = .ok (.invokevirtual 68, 3) := by decide +kernel
theorem dX5_readSum_71 : decode cX5_readSum 71 = .ok (.iinc 2 1, 3) := by decide +kernel
theorem dX5_readSum_74 : decode cX5_readSum 74 = .ok (.goto (-67), 3) := by decide +kernel
theorem dX5_readSum_77 : decode cX5_readSum 77 = .ok (.return_, 1) := by decide +kernel
def wX5_readSum_68 (re : Nat → Int32 → kx_S → (kx_S → Prop) → Prop) (k7 : Nat → Int32 → Int32 → kx_S → Prop) (Q : kx_S → Prop) (l0 : Nat) (l1 : Int32) (l2 : Int32) (s0 : Int32) (s1 : Nat) (σ : kx_S) : Prop := xt σ s1 = 7 ∧ wX5_put s1 s0 σ (fun σ1 => ∀ v3 : Int32, v3 = l2 + 1 → k7 l0 l1 v3 σ1)
def wX5_readSum_42 (re : Nat → Int32 → kx_S → (kx_S → Prop) → Prop) (k7 : Nat → Int32 → Int32 → kx_S → Prop) (Q : kx_S → Prop) (l0 : Nat) (l1 : Int32) (l2 : Int32) (l3 : Int32) (σ : kx_S) : Prop := xt σ l0 = 7 ∧ ∃ a5, xr σ 112 l0 = some a5 ∧ xt σ a5 = 12 ∧ wX10_advance a5 σ (fun σ7 => xt σ7 l0 = 7 ∧ wX5_readTerm re l0 l1 σ7 (fun σ9 => ((¬ l3 = 43 → wX5_readSum_68 re k7 Q l0 l1 l2 (-9) l0 σ9) ∧
  (l3 = 43 → wX5_readSum_68 re k7 Q l0 l1 l2 (-8) l0 σ9))))
def wX5_readSum_7 (re : Nat → Int32 → kx_S → (kx_S → Prop) → Prop) (Q : kx_S → Prop) : Nat → Nat → Int32 → Int32 → kx_S → Prop
  | 0, _, _, _, _ => False
  | n + 1, l0, l1, l2, σ => ((500 ≤ l2 → Q σ) ∧
    (¬ (500 ≤ l2) → xt σ l0 = 7 ∧ ((¬ (xi σ 115 l0) = 0 → Q σ) ∧
      ((xi σ 115 l0) = 0 → ∃ a15, xr σ 112 l0 = some a15 ∧ xt σ a15 = 12 ∧ ∀ v18, v18 = xi σ 196 a15 → ((v18 = 43 → wX5_readSum_42 re (wX5_readSum_7 re Q n) Q l0 l1 l2 v18 σ) ∧
        (¬ (v18 = 43) → ((v18 = 45 → wX5_readSum_42 re (wX5_readSum_7 re Q n) Q l0 l1 l2 v18 σ) ∧
          (¬ (v18 = 45) → Q σ))))))))
def wX5_readSum (re : Nat → Int32 → kx_S → (kx_S → Prop) → Prop) (l0 : Nat) (l1 : Int32) (σ : kx_S) (Q : kx_S → Prop) : Prop := xt σ l0 = 7 ∧ wX5_readTerm re l0 l1 σ (fun σ21 => ∃ j, wX5_readSum_7 re Q j l0 l1 0 σ21)
set_option maxRecDepth 100000 in
set_option maxHeartbeats 4000000 in
theorem tX5_readSum_68 (l : Launch) (G : kx_G) (σ0 : kx_S) (re : Nat → Int32 → kx_S → (kx_S → Prop) → Prop) (FR LO : Nat) (hre : ∀ (b : Nat) (a : Int32) (σ : kx_S) (P : kx_S → Prop), re b a σ P → kx_M l G yX5_readExpr cX5_readExpr 4 none FR LO [.ref b, .int a] σ (kx_rv P)) {p : Program} {e : Env} {s : State} {m : MethodId} {args : Array Value} {below : List Frame} {meth : Method} {c : Code} (F : CallFix p m c cX5_readSum 4 s args kt_ RX5) (hr : meth.sig.returnType = none) (hlocks : meth.locks = false) (Q : kx_S → Prop) (k7 : Nat → Int32 → Int32 → kx_S → Prop) (hk7 : ∀ (l0 : Nat) (l1 : Int32) (l2 : Int32) (σ : kx_S) (H : Heap) (locs : List Loc) (ls : Array Slot), k7 l0 l1 l2 σ → kx_X G (xc σ0) s H locs σ → lv_has ls 4 [(0, .ref l0), (1, .int l1), (2, .int l2)] → kx_W p l e (FR + 9) (LO + 192) (xc σ0) s m args below meth c H locs σ (MQ below (kx_Q G σ0 (kx_rv Q)) args s (kx_N - xc σ0) (600 * (kx_N - xc σ0)) (kx_A G)) (F0 m 7 ls [])) : ∀ (l0 : Nat) (l1 : Int32) (l2 : Int32) (s0 : Int32) (s1 : Nat) (σ : kx_S) (H : Heap) (locs : List Loc) (ls : Array Slot), wX5_readSum_68 re k7 Q l0 l1 l2 s0 s1 σ → kx_X G (xc σ0) s H locs σ → lv_has ls 4 [(0, .ref l0), (1, .int l1), (2, .int l2)] → kx_W p l e (FR + 9) (LO + 192) (xc σ0) s m args below meth c H locs σ (MQ below (kx_Q G σ0 (kx_rv Q)) args s (kx_N - xc σ0) (600 * (kx_N - xc σ0)) (kx_A G)) (F0 m 68 ls [.int s0, .ref s1]) := by
  intro l0 l1 l2 s0 s1 σ H locs ls h C hl
  obtain ⟨ht2, h⟩ := h
  refine xk_X5_put F C s1 s0 ht2 h ux_444 (by omega) (by omega) hl.1 (by simp [Value.category]) dX5_readSum_68 (fun σ1 H locs h C => ?_)
  obtain ⟨v3, ev3⟩ : ∃ z9 : Int32, z9 = l2 + 1 := ⟨_, rfl⟩
  replace h := h v3 ev3
  refine lv_iinc (v := v3) (lv' := [(2, .int v3), (0, .ref l0), (1, .int l1)]) F.1 F.2.1 dX5_readSum_71 hl (k := 2) rfl (by rw [ev3]; rfl) (by decide) rfl (fun ls hl => ?_)
  refine lv_goto (tgt := 7) F.1 F.2.1 dX5_readSum_74 (by decide) ?_
  exact hk7 l0 l1 v3 σ1 H locs ls h C (lv_sub hl [1, 2, 0] rfl)
set_option maxRecDepth 100000 in
set_option maxHeartbeats 4000000 in
theorem tX5_readSum_42 (l : Launch) (G : kx_G) (σ0 : kx_S) (re : Nat → Int32 → kx_S → (kx_S → Prop) → Prop) (FR LO : Nat) (hre : ∀ (b : Nat) (a : Int32) (σ : kx_S) (P : kx_S → Prop), re b a σ P → kx_M l G yX5_readExpr cX5_readExpr 4 none FR LO [.ref b, .int a] σ (kx_rv P)) {p : Program} {e : Env} {s : State} {m : MethodId} {args : Array Value} {below : List Frame} {meth : Method} {c : Code} (F : CallFix p m c cX5_readSum 4 s args kt_ RX5) (hr : meth.sig.returnType = none) (hlocks : meth.locks = false) (Q : kx_S → Prop) (k7 : Nat → Int32 → Int32 → kx_S → Prop) (hk7 : ∀ (l0 : Nat) (l1 : Int32) (l2 : Int32) (σ : kx_S) (H : Heap) (locs : List Loc) (ls : Array Slot), k7 l0 l1 l2 σ → kx_X G (xc σ0) s H locs σ → lv_has ls 4 [(0, .ref l0), (1, .int l1), (2, .int l2)] → kx_W p l e (FR + 9) (LO + 192) (xc σ0) s m args below meth c H locs σ (MQ below (kx_Q G σ0 (kx_rv Q)) args s (kx_N - xc σ0) (600 * (kx_N - xc σ0)) (kx_A G)) (F0 m 7 ls [])) : ∀ (l0 : Nat) (l1 : Int32) (l2 : Int32) (l3 : Int32) (σ : kx_S) (H : Heap) (locs : List Loc) (ls : Array Slot), wX5_readSum_42 re k7 Q l0 l1 l2 l3 σ → kx_X G (xc σ0) s H locs σ → lv_has ls 4 [(0, .ref l0), (1, .int l1), (2, .int l2), (3, .int l3)] → kx_W p l e (FR + 9) (LO + 192) (xc σ0) s m args below meth c H locs σ (MQ below (kx_Q G σ0 (kx_rv Q)) args s (kx_N - xc σ0) (600 * (kx_N - xc σ0)) (kx_A G)) (F0 m 42 ls []) := by
  intro l0 l1 l2 l3 σ H locs ls h C hl
  refine lv_aload_n F.1 F.2.1 dX5_readSum_42 rfl (lv_at hl 0 rfl) ?_
  obtain ⟨ht4, h⟩ := h
  refine xg_X5_tokens F C ht4 ux_416 (fun _ h9 => h9) dX5_readSum_43 ?_
  obtain ⟨a5, ea6, h⟩ := h
  refine xq_nn ea6 ?_
  obtain ⟨ht8, h⟩ := h
  refine xk_X10_advance F C a5 ht8 h ux_431 (by omega) (by omega) hl.1 (by simp [Value.category]) dX5_readSum_46 (fun σ7 H locs h C => ?_)
  refine lv_aload_n F.1 F.2.1 dX5_readSum_49 rfl (lv_at hl 0 rfl) ?_
  refine lv_iload_n F.1 F.2.1 dX5_readSum_50 rfl (lv_at hl 1 rfl) ?_
  obtain ⟨ht10, h⟩ := h
  refine xk_X5_readTerm F C re FR LO hre l0 l1 ht10 h ux_456 (by omega) (by omega) hl.1 (by simp [Value.category]) dX5_readSum_51 (fun σ9 H locs h C => ?_)
  refine lv_aload_n F.1 F.2.1 dX5_readSum_54 rfl (lv_at hl 0 rfl) ?_
  refine lv_iload_n F.1 F.2.1 dX5_readSum_55 rfl (lv_at hl 3 rfl) ?_
  refine lv_bipush (v := 43) F.1 F.2.1 dX5_readSum_56 (by decide) ?_
  refine lv_icmp_ne (tgt := 66) F.1 F.2.1 dX5_readSum_58 (by decide) (fun c11 => ?_) (fun c11 => ?_)
  · replace h := h.1 c11
    refine lv_bipush (v := (-9)) F.1 F.2.1 dX5_readSum_66 (by decide) ?_
    exact tX5_readSum_68 l G σ0 re FR LO hre F hr hlocks Q k7 hk7 l0 l1 l2 (-9) l0 σ9 H locs ls h C (lv_sub hl [0, 1, 2] rfl)
  · replace h := h.2 c11
    refine lv_bipush (v := (-8)) F.1 F.2.1 dX5_readSum_61 (by decide) ?_
    refine lv_goto (tgt := 68) F.1 F.2.1 dX5_readSum_63 (by decide) ?_
    exact tX5_readSum_68 l G σ0 re FR LO hre F hr hlocks Q k7 hk7 l0 l1 l2 (-8) l0 σ9 H locs ls h C (lv_sub hl [0, 1, 2] rfl)
set_option maxRecDepth 100000 in
set_option maxHeartbeats 4000000 in
theorem tX5_readSum_7 (l : Launch) (G : kx_G) (σ0 : kx_S) (re : Nat → Int32 → kx_S → (kx_S → Prop) → Prop) (FR LO : Nat) (hre : ∀ (b : Nat) (a : Int32) (σ : kx_S) (P : kx_S → Prop), re b a σ P → kx_M l G yX5_readExpr cX5_readExpr 4 none FR LO [.ref b, .int a] σ (kx_rv P)) {p : Program} {e : Env} {s : State} {m : MethodId} {args : Array Value} {below : List Frame} {meth : Method} {c : Code} (F : CallFix p m c cX5_readSum 4 s args kt_ RX5) (hr : meth.sig.returnType = none) (hlocks : meth.locks = false) (Q : kx_S → Prop) : ∀ (n : Nat) (l0 : Nat) (l1 : Int32) (l2 : Int32) (σ : kx_S) (H : Heap) (locs : List Loc) (ls : Array Slot), wX5_readSum_7 re Q n l0 l1 l2 σ → kx_X G (xc σ0) s H locs σ → lv_has ls 4 [(0, .ref l0), (1, .int l1), (2, .int l2)] → kx_W p l e (FR + 9) (LO + 192) (xc σ0) s m args below meth c H locs σ (MQ below (kx_Q G σ0 (kx_rv Q)) args s (kx_N - xc σ0) (600 * (kx_N - xc σ0)) (kx_A G)) (F0 m 7 ls []) := by
  intro n
  induction n with
  | zero => intro l0 l1 l2 σ H locs ls h; exact h.elim
  | succ n ih =>
    intro l0 l1 l2 σ H locs ls h C hl
    refine lv_iload_n F.1 F.2.1 dX5_readSum_7 rfl (lv_at hl 2 rfl) ?_
    refine lv_sipush (v := 500) F.1 F.2.1 dX5_readSum_8 (by decide) ?_
    refine lv_icmp_ge (tgt := 77) F.1 F.2.1 dX5_readSum_11 (by decide) (fun c12 => ?_) (fun c12 => ?_)
    · replace h := h.1 c12
      exact kx_vret F C hr hlocks h dX5_readSum_77
    · replace h := h.2 c12
      refine lv_aload_n F.1 F.2.1 dX5_readSum_14 rfl (lv_at hl 0 rfl) ?_
      obtain ⟨ht13, h⟩ := h
      refine xg_X5_fault F C ht13 ux_424 (fun _ h9 => h9) dX5_readSum_15 ?_
      refine lv_if_ne (tgt := 77) F.1 F.2.1 dX5_readSum_18 (by decide) (fun c14 => ?_) (fun c14 => ?_)
      · replace h := h.1 c14
        exact kx_vret F C hr hlocks h dX5_readSum_77
      · replace h := h.2 c14
        refine lv_aload_n F.1 F.2.1 dX5_readSum_21 rfl (lv_at hl 0 rfl) ?_
        refine xg_X5_tokens F C ht13 ux_416 (fun _ h9 => h9) dX5_readSum_22 ?_
        obtain ⟨a15, ea16, h⟩ := h
        refine xq_nn ea16 ?_
        obtain ⟨ht17, h⟩ := h
        refine xg_X10_kind F C ht17 ux_430 (fun _ h9 => h9) dX5_readSum_25 ?_
        refine lv_topi (fun v18 ev18 => ?_)
        replace h := h v18 ev18
        refine lv_istore_n (lv' := [(3, .int v18), (0, .ref l0), (1, .int l1), (2, .int l2)]) F.1 F.2.1 dX5_readSum_28 rfl hl (by decide) rfl (fun ls hl => ?_)
        refine lv_iload_n F.1 F.2.1 dX5_readSum_29 rfl (lv_at hl 0 rfl) ?_
        refine lv_bipush (v := 43) F.1 F.2.1 dX5_readSum_30 (by decide) ?_
        refine lv_icmp_eq (tgt := 42) F.1 F.2.1 dX5_readSum_32 (by decide) (fun c19 => ?_) (fun c19 => ?_)
        · replace h := h.1 c19
          exact tX5_readSum_42 l G σ0 re FR LO hre F hr hlocks Q (wX5_readSum_7 re Q n) (fun l0 l1 l2 σ9 H locs ls h C hl => ih l0 l1 l2 σ9 H locs ls h C hl) l0 l1 l2 v18 σ H locs ls h C (lv_sub hl [1, 2, 3, 0] rfl)
        · replace h := h.2 c19
          refine lv_iload_n F.1 F.2.1 dX5_readSum_35 rfl (lv_at hl 0 rfl) ?_
          refine lv_bipush (v := 45) F.1 F.2.1 dX5_readSum_36 (by decide) ?_
          refine lv_icmp_eq (tgt := 42) F.1 F.2.1 dX5_readSum_38 (by decide) (fun c20 => ?_) (fun c20 => ?_)
          · replace h := h.1 c20
            exact tX5_readSum_42 l G σ0 re FR LO hre F hr hlocks Q (wX5_readSum_7 re Q n) (fun l0 l1 l2 σ9 H locs ls h C hl => ih l0 l1 l2 σ9 H locs ls h C hl) l0 l1 l2 v18 σ H locs ls h C (lv_sub hl [1, 2, 3, 0] rfl)
          · replace h := h.2 c20
            exact kx_vret F C hr hlocks h dX5_readSum_41
set_option maxRecDepth 100000 in
set_option maxHeartbeats 4000000 in
theorem hx_X5_readSum (l : Launch) (G : kx_G) (re : Nat → Int32 → kx_S → (kx_S → Prop) → Prop) (FR LO : Nat) (hre : ∀ (b : Nat) (a : Int32) (σ : kx_S) (P : kx_S → Prop), re b a σ P → kx_M l G yX5_readExpr cX5_readExpr 4 none FR LO [.ref b, .int a] σ (kx_rv P)) (l0 : Nat) (l1 : Int32) (σ : kx_S) (Q : kx_S → Prop) (h : wX5_readSum re l0 l1 σ Q) : kx_M l G yX5_readSum cX5_readSum 4 none (FR + 9) (LO + 192) [.ref l0, .int l1] σ (kx_rv Q) := by
  refine kx_enter (by decide) rfl (Nat.le_of_ble_eq_true rfl) ?_
  intro p e s m below meth c ls F hr hlocks C hname hl
  have hl : lv_has ls 4 [(0, .ref l0), (1, .int l1)] := hl
  obtain ⟨H, eH⟩ : ∃ z9, z9 = s.heap := ⟨_, rfl⟩
  obtain ⟨locs, eL⟩ : ∃ z9 : List Loc, z9 = [] := ⟨_, rfl⟩
  rw [← eH, ← eL] at C
  rw [← eH, ← eL]
  obtain ⟨σ0, e0⟩ : ∃ z9, z9 = σ := ⟨_, rfl⟩
  have C : kx_X G (xc σ0) s H locs σ := by rw [e0]; exact C
  suffices hgo : kx_W p l e (FR + 9) (LO + 192) (xc σ0) s m ([.ref l0, .int l1] : List Value).toArray below meth c H locs σ (MQ below (kx_Q G σ0 (kx_rv Q)) ([.ref l0, .int l1] : List Value).toArray s (kx_N - xc σ0) (600 * (kx_N - xc σ0)) (kx_A G)) (F0 m 0 ls []) by rw [e0] at hgo; exact hgo
  clear e0
  refine lv_aload_n F.1 F.2.1 dX5_readSum_0 rfl (lv_at hl 0 rfl) ?_
  refine lv_iload_n F.1 F.2.1 dX5_readSum_1 rfl (lv_at hl 1 rfl) ?_
  obtain ⟨ht22, h⟩ := h
  refine xk_X5_readTerm F C re FR LO hre l0 l1 ht22 h ux_456 (by omega) (by omega) hl.1 (by simp [Value.category]) dX5_readSum_2 (fun σ21 H locs h C => ?_)
  refine lv_iconst (v := 0) F.1 F.2.1 dX5_readSum_5 (by decide) ?_
  refine lv_istore_n (lv' := [(2, .int 0), (0, .ref l0), (1, .int l1)]) F.1 F.2.1 dX5_readSum_6 rfl hl (by decide) rfl (fun ls hl => ?_)
  obtain ⟨n23, h⟩ := h
  exact tX5_readSum_7 l G σ0 re FR LO hre F hr hlocks Q n23 l0 l1 0 σ21 H locs ls h C (lv_sub hl [1, 2, 0] rfl)
section
variable {p : Program} {l : Launch} {e : Env} {fr lo c0 : Nat} {s : State} {m : MethodId} {args : Array Value} {below : List Frame} {meth : Method} {c : Code} {H : Heap} {locs : List Loc} {Q : State → Prop}
variable {cc : ByteArray} {pc nL index : Nat} {ls : Array Slot} {rest : List Value} {G : kx_G} {σ : kx_S} {own : String}
theorem xk_X5_readSum {P : kx_S → Prop} (F : CallFix p m c cc nL s args kt_ own) (C : kx_X G c0 s H locs σ) (re : Nat → Int32 → kx_S → (kx_S → Prop) → Prop) (FR LO : Nat) (hre : ∀ (b : Nat) (a : Int32) (σ : kx_S) (P : kx_S → Prop), re b a σ P → kx_M l G yX5_readExpr cX5_readExpr 4 none FR LO [.ref b, .int a] σ (kx_rv P)) (l0 : Nat) (l1 : Int32) (ha : xt σ l0 = 7) (h : wX5_readSum re l0 l1 σ P) (hw : Cond.methodLink own index yX5_readSum ∈ kt_) (h1 : (FR + 9) + 1 ≤ fr) (h2 : 8 + (4 + 11) + (LO + 192) ≤ lo) (hsz : ls.size = nL) (hW : (rest.map fun v => v.category).sum ≤ 8) (hdg : decode cc pc = .ok (.invokevirtual index, 3)) (kk : ∀ (u : kx_S) (H1 : Heap) (locs1 : List Loc), P u → kx_X G c0 s H1 locs1 u → kx_W p l e fr lo c0 s m args below meth c H1 locs1 u Q (F0 m (pc + 3) ls rest)) : kx_W p l e fr lo c0 s m args below meth c H locs σ Q (F0 m pc ls (.int l1 :: .ref l0 :: rest)) :=
  kx_cV (n := 1) (As := [.int l1]) (Cn := RX5) F C (hx_X5_readSum l G re FR LO hre l0 l1 σ P h) (kt_V hw ux_458 ux_459 ux_59 ux_457) (by decide +kernel) ⟨h1, h2⟩ (kx_recv C (by rw [ha]; decide) (kx_e7 ha) rfl) rfl hsz hW hdg (fun v u H1 locs1 hP9 C9 => by obtain ⟨hv, hp⟩ := hP9; subst hv; exact kk u H1 locs1 hp C9)
end
theorem dX5_readTest_0 : decode cX5_readTest 0 = .ok (.aload_n 0, 1) := by decide +kernel
theorem dX5_readTest_1 : decode cX5_readTest 1 = .ok (.getfield 14, 3) := by decide +kernel
theorem dX5_readTest_4 : decode cX5_readTest 4 = .ok (.ldc 71, 2) := by decide +kernel
theorem dX5_readTest_6 : decode cX5_readTest 6 = .ok (.invokevirtual 48, 3) := by decide +kernel
theorem dX5_readTest_9 : decode cX5_readTest 9 = .ok (.istore_n 2, 1) := by decide +kernel
theorem dX5_readTest_10 : decode cX5_readTest 10 = .ok (.iload_n 2, 1) := by decide +kernel
theorem dX5_readTest_11 : decode cX5_readTest 11 = .ok (.ifCond .eq 10, 3) := by decide +kernel
theorem dX5_readTest_14 : decode cX5_readTest 14 = .ok (.aload_n 0, 1) := by decide +kernel
theorem dX5_readTest_15 : decode cX5_readTest 15 = .ok (.getfield 14, 3) := by decide +kernel
theorem dX5_readTest_18 : decode cX5_readTest 18 = .ok (.invokevirtual 57, 3) := by decide +kernel
theorem dX5_readTest_21 : decode cX5_readTest 21 = .ok (.aload_n 0, 1) := by decide +kernel
theorem dX5_readTest_22 : decode cX5_readTest 22 = .ok (.iload_n 1, 1) := by decide +kernel
theorem dX5_readTest_23 : decode cX5_readTest 23 = .ok (.invokevirtual 84, 3) := by decide +kernel
theorem dX5_readTest_26 : decode cX5_readTest 26 = .ok (.aload_n 0, 1) := by decide +kernel
theorem dX5_readTest_27 : decode cX5_readTest 27 = .ok (.getfield 14, 3) := by decide +kernel
theorem dX5_readTest_30 : decode cX5_readTest 30 = .ok (.getfield 40, 3) := by decide +kernel
theorem dX5_readTest_33 : decode cX5_readTest 33 = .ok (.istore_n 3, 1) := by decide +kernel
theorem dX5_readTest_34 : decode cX5_readTest 34 = .ok (.aload_n 0, 1) := by decide +kernel
theorem dX5_readTest_35 : decode cX5_readTest 35 = .ok (.getfield 30, 3) := by decide +kernel
theorem dX5_readTest_38 : decode cX5_readTest 38 = .ok (.ifCond .ne 44, 3) := by decide +kernel
theorem dX5_readTest_41 : decode cX5_readTest 41 = .ok (.iload_n 3, 1) := by decide +kernel
theorem dX5_readTest_42 : decode cX5_readTest 42 = .ok (.bipush 60, 2) := by decide +kernel
theorem dX5_readTest_44 : decode cX5_readTest 44 = .ok (.if_icmp .eq 9, 3) := by decide +kernel
theorem dX5_readTest_47 : decode cX5_readTest 47 = .ok (.iload_n 3, 1) := by decide +kernel
theorem dX5_readTest_48 : decode cX5_readTest 48 = .ok (.bipush 61, 2) := by decide +kernel
theorem dX5_readTest_50 : decode cX5_readTest 50 = .ok (.if_icmp .ne 32, 3) := by decide +kernel
theorem dX5_readTest_53 : decode cX5_readTest 53 = .ok (.aload_n 0, 1) := by decide +kernel
theorem dX5_readTest_54 : decode cX5_readTest 54 = .ok (.getfield 14, 3) := by decide +kernel
theorem dX5_readTest_57 : decode cX5_readTest 57 = .ok (.invokevirtual 57, 3) := by decide +kernel
theorem dX5_readTest_60 : decode cX5_readTest 60 = .ok (.aload_n 0, 1) := by decide +kernel
theorem dX5_readTest_61 : decode cX5_readTest 61 = .ok (.iload_n 1, 1) := by decide +kernel
theorem dX5_readTest_62 : decode cX5_readTest 62 = .ok (.invokevirtual 84, 3) := by decide +kernel
theorem dX5_readTest_65 : decode cX5_readTest 65 = .ok (.aload_n 0, 1) := by decide +kernel
theorem dX5_readTest_66 : decode cX5_readTest 66 = .ok (.iload_n 3, 1) := by decide +kernel
theorem dX5_readTest_67 : decode cX5_readTest 67 = .ok (.bipush 60, 2) := by decide +kernel
theorem dX5_readTest_69 : decode cX5_readTest 69 = .ok (.if_icmp .ne 8, 3) := by decide +kernel
theorem dX5_readTest_72 : decode cX5_readTest 72 = .ok (.bipush (-12), 2) := by decide +kernel
theorem dX5_readTest_74 : decode cX5_readTest 74 = .ok (.goto 5, 3) := by decide +kernel
theorem dX5_readTest_77 : decode cX5_readTest 77 = .ok (.bipush (-13), 2) := by decide +kernel
theorem dX5_readTest_79 : decode cX5_readTest 79 = .ok (.invokevirtual 68, 3) := by decide +kernel
theorem dX5_readTest_82 : decode cX5_readTest 82 = .ok (.iload_n 2, 1) := by decide +kernel
theorem dX5_readTest_83 : decode cX5_readTest 83 = .ok (.ifCond .eq 9, 3) := by decide +kernel
theorem dX5_readTest_86 : decode cX5_readTest 86 = .ok (.aload_n 0, 1) := by decide +kernel
theorem dX5_readTest_87 : decode cX5_readTest 87 = .ok (.bipush (-16), 2) := by decide +kernel
theorem dX5_readTest_89 : decode cX5_readTest 89 = .ok (.invokevirtual 68, 3) := by decide +kernel
theorem dX5_readTest_92 : decode cX5_readTest 92 = .ok (.return_, 1) := by decide +kernel
def wX5_readTest_79 (re : Nat → Int32 → kx_S → (kx_S → Prop) → Prop) (k82 : Nat → Int32 → kx_S → Prop) (Q : kx_S → Prop) (l0 : Nat) (l2 : Int32) (s0 : Int32) (s1 : Nat) (σ : kx_S) : Prop := xt σ s1 = 7 ∧ wX5_put s1 s0 σ (fun σ1 => k82 l0 l2 σ1)
def wX5_readTest_82 (re : Nat → Int32 → kx_S → (kx_S → Prop) → Prop) (Q : kx_S → Prop) (l0 : Nat) (l2 : Int32) (σ : kx_S) : Prop := ((l2 = 0 → Q σ) ∧
  (¬ (l2 = 0) → xt σ l0 = 7 ∧ wX5_put l0 (-16) σ (fun σ4 => Q σ4)))
def wX5_readTest_53 (re : Nat → Int32 → kx_S → (kx_S → Prop) → Prop) (k82 : Nat → Int32 → kx_S → Prop) (Q : kx_S → Prop) (l0 : Nat) (l1 : Int32) (l2 : Int32) (l3 : Int32) (σ : kx_S) : Prop := xt σ l0 = 7 ∧ ∃ a7, xr σ 112 l0 = some a7 ∧ xt σ a7 = 12 ∧ wX10_advance a7 σ (fun σ9 => xt σ9 l0 = 7 ∧ wX5_readSum re l0 l1 σ9 (fun σ11 => ((¬ l3 = 60 → wX5_readTest_79 re k82 Q l0 l2 (-13) l0 σ11) ∧
  (l3 = 60 → wX5_readTest_79 re k82 Q l0 l2 (-12) l0 σ11))))
def wX5_readTest_21 (re : Nat → Int32 → kx_S → (kx_S → Prop) → Prop) (Q : kx_S → Prop) (l0 : Nat) (l1 : Int32) (l2 : Int32) (σ : kx_S) : Prop := xt σ l0 = 7 ∧ wX5_readSum re l0 l1 σ (fun σ14 => xt σ14 l0 = 7 ∧ ∃ a17, xr σ14 112 l0 = some a17 ∧ xt σ14 a17 = 12 ∧ ∀ v20, v20 = xi σ14 196 a17 → ((¬ (xi σ14 115 l0) = 0 → wX5_readTest_82 re Q l0 l2 σ14) ∧
  ((xi σ14 115 l0) = 0 → ((v20 = 60 → wX5_readTest_53 re (wX5_readTest_82 re Q) Q l0 l1 l2 v20 σ14) ∧
    (¬ (v20 = 60) → ((¬ v20 = 61 → wX5_readTest_82 re Q l0 l2 σ14) ∧
      (v20 = 61 → wX5_readTest_53 re (wX5_readTest_82 re Q) Q l0 l1 l2 v20 σ14)))))))
def wX5_readTest (re : Nat → Int32 → kx_S → (kx_S → Prop) → Prop) (l0 : Nat) (l1 : Int32) (σ : kx_S) (Q : kx_S → Prop) : Prop := xt σ l0 = 7 ∧ ∃ a25, xr σ 112 l0 = some a25 ∧ xt σ a25 = 12 ∧ wX10_isWord a25 11 σ (fun r28 σ27 => ((r28 = 0 → wX5_readTest_21 re Q l0 l1 r28 σ27) ∧
  (¬ (r28 = 0) → xt σ27 l0 = 7 ∧ ∃ a32, xr σ27 112 l0 = some a32 ∧ xt σ27 a32 = 12 ∧ wX10_advance a32 σ27 (fun σ34 => wX5_readTest_21 re Q l0 l1 r28 σ34))))
set_option maxRecDepth 100000 in
set_option maxHeartbeats 4000000 in
theorem tX5_readTest_79 (l : Launch) (G : kx_G) (σ0 : kx_S) (re : Nat → Int32 → kx_S → (kx_S → Prop) → Prop) (FR LO : Nat) (hre : ∀ (b : Nat) (a : Int32) (σ : kx_S) (P : kx_S → Prop), re b a σ P → kx_M l G yX5_readExpr cX5_readExpr 4 none FR LO [.ref b, .int a] σ (kx_rv P)) {p : Program} {e : Env} {s : State} {m : MethodId} {args : Array Value} {below : List Frame} {meth : Method} {c : Code} (F : CallFix p m c cX5_readTest 4 s args kt_ RX5) (hr : meth.sig.returnType = none) (hlocks : meth.locks = false) (Q : kx_S → Prop) (k82 : Nat → Int32 → kx_S → Prop) (hk82 : ∀ (l0 : Nat) (l2 : Int32) (σ : kx_S) (H : Heap) (locs : List Loc) (ls : Array Slot), k82 l0 l2 σ → kx_X G (xc σ0) s H locs σ → lv_has ls 4 [(0, .ref l0), (2, .int l2)] → kx_W p l e (FR + 10) (LO + 215) (xc σ0) s m args below meth c H locs σ (MQ below (kx_Q G σ0 (kx_rv Q)) args s (kx_N - xc σ0) (600 * (kx_N - xc σ0)) (kx_A G)) (F0 m 82 ls [])) : ∀ (l0 : Nat) (l2 : Int32) (s0 : Int32) (s1 : Nat) (σ : kx_S) (H : Heap) (locs : List Loc) (ls : Array Slot), wX5_readTest_79 re k82 Q l0 l2 s0 s1 σ → kx_X G (xc σ0) s H locs σ → lv_has ls 4 [(0, .ref l0), (2, .int l2)] → kx_W p l e (FR + 10) (LO + 215) (xc σ0) s m args below meth c H locs σ (MQ below (kx_Q G σ0 (kx_rv Q)) args s (kx_N - xc σ0) (600 * (kx_N - xc σ0)) (kx_A G)) (F0 m 79 ls [.int s0, .ref s1]) := by
  intro l0 l2 s0 s1 σ H locs ls h C hl
  obtain ⟨ht2, h⟩ := h
  refine xk_X5_put F C s1 s0 ht2 h ux_444 (by omega) (by omega) hl.1 (by simp [Value.category]) dX5_readTest_79 (fun σ1 H locs h C => ?_)
  exact hk82 l0 l2 σ1 H locs ls h C (lv_sub hl [0, 1] rfl)
set_option maxRecDepth 100000 in
set_option maxHeartbeats 4000000 in
theorem tX5_readTest_82 (l : Launch) (G : kx_G) (σ0 : kx_S) (re : Nat → Int32 → kx_S → (kx_S → Prop) → Prop) (FR LO : Nat) (hre : ∀ (b : Nat) (a : Int32) (σ : kx_S) (P : kx_S → Prop), re b a σ P → kx_M l G yX5_readExpr cX5_readExpr 4 none FR LO [.ref b, .int a] σ (kx_rv P)) {p : Program} {e : Env} {s : State} {m : MethodId} {args : Array Value} {below : List Frame} {meth : Method} {c : Code} (F : CallFix p m c cX5_readTest 4 s args kt_ RX5) (hr : meth.sig.returnType = none) (hlocks : meth.locks = false) (Q : kx_S → Prop) : ∀ (l0 : Nat) (l2 : Int32) (σ : kx_S) (H : Heap) (locs : List Loc) (ls : Array Slot), wX5_readTest_82 re Q l0 l2 σ → kx_X G (xc σ0) s H locs σ → lv_has ls 4 [(0, .ref l0), (2, .int l2)] → kx_W p l e (FR + 10) (LO + 215) (xc σ0) s m args below meth c H locs σ (MQ below (kx_Q G σ0 (kx_rv Q)) args s (kx_N - xc σ0) (600 * (kx_N - xc σ0)) (kx_A G)) (F0 m 82 ls []) := by
  intro l0 l2 σ H locs ls h C hl
  refine lv_iload_n F.1 F.2.1 dX5_readTest_82 rfl (lv_at hl 1 rfl) ?_
  refine lv_if_eq (tgt := 92) F.1 F.2.1 dX5_readTest_83 (by decide) (fun c3 => ?_) (fun c3 => ?_)
  · replace h := h.1 c3
    exact kx_vret F C hr hlocks h dX5_readTest_92
  · replace h := h.2 c3
    refine lv_aload_n F.1 F.2.1 dX5_readTest_86 rfl (lv_at hl 0 rfl) ?_
    refine lv_bipush (v := (-16)) F.1 F.2.1 dX5_readTest_87 (by decide) ?_
    obtain ⟨ht5, h⟩ := h
    refine xk_X5_put F C l0 (-16) ht5 h ux_444 (by omega) (by omega) hl.1 (by simp [Value.category]) dX5_readTest_89 (fun σ4 H locs h C => ?_)
    exact kx_vret F C hr hlocks h dX5_readTest_92
set_option maxRecDepth 100000 in
set_option maxHeartbeats 4000000 in
theorem tX5_readTest_53 (l : Launch) (G : kx_G) (σ0 : kx_S) (re : Nat → Int32 → kx_S → (kx_S → Prop) → Prop) (FR LO : Nat) (hre : ∀ (b : Nat) (a : Int32) (σ : kx_S) (P : kx_S → Prop), re b a σ P → kx_M l G yX5_readExpr cX5_readExpr 4 none FR LO [.ref b, .int a] σ (kx_rv P)) {p : Program} {e : Env} {s : State} {m : MethodId} {args : Array Value} {below : List Frame} {meth : Method} {c : Code} (F : CallFix p m c cX5_readTest 4 s args kt_ RX5) (hr : meth.sig.returnType = none) (hlocks : meth.locks = false) (Q : kx_S → Prop) (k82 : Nat → Int32 → kx_S → Prop) (hk82 : ∀ (l0 : Nat) (l2 : Int32) (σ : kx_S) (H : Heap) (locs : List Loc) (ls : Array Slot), k82 l0 l2 σ → kx_X G (xc σ0) s H locs σ → lv_has ls 4 [(0, .ref l0), (2, .int l2)] → kx_W p l e (FR + 10) (LO + 215) (xc σ0) s m args below meth c H locs σ (MQ below (kx_Q G σ0 (kx_rv Q)) args s (kx_N - xc σ0) (600 * (kx_N - xc σ0)) (kx_A G)) (F0 m 82 ls [])) : ∀ (l0 : Nat) (l1 : Int32) (l2 : Int32) (l3 : Int32) (σ : kx_S) (H : Heap) (locs : List Loc) (ls : Array Slot), wX5_readTest_53 re k82 Q l0 l1 l2 l3 σ → kx_X G (xc σ0) s H locs σ → lv_has ls 4 [(0, .ref l0), (1, .int l1), (2, .int l2), (3, .int l3)] → kx_W p l e (FR + 10) (LO + 215) (xc σ0) s m args below meth c H locs σ (MQ below (kx_Q G σ0 (kx_rv Q)) args s (kx_N - xc σ0) (600 * (kx_N - xc σ0)) (kx_A G)) (F0 m 53 ls []) := by
  intro l0 l1 l2 l3 σ H locs ls h C hl
  refine lv_aload_n F.1 F.2.1 dX5_readTest_53 rfl (lv_at hl 0 rfl) ?_
  obtain ⟨ht6, h⟩ := h
  refine xg_X5_tokens F C ht6 ux_416 (fun _ h9 => h9) dX5_readTest_54 ?_
  obtain ⟨a7, ea8, h⟩ := h
  refine xq_nn ea8 ?_
  obtain ⟨ht10, h⟩ := h
  refine xk_X10_advance F C a7 ht10 h ux_431 (by omega) (by omega) hl.1 (by simp [Value.category]) dX5_readTest_57 (fun σ9 H locs h C => ?_)
  refine lv_aload_n F.1 F.2.1 dX5_readTest_60 rfl (lv_at hl 0 rfl) ?_
  refine lv_iload_n F.1 F.2.1 dX5_readTest_61 rfl (lv_at hl 1 rfl) ?_
  obtain ⟨ht12, h⟩ := h
  refine xk_X5_readSum F C re FR LO hre l0 l1 ht12 h ux_460 (by omega) (by omega) hl.1 (by simp [Value.category]) dX5_readTest_62 (fun σ11 H locs h C => ?_)
  refine lv_aload_n F.1 F.2.1 dX5_readTest_65 rfl (lv_at hl 0 rfl) ?_
  refine lv_iload_n F.1 F.2.1 dX5_readTest_66 rfl (lv_at hl 3 rfl) ?_
  refine lv_bipush (v := 60) F.1 F.2.1 dX5_readTest_67 (by decide) ?_
  refine lv_icmp_ne (tgt := 77) F.1 F.2.1 dX5_readTest_69 (by decide) (fun c13 => ?_) (fun c13 => ?_)
  · replace h := h.1 c13
    refine lv_bipush (v := (-13)) F.1 F.2.1 dX5_readTest_77 (by decide) ?_
    exact tX5_readTest_79 l G σ0 re FR LO hre F hr hlocks Q k82 hk82 l0 l2 (-13) l0 σ11 H locs ls h C (lv_sub hl [0, 2] rfl)
  · replace h := h.2 c13
    refine lv_bipush (v := (-12)) F.1 F.2.1 dX5_readTest_72 (by decide) ?_
    refine lv_goto (tgt := 79) F.1 F.2.1 dX5_readTest_74 (by decide) ?_
    exact tX5_readTest_79 l G σ0 re FR LO hre F hr hlocks Q k82 hk82 l0 l2 (-12) l0 σ11 H locs ls h C (lv_sub hl [0, 2] rfl)
set_option maxRecDepth 100000 in
set_option maxHeartbeats 4000000 in
theorem tX5_readTest_21 (l : Launch) (G : kx_G) (σ0 : kx_S) (re : Nat → Int32 → kx_S → (kx_S → Prop) → Prop) (FR LO : Nat) (hre : ∀ (b : Nat) (a : Int32) (σ : kx_S) (P : kx_S → Prop), re b a σ P → kx_M l G yX5_readExpr cX5_readExpr 4 none FR LO [.ref b, .int a] σ (kx_rv P)) {p : Program} {e : Env} {s : State} {m : MethodId} {args : Array Value} {below : List Frame} {meth : Method} {c : Code} (F : CallFix p m c cX5_readTest 4 s args kt_ RX5) (hr : meth.sig.returnType = none) (hlocks : meth.locks = false) (Q : kx_S → Prop) : ∀ (l0 : Nat) (l1 : Int32) (l2 : Int32) (σ : kx_S) (H : Heap) (locs : List Loc) (ls : Array Slot), wX5_readTest_21 re Q l0 l1 l2 σ → kx_X G (xc σ0) s H locs σ → lv_has ls 4 [(0, .ref l0), (1, .int l1), (2, .int l2)] → kx_W p l e (FR + 10) (LO + 215) (xc σ0) s m args below meth c H locs σ (MQ below (kx_Q G σ0 (kx_rv Q)) args s (kx_N - xc σ0) (600 * (kx_N - xc σ0)) (kx_A G)) (F0 m 21 ls []) := by
  intro l0 l1 l2 σ H locs ls h C hl
  refine lv_aload_n F.1 F.2.1 dX5_readTest_21 rfl (lv_at hl 0 rfl) ?_
  refine lv_iload_n F.1 F.2.1 dX5_readTest_22 rfl (lv_at hl 1 rfl) ?_
  obtain ⟨ht15, h⟩ := h
  refine xk_X5_readSum F C re FR LO hre l0 l1 ht15 h ux_460 (by omega) (by omega) hl.1 (by simp [Value.category]) dX5_readTest_23 (fun σ14 H locs h C => ?_)
  refine lv_aload_n F.1 F.2.1 dX5_readTest_26 rfl (lv_at hl 0 rfl) ?_
  obtain ⟨ht16, h⟩ := h
  refine xg_X5_tokens F C ht16 ux_416 (fun _ h9 => h9) dX5_readTest_27 ?_
  obtain ⟨a17, ea18, h⟩ := h
  refine xq_nn ea18 ?_
  obtain ⟨ht19, h⟩ := h
  refine xg_X10_kind F C ht19 ux_430 (fun _ h9 => h9) dX5_readTest_30 ?_
  refine lv_topi (fun v20 ev20 => ?_)
  replace h := h v20 ev20
  refine lv_istore_n (lv' := [(3, .int v20), (0, .ref l0), (1, .int l1), (2, .int l2)]) F.1 F.2.1 dX5_readTest_33 rfl hl (by decide) rfl (fun ls hl => ?_)
  refine lv_aload_n F.1 F.2.1 dX5_readTest_34 rfl (lv_at hl 1 rfl) ?_
  refine xg_X5_fault F C ht16 ux_424 (fun _ h9 => h9) dX5_readTest_35 ?_
  refine lv_if_ne (tgt := 82) F.1 F.2.1 dX5_readTest_38 (by decide) (fun c21 => ?_) (fun c21 => ?_)
  · replace h := h.1 c21
    exact tX5_readTest_82 l G σ0 re FR LO hre F hr hlocks Q l0 l2 σ14 H locs ls h C (lv_sub hl [1, 3] rfl)
  · replace h := h.2 c21
    refine lv_iload_n F.1 F.2.1 dX5_readTest_41 rfl (lv_at hl 0 rfl) ?_
    refine lv_bipush (v := 60) F.1 F.2.1 dX5_readTest_42 (by decide) ?_
    refine lv_icmp_eq (tgt := 53) F.1 F.2.1 dX5_readTest_44 (by decide) (fun c22 => ?_) (fun c22 => ?_)
    · replace h := h.1 c22
      exact tX5_readTest_53 l G σ0 re FR LO hre F hr hlocks Q (wX5_readTest_82 re Q) (tX5_readTest_82 l G σ0 re FR LO hre F hr hlocks Q) l0 l1 l2 v20 σ14 H locs ls h C (lv_sub hl [1, 2, 3, 0] rfl)
    · replace h := h.2 c22
      refine lv_iload_n F.1 F.2.1 dX5_readTest_47 rfl (lv_at hl 0 rfl) ?_
      refine lv_bipush (v := 61) F.1 F.2.1 dX5_readTest_48 (by decide) ?_
      refine lv_icmp_ne (tgt := 82) F.1 F.2.1 dX5_readTest_50 (by decide) (fun c23 => ?_) (fun c23 => ?_)
      · replace h := h.1 c23
        exact tX5_readTest_82 l G σ0 re FR LO hre F hr hlocks Q l0 l2 σ14 H locs ls h C (lv_sub hl [1, 3] rfl)
      · replace h := h.2 c23
        exact tX5_readTest_53 l G σ0 re FR LO hre F hr hlocks Q (wX5_readTest_82 re Q) (tX5_readTest_82 l G σ0 re FR LO hre F hr hlocks Q) l0 l1 l2 v20 σ14 H locs ls h C (lv_sub hl [1, 2, 3, 0] rfl)
set_option maxRecDepth 100000 in
set_option maxHeartbeats 4000000 in
theorem hx_X5_readTest (l : Launch) (G : kx_G) (re : Nat → Int32 → kx_S → (kx_S → Prop) → Prop) (FR LO : Nat) (hre : ∀ (b : Nat) (a : Int32) (σ : kx_S) (P : kx_S → Prop), re b a σ P → kx_M l G yX5_readExpr cX5_readExpr 4 none FR LO [.ref b, .int a] σ (kx_rv P)) (l0 : Nat) (l1 : Int32) (σ : kx_S) (Q : kx_S → Prop) (h : wX5_readTest re l0 l1 σ Q) : kx_M l G yX5_readTest cX5_readTest 4 none (FR + 10) (LO + 215) [.ref l0, .int l1] σ (kx_rv Q) := by
  refine kx_enter (by decide) rfl (Nat.le_of_ble_eq_true rfl) ?_
  intro p e s m below meth c ls F hr hlocks C hname hl
  have hl : lv_has ls 4 [(0, .ref l0), (1, .int l1)] := hl
  obtain ⟨H, eH⟩ : ∃ z9, z9 = s.heap := ⟨_, rfl⟩
  obtain ⟨locs, eL⟩ : ∃ z9 : List Loc, z9 = [] := ⟨_, rfl⟩
  rw [← eH, ← eL] at C
  rw [← eH, ← eL]
  obtain ⟨σ0, e0⟩ : ∃ z9, z9 = σ := ⟨_, rfl⟩
  have C : kx_X G (xc σ0) s H locs σ := by rw [e0]; exact C
  suffices hgo : kx_W p l e (FR + 10) (LO + 215) (xc σ0) s m ([.ref l0, .int l1] : List Value).toArray below meth c H locs σ (MQ below (kx_Q G σ0 (kx_rv Q)) ([.ref l0, .int l1] : List Value).toArray s (kx_N - xc σ0) (600 * (kx_N - xc σ0)) (kx_A G)) (F0 m 0 ls []) by rw [e0] at hgo; exact hgo
  clear e0
  refine lv_aload_n F.1 F.2.1 dX5_readTest_0 rfl (lv_at hl 0 rfl) ?_
  obtain ⟨ht24, h⟩ := h
  refine xg_X5_tokens F C ht24 ux_416 (fun _ h9 => h9) dX5_readTest_1 ?_
  obtain ⟨a25, ea26, h⟩ := h
  refine xq_nn ea26 ?_
  refine kx_ldcW (i := 11) F C rfl dX5_readTest_4 ?_
  obtain ⟨ht29, h⟩ := h
  refine xk_X10_isWord F C a25 11 ht29 h ux_436 (by omega) (by omega) hl.1 (by simp [Value.category]) dX5_readTest_6 (fun r28 σ27 H locs h C => ?_)
  refine lv_istore_n (lv' := [(2, .int r28), (0, .ref l0), (1, .int l1)]) F.1 F.2.1 dX5_readTest_9 rfl hl (by decide) rfl (fun ls hl => ?_)
  refine lv_iload_n F.1 F.2.1 dX5_readTest_10 rfl (lv_at hl 0 rfl) ?_
  refine lv_if_eq (tgt := 21) F.1 F.2.1 dX5_readTest_11 (by decide) (fun c30 => ?_) (fun c30 => ?_)
  · replace h := h.1 c30
    exact tX5_readTest_21 l G σ0 re FR LO hre F hr hlocks Q l0 l1 r28 σ27 H locs ls h C (lv_sub hl [1, 2, 0] rfl)
  · replace h := h.2 c30
    refine lv_aload_n F.1 F.2.1 dX5_readTest_14 rfl (lv_at hl 1 rfl) ?_
    obtain ⟨ht31, h⟩ := h
    refine xg_X5_tokens F C ht31 ux_416 (fun _ h9 => h9) dX5_readTest_15 ?_
    obtain ⟨a32, ea33, h⟩ := h
    refine xq_nn ea33 ?_
    obtain ⟨ht35, h⟩ := h
    refine xk_X10_advance F C a32 ht35 h ux_431 (by omega) (by omega) hl.1 (by simp [Value.category]) dX5_readTest_18 (fun σ34 H locs h C => ?_)
    exact tX5_readTest_21 l G σ0 re FR LO hre F hr hlocks Q l0 l1 r28 σ34 H locs ls h C (lv_sub hl [1, 2, 0] rfl)
section
variable {p : Program} {l : Launch} {e : Env} {fr lo c0 : Nat} {s : State} {m : MethodId} {args : Array Value} {below : List Frame} {meth : Method} {c : Code} {H : Heap} {locs : List Loc} {Q : State → Prop}
variable {cc : ByteArray} {pc nL index : Nat} {ls : Array Slot} {rest : List Value} {G : kx_G} {σ : kx_S} {own : String}
theorem xk_X5_readTest {P : kx_S → Prop} (F : CallFix p m c cc nL s args kt_ own) (C : kx_X G c0 s H locs σ) (re : Nat → Int32 → kx_S → (kx_S → Prop) → Prop) (FR LO : Nat) (hre : ∀ (b : Nat) (a : Int32) (σ : kx_S) (P : kx_S → Prop), re b a σ P → kx_M l G yX5_readExpr cX5_readExpr 4 none FR LO [.ref b, .int a] σ (kx_rv P)) (l0 : Nat) (l1 : Int32) (ha : xt σ l0 = 7) (h : wX5_readTest re l0 l1 σ P) (hw : Cond.methodLink own index yX5_readTest ∈ kt_) (h1 : (FR + 10) + 1 ≤ fr) (h2 : 8 + (4 + 11) + (LO + 215) ≤ lo) (hsz : ls.size = nL) (hW : (rest.map fun v => v.category).sum ≤ 8) (hdg : decode cc pc = .ok (.invokevirtual index, 3)) (kk : ∀ (u : kx_S) (H1 : Heap) (locs1 : List Loc), P u → kx_X G c0 s H1 locs1 u → kx_W p l e fr lo c0 s m args below meth c H1 locs1 u Q (F0 m (pc + 3) ls rest)) : kx_W p l e fr lo c0 s m args below meth c H locs σ Q (F0 m pc ls (.int l1 :: .ref l0 :: rest)) :=
  kx_cV (n := 1) (As := [.int l1]) (Cn := RX5) F C (hx_X5_readTest l G re FR LO hre l0 l1 σ P h) (kt_V hw ux_462 ux_463 ux_59 ux_461) (by decide +kernel) ⟨h1, h2⟩ (kx_recv C (by rw [ha]; decide) (kx_e7 ha) rfl) rfl hsz hW hdg (fun v u H1 locs1 hP9 C9 => by obtain ⟨hv, hp⟩ := hP9; subst hv; exact kk u H1 locs1 hp C9)
end
theorem dX5_readExpr_0 : decode cX5_readExpr 0 = .ok (.iload_n 1, 1) := by decide +kernel
theorem dX5_readExpr_1 : decode cX5_readExpr 1 = .ok (.bipush 8, 2) := by decide +kernel
theorem dX5_readExpr_3 : decode cX5_readExpr 3 = .ok (.if_icmp .lt 38, 3) := by decide +kernel
theorem dX5_readExpr_6 : decode cX5_readExpr 6 = .ok (.aload_n 0, 1) := by decide +kernel
theorem dX5_readExpr_7 : decode cX5_readExpr 7 = .ok (.getfield 14, 3) := by decide +kernel
theorem dX5_readExpr_10 : decode cX5_readExpr 10 = .ok (.ldc 71, 2) := by decide +kernel
theorem dX5_readExpr_12 : decode cX5_readExpr 12 = .ok (.invokevirtual 48, 3) := by decide +kernel
theorem dX5_readExpr_15 : decode cX5_readExpr 15 = .ok (.ifCond .eq 7, 3) := by decide +kernel
theorem dX5_readExpr_18 : decode cX5_readExpr 18 = .ok (.iconst 0, 1) := by decide +kernel
theorem dX5_readExpr_19 : decode cX5_readExpr 19 = .ok (.goto 7, 3) := by decide +kernel
theorem dX5_readExpr_22 : decode cX5_readExpr 22 = .ok (.aload_n 0, 1) := by decide +kernel
theorem dX5_readExpr_23 : decode cX5_readExpr 23 = .ok (.invokevirtual 73, 3) := by decide +kernel
theorem dX5_readExpr_26 : decode cX5_readExpr 26 = .ok (.istore_n 2, 1) := by decide +kernel
theorem dX5_readExpr_27 : decode cX5_readExpr 27 = .ok (.aload_n 0, 1) := by decide +kernel
theorem dX5_readExpr_28 : decode cX5_readExpr 28 = .ok (.iload_n 2, 1) := by decide +kernel
theorem dX5_readExpr_29 : decode cX5_readExpr 29 = .ok (.ifCond .ne 7, 3) := by decide +kernel
theorem dX5_readExpr_32 : decode cX5_readExpr 32 = .ok (.iconst 2, 1) := by decide +kernel
theorem dX5_readExpr_33 : decode cX5_readExpr 33 = .ok (.goto 4, 3) := by decide +kernel
theorem dX5_readExpr_36 : decode cX5_readExpr 36 = .ok (.iload_n 2, 1) := by decide +kernel
theorem dX5_readExpr_37 : decode cX5_readExpr 37 = .ok (.invokevirtual 54, 3) := by decide +kernel
theorem dX5_readExpr_40 : decode cX5_readExpr 40 = .ok (.return_, 1) := by decide +kernel
theorem dX5_readExpr_41 : decode cX5_readExpr 41 = .ok (.aload_n 0, 1) := by decide +kernel
theorem dX5_readExpr_42 : decode cX5_readExpr 42 = .ok (.iload_n 1, 1) := by decide +kernel
theorem dX5_readExpr_43 : decode cX5_readExpr 43 = .ok (.invokevirtual 77, 3) := by decide +kernel
theorem dX5_readExpr_46 : decode cX5_readExpr 46 = .ok (.iconst 0, 1) := by decide +kernel
theorem dX5_readExpr_47 : decode cX5_readExpr 47 = .ok (.istore_n 2, 1) := by decide +kernel
theorem dX5_readExpr_48 : decode cX5_readExpr 48 = .ok (.iload_n 2, 1) := by decide +kernel
theorem dX5_readExpr_49 : decode cX5_readExpr 49 = .ok (.sipush 500, 3) := by decide +kernel
theorem dX5_readExpr_52 : decode cX5_readExpr 52 = .ok (.if_icmp .ge 70, 3) := by decide +kernel
theorem dX5_readExpr_55 : decode cX5_readExpr 55 = .ok (.aload_n 0, 1) := by decide +kernel
theorem dX5_readExpr_56 : decode cX5_readExpr 56 = .ok (.getfield 30, 3) := by decide +kernel
theorem dX5_readExpr_59 : decode cX5_readExpr 59 = .ok (.ifCond .ne 63, 3) := by decide +kernel
theorem dX5_readExpr_62 : decode cX5_readExpr 62 = .ok (.aload_n 0, 1) := by decide +kernel
theorem dX5_readExpr_63 : decode cX5_readExpr 63 = .ok (.getfield 14, 3) := by decide +kernel
theorem dX5_readExpr_66 : decode cX5_readExpr 66 = .ok (.ldc 80, 2) := by decide +kernel
theorem dX5_readExpr_68 : decode cX5_readExpr 68 = .ok (.invokevirtual 48, 3) := by decide +kernel
theorem dX5_readExpr_71 : decode cX5_readExpr 71 = .ok (.istore_n 3, 1) := by decide +kernel
theorem dX5_readExpr_72 : decode cX5_readExpr 72 = .ok (.iload_n 3, 1) := by decide +kernel
theorem dX5_readExpr_73 : decode cX5_readExpr 73 = .ok (.ifCond .ne 16, 3) := by decide +kernel
theorem dX5_readExpr_76 : decode cX5_readExpr 76 = .ok (.aload_n 0, 1) := by decide +kernel
theorem dX5_readExpr_77 : decode cX5_readExpr 77 = .ok (.getfield 14, 3) := by decide +kernel
theorem dX5_readExpr_80 : decode cX5_readExpr 80 = .ok (.ldc 82, 2) := by decide +kernel
theorem dX5_readExpr_82 : decode cX5_readExpr 82 = .ok (.invokevirtual 48, 3) := by decide +kernel
theorem dX5_readExpr_85 : decode cX5_readExpr 85 = .ok (.ifCond .ne 4, 3) := by decide +kernel
theorem dX5_readExpr_88 : decode cX5_readExpr 88 = .ok (.return_, 1) := by decide +kernel
theorem dX5_readExpr_89 : decode cX5_readExpr 89 = .ok (.aload_n 0, 1) := by decide +kernel
theorem dX5_readExpr_90 : decode cX5_readExpr 90 = .ok (.getfield 14, 3) := by decide +kernel
theorem dX5_readExpr_93 : decode cX5_readExpr 93 = .ok (.invokevirtual 57, 3) := by decide +kernel
theorem dX5_readExpr_96 : decode cX5_readExpr 96 = .ok (.aload_n 0, 1) := by decide +kernel
theorem dX5_readExpr_97 : decode cX5_readExpr 97 = .ok (.iload_n 1, 1) := by decide +kernel
theorem dX5_readExpr_98 : decode cX5_readExpr 98 = .ok (.invokevirtual 77, 3) := by decide +kernel
theorem dX5_readExpr_101 : decode cX5_readExpr 101 = .ok (.aload_n 0, 1) := by decide +kernel
theorem dX5_readExpr_102 : decode cX5_readExpr 102 = .ok (.iload_n 3, 1) := by decide +kernel
theorem dX5_readExpr_103 : decode cX5_readExpr 103 = .ok (.ifCond .eq 8, 3) := by decide +kernel
theorem dX5_readExpr_106 : decode cX5_readExpr 106 = .ok (.bipush (-14), 2) := by decide +kernel
theorem dX5_readExpr_108 : decode cX5_readExpr 108 = .ok (.goto 5, 3) := by decide +kernel
theorem dX5_readExpr_111 : decode cX5_readExpr 111 = .ok (.bipush (-15), 2) := by decide +kernel
theorem dX5_readExpr_113 : decode cX5_readExpr 113 = .ok (.invokevirtual 68, 3) := by decide +kernel
theorem dX5_readExpr_116 : decode cX5_readExpr 116 = .ok (.iinc 2 1, 3) := by decide +kernel
theorem dX5_readExpr_119 : decode cX5_readExpr 119 = .ok (.goto (-71), 3) := by decide +kernel
theorem dX5_readExpr_122 : decode cX5_readExpr 122 = .ok (.return_, 1) := by decide +kernel
def wX5_readExpr_37 (re : Nat → Int32 → kx_S → (kx_S → Prop) → Prop) (Q : kx_S → Prop) (s0 : Int32) (s1 : Nat) (σ : kx_S) : Prop := xt σ s1 = 7 ∧ wX5_fail s1 s0 σ (fun σ1 => Q σ1)
def wX5_readExpr_113 (re : Nat → Int32 → kx_S → (kx_S → Prop) → Prop) (k48 : Nat → Int32 → Int32 → kx_S → Prop) (Q : kx_S → Prop) (l0 : Nat) (l1 : Int32) (l2 : Int32) (s0 : Int32) (s1 : Nat) (σ : kx_S) : Prop := xt σ s1 = 7 ∧ wX5_put s1 s0 σ (fun σ3 => ∀ v5 : Int32, v5 = l2 + 1 → k48 l0 l1 v5 σ3)
def wX5_readExpr_26 (re : Nat → Int32 → kx_S → (kx_S → Prop) → Prop) (Q : kx_S → Prop) (l0 : Nat) (s0 : Int32) (σ : kx_S) : Prop := ((¬ s0 = 0 → wX5_readExpr_37 re Q s0 l0 σ) ∧
  (s0 = 0 → wX5_readExpr_37 re Q 2 l0 σ))
def wX5_readExpr_89 (re : Nat → Int32 → kx_S → (kx_S → Prop) → Prop) (k48 : Nat → Int32 → Int32 → kx_S → Prop) (Q : kx_S → Prop) (l0 : Nat) (l1 : Int32) (l2 : Int32) (l3 : Int32) (σ : kx_S) : Prop := xt σ l0 = 7 ∧ ∃ a8, xr σ 112 l0 = some a8 ∧ xt σ a8 = 12 ∧ wX10_advance a8 σ (fun σ10 => xt σ10 l0 = 7 ∧ wX5_readTest re l0 l1 σ10 (fun σ12 => ((l3 = 0 → wX5_readExpr_113 re k48 Q l0 l1 l2 (-15) l0 σ12) ∧
  (¬ (l3 = 0) → wX5_readExpr_113 re k48 Q l0 l1 l2 (-14) l0 σ12))))
def wX5_readExpr_48 (re : Nat → Int32 → kx_S → (kx_S → Prop) → Prop) (Q : kx_S → Prop) : Nat → Nat → Int32 → Int32 → kx_S → Prop
  | 0, _, _, _, _ => False
  | n + 1, l0, l1, l2, σ => ((500 ≤ l2 → Q σ) ∧
    (¬ (500 ≤ l2) → xt σ l0 = 7 ∧ ((¬ (xi σ 115 l0) = 0 → Q σ) ∧
      ((xi σ 115 l0) = 0 → ∃ a18, xr σ 112 l0 = some a18 ∧ xt σ a18 = 12 ∧ wX10_isWord a18 9 σ (fun r21 σ20 => ((¬ r21 = 0 → wX5_readExpr_89 re (wX5_readExpr_48 re Q n) Q l0 l1 l2 r21 σ20) ∧
        (r21 = 0 → xt σ20 l0 = 7 ∧ ∃ a25, xr σ20 112 l0 = some a25 ∧ xt σ20 a25 = 12 ∧ wX10_isWord a25 10 σ20 (fun r28 σ27 => ((¬ r28 = 0 → wX5_readExpr_89 re (wX5_readExpr_48 re Q n) Q l0 l1 l2 r21 σ27) ∧
          (r28 = 0 → Q σ27))))))))))
def wX5_readExpr_b (re : Nat → Int32 → kx_S → (kx_S → Prop) → Prop) (l0 : Nat) (l1 : Int32) (σ : kx_S) (Q : kx_S → Prop) : Prop := ((l1 < 8 → xt σ l0 = 7 ∧ wX5_readTest re l0 l1 σ (fun σ32 => ∃ j, wX5_readExpr_48 re Q j l0 l1 0 σ32)) ∧
  (¬ (l1 < 8) → xt σ l0 = 7 ∧ ∃ a36, xr σ 112 l0 = some a36 ∧ xt σ a36 = 12 ∧ wX10_isWord a36 11 σ (fun r39 σ38 => ((r39 = 0 → xt σ38 l0 = 7 ∧ wX5_faultOfPart l0 σ38 (fun r43 σ42 => wX5_readExpr_26 re Q l0 r43 σ42)) ∧
    (¬ (r39 = 0) → wX5_readExpr_26 re Q l0 0 σ38)))))
set_option maxRecDepth 100000 in
set_option maxHeartbeats 4000000 in
theorem tX5_readExpr_37 (l : Launch) (G : kx_G) (σ0 : kx_S) (re : Nat → Int32 → kx_S → (kx_S → Prop) → Prop) (FR LO : Nat) (hre : ∀ (b : Nat) (a : Int32) (σ : kx_S) (P : kx_S → Prop), re b a σ P → kx_M l G yX5_readExpr cX5_readExpr 4 none FR LO [.ref b, .int a] σ (kx_rv P)) {p : Program} {e : Env} {s : State} {m : MethodId} {args : Array Value} {below : List Frame} {meth : Method} {c : Code} (F : CallFix p m c cX5_readExpr 4 s args kt_ RX5) (hr : meth.sig.returnType = none) (hlocks : meth.locks = false) (Q : kx_S → Prop) : ∀ (s0 : Int32) (s1 : Nat) (σ : kx_S) (H : Heap) (locs : List Loc) (ls : Array Slot), wX5_readExpr_37 re Q s0 s1 σ → kx_X G (xc σ0) s H locs σ → lv_has ls 4 [] → kx_W p l e (FR + 11) (LO + 238) (xc σ0) s m args below meth c H locs σ (MQ below (kx_Q G σ0 (kx_rv Q)) args s (kx_N - xc σ0) (600 * (kx_N - xc σ0)) (kx_A G)) (F0 m 37 ls [.int s0, .ref s1]) := by
  intro s0 s1 σ H locs ls h C hl
  obtain ⟨ht2, h⟩ := h
  refine xk_X5_fail F C s1 s0 ht2 h ux_432 (by omega) (by omega) hl.1 (by simp [Value.category]) dX5_readExpr_37 (fun σ1 H locs h C => ?_)
  exact kx_vret F C hr hlocks h dX5_readExpr_40
set_option maxRecDepth 100000 in
set_option maxHeartbeats 4000000 in
theorem tX5_readExpr_113 (l : Launch) (G : kx_G) (σ0 : kx_S) (re : Nat → Int32 → kx_S → (kx_S → Prop) → Prop) (FR LO : Nat) (hre : ∀ (b : Nat) (a : Int32) (σ : kx_S) (P : kx_S → Prop), re b a σ P → kx_M l G yX5_readExpr cX5_readExpr 4 none FR LO [.ref b, .int a] σ (kx_rv P)) {p : Program} {e : Env} {s : State} {m : MethodId} {args : Array Value} {below : List Frame} {meth : Method} {c : Code} (F : CallFix p m c cX5_readExpr 4 s args kt_ RX5) (hr : meth.sig.returnType = none) (hlocks : meth.locks = false) (Q : kx_S → Prop) (k48 : Nat → Int32 → Int32 → kx_S → Prop) (hk48 : ∀ (l0 : Nat) (l1 : Int32) (l2 : Int32) (σ : kx_S) (H : Heap) (locs : List Loc) (ls : Array Slot), k48 l0 l1 l2 σ → kx_X G (xc σ0) s H locs σ → lv_has ls 4 [(0, .ref l0), (1, .int l1), (2, .int l2)] → kx_W p l e (FR + 11) (LO + 238) (xc σ0) s m args below meth c H locs σ (MQ below (kx_Q G σ0 (kx_rv Q)) args s (kx_N - xc σ0) (600 * (kx_N - xc σ0)) (kx_A G)) (F0 m 48 ls [])) : ∀ (l0 : Nat) (l1 : Int32) (l2 : Int32) (s0 : Int32) (s1 : Nat) (σ : kx_S) (H : Heap) (locs : List Loc) (ls : Array Slot), wX5_readExpr_113 re k48 Q l0 l1 l2 s0 s1 σ → kx_X G (xc σ0) s H locs σ → lv_has ls 4 [(0, .ref l0), (1, .int l1), (2, .int l2)] → kx_W p l e (FR + 11) (LO + 238) (xc σ0) s m args below meth c H locs σ (MQ below (kx_Q G σ0 (kx_rv Q)) args s (kx_N - xc σ0) (600 * (kx_N - xc σ0)) (kx_A G)) (F0 m 113 ls [.int s0, .ref s1]) := by
  intro l0 l1 l2 s0 s1 σ H locs ls h C hl
  obtain ⟨ht4, h⟩ := h
  refine xk_X5_put F C s1 s0 ht4 h ux_444 (by omega) (by omega) hl.1 (by simp [Value.category]) dX5_readExpr_113 (fun σ3 H locs h C => ?_)
  obtain ⟨v5, ev5⟩ : ∃ z9 : Int32, z9 = l2 + 1 := ⟨_, rfl⟩
  replace h := h v5 ev5
  refine lv_iinc (v := v5) (lv' := [(2, .int v5), (0, .ref l0), (1, .int l1)]) F.1 F.2.1 dX5_readExpr_116 hl (k := 2) rfl (by rw [ev5]; rfl) (by decide) rfl (fun ls hl => ?_)
  refine lv_goto (tgt := 48) F.1 F.2.1 dX5_readExpr_119 (by decide) ?_
  exact hk48 l0 l1 v5 σ3 H locs ls h C (lv_sub hl [1, 2, 0] rfl)
set_option maxRecDepth 100000 in
set_option maxHeartbeats 4000000 in
theorem tX5_readExpr_26 (l : Launch) (G : kx_G) (σ0 : kx_S) (re : Nat → Int32 → kx_S → (kx_S → Prop) → Prop) (FR LO : Nat) (hre : ∀ (b : Nat) (a : Int32) (σ : kx_S) (P : kx_S → Prop), re b a σ P → kx_M l G yX5_readExpr cX5_readExpr 4 none FR LO [.ref b, .int a] σ (kx_rv P)) {p : Program} {e : Env} {s : State} {m : MethodId} {args : Array Value} {below : List Frame} {meth : Method} {c : Code} (F : CallFix p m c cX5_readExpr 4 s args kt_ RX5) (hr : meth.sig.returnType = none) (hlocks : meth.locks = false) (Q : kx_S → Prop) : ∀ (l0 : Nat) (s0 : Int32) (σ : kx_S) (H : Heap) (locs : List Loc) (ls : Array Slot), wX5_readExpr_26 re Q l0 s0 σ → kx_X G (xc σ0) s H locs σ → lv_has ls 4 [(0, .ref l0)] → kx_W p l e (FR + 11) (LO + 238) (xc σ0) s m args below meth c H locs σ (MQ below (kx_Q G σ0 (kx_rv Q)) args s (kx_N - xc σ0) (600 * (kx_N - xc σ0)) (kx_A G)) (F0 m 26 ls [.int s0]) := by
  intro l0 s0 σ H locs ls h C hl
  refine lv_istore_n (lv' := [(2, .int s0), (0, .ref l0)]) F.1 F.2.1 dX5_readExpr_26 rfl hl (by decide) rfl (fun ls hl => ?_)
  refine lv_aload_n F.1 F.2.1 dX5_readExpr_27 rfl (lv_at hl 1 rfl) ?_
  refine lv_iload_n F.1 F.2.1 dX5_readExpr_28 rfl (lv_at hl 0 rfl) ?_
  refine lv_if_ne (tgt := 36) F.1 F.2.1 dX5_readExpr_29 (by decide) (fun c6 => ?_) (fun c6 => ?_)
  · replace h := h.1 c6
    refine lv_iload_n F.1 F.2.1 dX5_readExpr_36 rfl (lv_at hl 0 rfl) ?_
    exact tX5_readExpr_37 l G σ0 re FR LO hre F hr hlocks Q s0 l0 σ H locs ls h C (lv_sub hl [] rfl)
  · replace h := h.2 c6
    refine lv_iconst (v := 2) F.1 F.2.1 dX5_readExpr_32 (by decide) ?_
    refine lv_goto (tgt := 37) F.1 F.2.1 dX5_readExpr_33 (by decide) ?_
    exact tX5_readExpr_37 l G σ0 re FR LO hre F hr hlocks Q 2 l0 σ H locs ls h C (lv_sub hl [] rfl)
set_option maxRecDepth 100000 in
set_option maxHeartbeats 4000000 in
theorem tX5_readExpr_89 (l : Launch) (G : kx_G) (σ0 : kx_S) (re : Nat → Int32 → kx_S → (kx_S → Prop) → Prop) (FR LO : Nat) (hre : ∀ (b : Nat) (a : Int32) (σ : kx_S) (P : kx_S → Prop), re b a σ P → kx_M l G yX5_readExpr cX5_readExpr 4 none FR LO [.ref b, .int a] σ (kx_rv P)) {p : Program} {e : Env} {s : State} {m : MethodId} {args : Array Value} {below : List Frame} {meth : Method} {c : Code} (F : CallFix p m c cX5_readExpr 4 s args kt_ RX5) (hr : meth.sig.returnType = none) (hlocks : meth.locks = false) (Q : kx_S → Prop) (k48 : Nat → Int32 → Int32 → kx_S → Prop) (hk48 : ∀ (l0 : Nat) (l1 : Int32) (l2 : Int32) (σ : kx_S) (H : Heap) (locs : List Loc) (ls : Array Slot), k48 l0 l1 l2 σ → kx_X G (xc σ0) s H locs σ → lv_has ls 4 [(0, .ref l0), (1, .int l1), (2, .int l2)] → kx_W p l e (FR + 11) (LO + 238) (xc σ0) s m args below meth c H locs σ (MQ below (kx_Q G σ0 (kx_rv Q)) args s (kx_N - xc σ0) (600 * (kx_N - xc σ0)) (kx_A G)) (F0 m 48 ls [])) : ∀ (l0 : Nat) (l1 : Int32) (l2 : Int32) (l3 : Int32) (σ : kx_S) (H : Heap) (locs : List Loc) (ls : Array Slot), wX5_readExpr_89 re k48 Q l0 l1 l2 l3 σ → kx_X G (xc σ0) s H locs σ → lv_has ls 4 [(0, .ref l0), (1, .int l1), (2, .int l2), (3, .int l3)] → kx_W p l e (FR + 11) (LO + 238) (xc σ0) s m args below meth c H locs σ (MQ below (kx_Q G σ0 (kx_rv Q)) args s (kx_N - xc σ0) (600 * (kx_N - xc σ0)) (kx_A G)) (F0 m 89 ls []) := by
  intro l0 l1 l2 l3 σ H locs ls h C hl
  refine lv_aload_n F.1 F.2.1 dX5_readExpr_89 rfl (lv_at hl 0 rfl) ?_
  obtain ⟨ht7, h⟩ := h
  refine xg_X5_tokens F C ht7 ux_416 (fun _ h9 => h9) dX5_readExpr_90 ?_
  obtain ⟨a8, ea9, h⟩ := h
  refine xq_nn ea9 ?_
  obtain ⟨ht11, h⟩ := h
  refine xk_X10_advance F C a8 ht11 h ux_431 (by omega) (by omega) hl.1 (by simp [Value.category]) dX5_readExpr_93 (fun σ10 H locs h C => ?_)
  refine lv_aload_n F.1 F.2.1 dX5_readExpr_96 rfl (lv_at hl 0 rfl) ?_
  refine lv_iload_n F.1 F.2.1 dX5_readExpr_97 rfl (lv_at hl 1 rfl) ?_
  obtain ⟨ht13, h⟩ := h
  refine xk_X5_readTest F C re FR LO hre l0 l1 ht13 h ux_464 (by omega) (by omega) hl.1 (by simp [Value.category]) dX5_readExpr_98 (fun σ12 H locs h C => ?_)
  refine lv_aload_n F.1 F.2.1 dX5_readExpr_101 rfl (lv_at hl 0 rfl) ?_
  refine lv_iload_n F.1 F.2.1 dX5_readExpr_102 rfl (lv_at hl 3 rfl) ?_
  refine lv_if_eq (tgt := 111) F.1 F.2.1 dX5_readExpr_103 (by decide) (fun c14 => ?_) (fun c14 => ?_)
  · replace h := h.1 c14
    refine lv_bipush (v := (-15)) F.1 F.2.1 dX5_readExpr_111 (by decide) ?_
    exact tX5_readExpr_113 l G σ0 re FR LO hre F hr hlocks Q k48 hk48 l0 l1 l2 (-15) l0 σ12 H locs ls h C (lv_sub hl [0, 1, 2] rfl)
  · replace h := h.2 c14
    refine lv_bipush (v := (-14)) F.1 F.2.1 dX5_readExpr_106 (by decide) ?_
    refine lv_goto (tgt := 113) F.1 F.2.1 dX5_readExpr_108 (by decide) ?_
    exact tX5_readExpr_113 l G σ0 re FR LO hre F hr hlocks Q k48 hk48 l0 l1 l2 (-14) l0 σ12 H locs ls h C (lv_sub hl [0, 1, 2] rfl)
set_option maxRecDepth 100000 in
set_option maxHeartbeats 4000000 in
theorem tX5_readExpr_48 (l : Launch) (G : kx_G) (σ0 : kx_S) (re : Nat → Int32 → kx_S → (kx_S → Prop) → Prop) (FR LO : Nat) (hre : ∀ (b : Nat) (a : Int32) (σ : kx_S) (P : kx_S → Prop), re b a σ P → kx_M l G yX5_readExpr cX5_readExpr 4 none FR LO [.ref b, .int a] σ (kx_rv P)) {p : Program} {e : Env} {s : State} {m : MethodId} {args : Array Value} {below : List Frame} {meth : Method} {c : Code} (F : CallFix p m c cX5_readExpr 4 s args kt_ RX5) (hr : meth.sig.returnType = none) (hlocks : meth.locks = false) (Q : kx_S → Prop) : ∀ (n : Nat) (l0 : Nat) (l1 : Int32) (l2 : Int32) (σ : kx_S) (H : Heap) (locs : List Loc) (ls : Array Slot), wX5_readExpr_48 re Q n l0 l1 l2 σ → kx_X G (xc σ0) s H locs σ → lv_has ls 4 [(0, .ref l0), (1, .int l1), (2, .int l2)] → kx_W p l e (FR + 11) (LO + 238) (xc σ0) s m args below meth c H locs σ (MQ below (kx_Q G σ0 (kx_rv Q)) args s (kx_N - xc σ0) (600 * (kx_N - xc σ0)) (kx_A G)) (F0 m 48 ls []) := by
  intro n
  induction n with
  | zero => intro l0 l1 l2 σ H locs ls h; exact h.elim
  | succ n ih =>
    intro l0 l1 l2 σ H locs ls h C hl
    refine lv_iload_n F.1 F.2.1 dX5_readExpr_48 rfl (lv_at hl 2 rfl) ?_
    refine lv_sipush (v := 500) F.1 F.2.1 dX5_readExpr_49 (by decide) ?_
    refine lv_icmp_ge (tgt := 122) F.1 F.2.1 dX5_readExpr_52 (by decide) (fun c15 => ?_) (fun c15 => ?_)
    · replace h := h.1 c15
      exact kx_vret F C hr hlocks h dX5_readExpr_122
    · replace h := h.2 c15
      refine lv_aload_n F.1 F.2.1 dX5_readExpr_55 rfl (lv_at hl 0 rfl) ?_
      obtain ⟨ht16, h⟩ := h
      refine xg_X5_fault F C ht16 ux_424 (fun _ h9 => h9) dX5_readExpr_56 ?_
      refine lv_if_ne (tgt := 122) F.1 F.2.1 dX5_readExpr_59 (by decide) (fun c17 => ?_) (fun c17 => ?_)
      · replace h := h.1 c17
        exact kx_vret F C hr hlocks h dX5_readExpr_122
      · replace h := h.2 c17
        refine lv_aload_n F.1 F.2.1 dX5_readExpr_62 rfl (lv_at hl 0 rfl) ?_
        refine xg_X5_tokens F C ht16 ux_416 (fun _ h9 => h9) dX5_readExpr_63 ?_
        obtain ⟨a18, ea19, h⟩ := h
        refine xq_nn ea19 ?_
        refine kx_ldcW (i := 9) F C rfl dX5_readExpr_66 ?_
        obtain ⟨ht22, h⟩ := h
        refine xk_X10_isWord F C a18 9 ht22 h ux_436 (by omega) (by omega) hl.1 (by simp [Value.category]) dX5_readExpr_68 (fun r21 σ20 H locs h C => ?_)
        refine lv_istore_n (lv' := [(3, .int r21), (0, .ref l0), (1, .int l1), (2, .int l2)]) F.1 F.2.1 dX5_readExpr_71 rfl hl (by decide) rfl (fun ls hl => ?_)
        refine lv_iload_n F.1 F.2.1 dX5_readExpr_72 rfl (lv_at hl 0 rfl) ?_
        refine lv_if_ne (tgt := 89) F.1 F.2.1 dX5_readExpr_73 (by decide) (fun c23 => ?_) (fun c23 => ?_)
        · replace h := h.1 c23
          exact tX5_readExpr_89 l G σ0 re FR LO hre F hr hlocks Q (wX5_readExpr_48 re Q n) (fun l0 l1 l2 σ9 H locs ls h C hl => ih l0 l1 l2 σ9 H locs ls h C hl) l0 l1 l2 r21 σ20 H locs ls h C (lv_sub hl [1, 2, 3, 0] rfl)
        · replace h := h.2 c23
          refine lv_aload_n F.1 F.2.1 dX5_readExpr_76 rfl (lv_at hl 1 rfl) ?_
          obtain ⟨ht24, h⟩ := h
          refine xg_X5_tokens F C ht24 ux_416 (fun _ h9 => h9) dX5_readExpr_77 ?_
          obtain ⟨a25, ea26, h⟩ := h
          refine xq_nn ea26 ?_
          refine kx_ldcW (i := 10) F C rfl dX5_readExpr_80 ?_
          obtain ⟨ht29, h⟩ := h
          refine xk_X10_isWord F C a25 10 ht29 h ux_436 (by omega) (by omega) hl.1 (by simp [Value.category]) dX5_readExpr_82 (fun r28 σ27 H locs h C => ?_)
          refine lv_if_ne (tgt := 89) F.1 F.2.1 dX5_readExpr_85 (by decide) (fun c30 => ?_) (fun c30 => ?_)
          · replace h := h.1 c30
            exact tX5_readExpr_89 l G σ0 re FR LO hre F hr hlocks Q (wX5_readExpr_48 re Q n) (fun l0 l1 l2 σ9 H locs ls h C hl => ih l0 l1 l2 σ9 H locs ls h C hl) l0 l1 l2 r21 σ27 H locs ls h C (lv_sub hl [1, 2, 3, 0] rfl)
          · replace h := h.2 c30
            exact kx_vret F C hr hlocks h dX5_readExpr_88
set_option maxRecDepth 100000 in
set_option maxHeartbeats 4000000 in
theorem hx_X5_readExpr_b (l : Launch) (G : kx_G) (re : Nat → Int32 → kx_S → (kx_S → Prop) → Prop) (FR LO : Nat) (hre : ∀ (b : Nat) (a : Int32) (σ : kx_S) (P : kx_S → Prop), re b a σ P → kx_M l G yX5_readExpr cX5_readExpr 4 none FR LO [.ref b, .int a] σ (kx_rv P)) (l0 : Nat) (l1 : Int32) (σ : kx_S) (Q : kx_S → Prop) (h : wX5_readExpr_b re l0 l1 σ Q) : kx_M l G yX5_readExpr cX5_readExpr 4 none (FR + 11) (LO + 238) [.ref l0, .int l1] σ (kx_rv Q) := by
  refine kx_enter (by decide) rfl (Nat.le_of_ble_eq_true rfl) ?_
  intro p e s m below meth c ls F hr hlocks C hname hl
  have hl : lv_has ls 4 [(0, .ref l0), (1, .int l1)] := hl
  obtain ⟨H, eH⟩ : ∃ z9, z9 = s.heap := ⟨_, rfl⟩
  obtain ⟨locs, eL⟩ : ∃ z9 : List Loc, z9 = [] := ⟨_, rfl⟩
  rw [← eH, ← eL] at C
  rw [← eH, ← eL]
  obtain ⟨σ0, e0⟩ : ∃ z9, z9 = σ := ⟨_, rfl⟩
  have C : kx_X G (xc σ0) s H locs σ := by rw [e0]; exact C
  suffices hgo : kx_W p l e (FR + 11) (LO + 238) (xc σ0) s m ([.ref l0, .int l1] : List Value).toArray below meth c H locs σ (MQ below (kx_Q G σ0 (kx_rv Q)) ([.ref l0, .int l1] : List Value).toArray s (kx_N - xc σ0) (600 * (kx_N - xc σ0)) (kx_A G)) (F0 m 0 ls []) by rw [e0] at hgo; exact hgo
  clear e0
  refine lv_iload_n F.1 F.2.1 dX5_readExpr_0 rfl (lv_at hl 1 rfl) ?_
  refine lv_bipush (v := 8) F.1 F.2.1 dX5_readExpr_1 (by decide) ?_
  refine lv_icmp_lt (tgt := 41) F.1 F.2.1 dX5_readExpr_3 (by decide) (fun c31 => ?_) (fun c31 => ?_)
  · replace h := h.1 c31
    refine lv_aload_n F.1 F.2.1 dX5_readExpr_41 rfl (lv_at hl 0 rfl) ?_
    refine lv_iload_n F.1 F.2.1 dX5_readExpr_42 rfl (lv_at hl 1 rfl) ?_
    obtain ⟨ht33, h⟩ := h
    refine xk_X5_readTest F C re FR LO hre l0 l1 ht33 h ux_464 (by omega) (by omega) hl.1 (by simp [Value.category]) dX5_readExpr_43 (fun σ32 H locs h C => ?_)
    refine lv_iconst (v := 0) F.1 F.2.1 dX5_readExpr_46 (by decide) ?_
    refine lv_istore_n (lv' := [(2, .int 0), (0, .ref l0), (1, .int l1)]) F.1 F.2.1 dX5_readExpr_47 rfl hl (by decide) rfl (fun ls hl => ?_)
    obtain ⟨n34, h⟩ := h
    exact tX5_readExpr_48 l G σ0 re FR LO hre F hr hlocks Q n34 l0 l1 0 σ32 H locs ls h C (lv_sub hl [1, 2, 0] rfl)
  · replace h := h.2 c31
    refine lv_aload_n F.1 F.2.1 dX5_readExpr_6 rfl (lv_at hl 0 rfl) ?_
    obtain ⟨ht35, h⟩ := h
    refine xg_X5_tokens F C ht35 ux_416 (fun _ h9 => h9) dX5_readExpr_7 ?_
    obtain ⟨a36, ea37, h⟩ := h
    refine xq_nn ea37 ?_
    refine kx_ldcW (i := 11) F C rfl dX5_readExpr_10 ?_
    obtain ⟨ht40, h⟩ := h
    refine xk_X10_isWord F C a36 11 ht40 h ux_436 (by omega) (by omega) hl.1 (by simp [Value.category]) dX5_readExpr_12 (fun r39 σ38 H locs h C => ?_)
    refine lv_if_eq (tgt := 22) F.1 F.2.1 dX5_readExpr_15 (by decide) (fun c41 => ?_) (fun c41 => ?_)
    · replace h := h.1 c41
      refine lv_aload_n F.1 F.2.1 dX5_readExpr_22 rfl (lv_at hl 0 rfl) ?_
      obtain ⟨ht44, h⟩ := h
      refine xk_X5_faultOfPart F C l0 ht44 h ux_445 (by omega) (by omega) hl.1 (by simp [Value.category]) dX5_readExpr_23 (fun r43 σ42 H locs h C => ?_)
      exact tX5_readExpr_26 l G σ0 re FR LO hre F hr hlocks Q l0 r43 σ42 H locs ls h C (lv_sub hl [0] rfl)
    · replace h := h.2 c41
      refine lv_iconst (v := 0) F.1 F.2.1 dX5_readExpr_18 (by decide) ?_
      refine lv_goto (tgt := 26) F.1 F.2.1 dX5_readExpr_19 (by decide) ?_
      exact tX5_readExpr_26 l G σ0 re FR LO hre F hr hlocks Q l0 0 σ38 H locs ls h C (lv_sub hl [0] rfl)
section
variable {p : Program} {l : Launch} {e : Env} {fr lo c0 : Nat} {s : State} {m : MethodId} {args : Array Value} {below : List Frame} {meth : Method} {c : Code} {H : Heap} {locs : List Loc} {Q : State → Prop}
variable {cc : ByteArray} {pc nL index : Nat} {ls : Array Slot} {rest : List Value} {G : kx_G} {σ : kx_S} {own : String}
end
def wX5_readExpr : Nat → Nat → Int32 → kx_S → (kx_S → Prop) → Prop
  | 0, _, _, _, _ => False
  | D + 1, b, a, σ, Q => wX5_readExpr_b (wX5_readExpr D) b a σ Q
theorem hd_X5_readExpr (l : Launch) (G : kx_G) : ∀ (D b : Nat) (a : Int32) (σ : kx_S) (P : kx_S → Prop), wX5_readExpr D b a σ P → kx_M l G yX5_readExpr cX5_readExpr 4 none (D * 11) (D * 238) [.ref b, .int a] σ (kx_rv P) := by
  intro D
  induction D with
  | zero => intro b a σ P h; exact h.elim
  | succ D ih =>
    intro b a σ P h
    rw [Nat.succ_mul, Nat.succ_mul]
    exact hx_X5_readExpr_b l G (wX5_readExpr D) (D * 11) (D * 238) ih b a σ P h
section
variable {p : Program} {l : Launch} {e : Env} {fr lo c0 : Nat} {s : State} {m : MethodId} {args : Array Value} {below : List Frame} {meth : Method} {c : Code} {H : Heap} {locs : List Loc} {Q : State → Prop}
variable {cc : ByteArray} {pc nL index : Nat} {ls : Array Slot} {rest : List Value} {G : kx_G} {σ : kx_S} {own : String}
theorem xk_X5_readExpr {P : kx_S → Prop} (F : CallFix p m c cc nL s args kt_ own) (C : kx_X G c0 s H locs σ) (l0 : Nat) (l1 : Int32) (ha : xt σ l0 = 7) (h : wX5_readExpr 10 l0 l1 σ P) (hw : Cond.methodLink own index yX5_readExpr ∈ kt_) (h1 : 110 + 1 ≤ fr) (h2 : 8 + (4 + 11) + 2380 ≤ lo) (hsz : ls.size = nL) (hW : (rest.map fun v => v.category).sum ≤ 8) (hdg : decode cc pc = .ok (.invokevirtual index, 3)) (kk : ∀ (u : kx_S) (H1 : Heap) (locs1 : List Loc), P u → kx_X G c0 s H1 locs1 u → kx_W p l e fr lo c0 s m args below meth c H1 locs1 u Q (F0 m (pc + 3) ls rest)) : kx_W p l e fr lo c0 s m args below meth c H locs σ Q (F0 m pc ls (.int l1 :: .ref l0 :: rest)) :=
  xk_X5_readExpr_re F C ha (hd_X5_readExpr l G 10 l0 l1 σ P h) hw h1 h2 hsz hW hdg kk
end
theorem dX5_readRule_0 : decode cX5_readRule 0 = .ok (.aload_n 0, 1) := by decide +kernel
theorem dX5_readRule_1 : decode cX5_readRule 1 = .ok (.getfield 14, 3) := by decide +kernel
theorem dX5_readRule_4 : decode cX5_readRule 4 = .ok (.ldc 46, 2) := by decide +kernel
theorem dX5_readRule_6 : decode cX5_readRule 6 = .ok (.invokevirtual 48, 3) := by decide +kernel
theorem dX5_readRule_9 : decode cX5_readRule 9 = .ok (.istore_n 2, 1) := by decide +kernel
theorem dX5_readRule_10 : decode cX5_readRule 10 = .ok (.iload_n 2, 1) := by decide +kernel
theorem dX5_readRule_11 : decode cX5_readRule 11 = .ok (.ifCond .ne 21, 3) := by decide +kernel
theorem dX5_readRule_14 : decode cX5_readRule 14 = .ok (.aload_n 0, 1) := by decide +kernel
theorem dX5_readRule_15 : decode cX5_readRule 15 = .ok (.getfield 14, 3) := by decide +kernel
theorem dX5_readRule_18 : decode cX5_readRule 18 = .ok (.ldc 52, 2) := by decide +kernel
theorem dX5_readRule_20 : decode cX5_readRule 20 = .ok (.invokevirtual 48, 3) := by decide +kernel
theorem dX5_readRule_23 : decode cX5_readRule 23 = .ok (.ifCond .ne 9, 3) := by decide +kernel
theorem dX5_readRule_26 : decode cX5_readRule 26 = .ok (.aload_n 0, 1) := by decide +kernel
theorem dX5_readRule_27 : decode cX5_readRule 27 = .ok (.iconst 1, 1) := by decide +kernel
theorem dX5_readRule_28 : decode cX5_readRule 28 = .ok (.invokevirtual 54, 3) := by decide +kernel
theorem dX5_readRule_31 : decode cX5_readRule 31 = .ok (.return_, 1) := by decide +kernel
theorem dX5_readRule_32 : decode cX5_readRule 32 = .ok (.iload_n 1, 1) := by decide +kernel
theorem dX5_readRule_33 : decode cX5_readRule 33 = .ok (.bipush 12, 2) := by decide +kernel
theorem dX5_readRule_35 : decode cX5_readRule 35 = .ok (.if_icmp .ne 9, 3) := by decide +kernel
theorem dX5_readRule_38 : decode cX5_readRule 38 = .ok (.aload_n 0, 1) := by decide +kernel
theorem dX5_readRule_39 : decode cX5_readRule 39 = .ok (.iconst 2, 1) := by decide +kernel
theorem dX5_readRule_40 : decode cX5_readRule 40 = .ok (.invokevirtual 54, 3) := by decide +kernel
theorem dX5_readRule_43 : decode cX5_readRule 43 = .ok (.return_, 1) := by decide +kernel
theorem dX5_readRule_44 : decode cX5_readRule 44 = .ok (.aload_n 0, 1) := by decide +kernel
theorem dX5_readRule_45 : decode cX5_readRule 45 = .ok (.getfield 14, 3) := by decide +kernel
theorem dX5_readRule_48 : decode cX5_readRule 48 = .ok (.invokevirtual 57, 3) := by decide +kernel
theorem dX5_readRule_51 : decode cX5_readRule 51 = .ok (.aload_n 0, 1) := by decide +kernel
theorem dX5_readRule_52 : decode cX5_readRule 52 = .ok (.iconst 0, 1) := by decide +kernel
theorem dX5_readRule_53 : decode cX5_readRule 53 = .ok (.invokevirtual 60, 3) := by decide +kernel
theorem dX5_readRule_56 : decode cX5_readRule 56 = .ok (.aload_n 0, 1) := by decide +kernel
theorem dX5_readRule_57 : decode cX5_readRule 57 = .ok (.bipush 59, 2) := by decide +kernel
theorem dX5_readRule_59 : decode cX5_readRule 59 = .ok (.invokevirtual 63, 3) := by decide +kernel
theorem dX5_readRule_62 : decode cX5_readRule 62 = .ok (.aload_n 0, 1) := by decide +kernel
theorem dX5_readRule_63 : decode cX5_readRule 63 = .ok (.iload_n 2, 1) := by decide +kernel
theorem dX5_readRule_64 : decode cX5_readRule 64 = .ok (.ifCond .eq 8, 3) := by decide +kernel
theorem dX5_readRule_67 : decode cX5_readRule 67 = .ok (.bipush (-17), 2) := by decide +kernel
theorem dX5_readRule_69 : decode cX5_readRule 69 = .ok (.goto 5, 3) := by decide +kernel
theorem dX5_readRule_72 : decode cX5_readRule 72 = .ok (.bipush (-18), 2) := by decide +kernel
theorem dX5_readRule_74 : decode cX5_readRule 74 = .ok (.invokevirtual 68, 3) := by decide +kernel
theorem dX5_readRule_77 : decode cX5_readRule 77 = .ok (.return_, 1) := by decide +kernel
def wX5_readRule_74 (Q : kx_S → Prop) (s0 : Int32) (s1 : Nat) (σ : kx_S) : Prop := xt σ s1 = 7 ∧ wX5_put s1 s0 σ (fun σ1 => Q σ1)
def wX5_readRule_32 (Q : kx_S → Prop) (l0 : Nat) (l1 : Int32) (l2 : Int32) (σ : kx_S) : Prop := ((¬ l1 = 12 → xt σ l0 = 7 ∧ ∃ a5, xr σ 112 l0 = some a5 ∧ xt σ a5 = 12 ∧ wX10_advance a5 σ (fun σ7 => xt σ7 l0 = 7 ∧ wX5_readExpr 10 l0 0 σ7 (fun σ9 => xt σ9 l0 = 7 ∧ wX5_pass l0 59 σ9 (fun σ11 => ((l2 = 0 → wX5_readRule_74 Q (-18) l0 σ11) ∧
    (¬ (l2 = 0) → wX5_readRule_74 Q (-17) l0 σ11)))))) ∧
  (l1 = 12 → xt σ l0 = 7 ∧ wX5_fail l0 2 σ (fun σ14 => Q σ14)))
def wX5_readRule (l0 : Nat) (l1 : Int32) (σ : kx_S) (Q : kx_S → Prop) : Prop := xt σ l0 = 7 ∧ ∃ a17, xr σ 112 l0 = some a17 ∧ xt σ a17 = 12 ∧ wX10_isWord a17 8 σ (fun r20 σ19 => ((¬ r20 = 0 → wX5_readRule_32 Q l0 l1 r20 σ19) ∧
  (r20 = 0 → xt σ19 l0 = 7 ∧ ∃ a24, xr σ19 112 l0 = some a24 ∧ xt σ19 a24 = 12 ∧ wX10_isWord a24 7 σ19 (fun r27 σ26 => ((¬ r27 = 0 → wX5_readRule_32 Q l0 l1 r20 σ26) ∧
    (r27 = 0 → xt σ26 l0 = 7 ∧ wX5_fail l0 1 σ26 (fun σ30 => Q σ30)))))))
set_option maxRecDepth 100000 in
set_option maxHeartbeats 4000000 in
theorem tX5_readRule_74 (l : Launch) (G : kx_G) (σ0 : kx_S) {p : Program} {e : Env} {s : State} {m : MethodId} {args : Array Value} {below : List Frame} {meth : Method} {c : Code} (F : CallFix p m c cX5_readRule 3 s args kt_ RX5) (hr : meth.sig.returnType = none) (hlocks : meth.locks = false) (Q : kx_S → Prop) : ∀ (s0 : Int32) (s1 : Nat) (σ : kx_S) (H : Heap) (locs : List Loc) (ls : Array Slot), wX5_readRule_74 Q s0 s1 σ → kx_X G (xc σ0) s H locs σ → lv_has ls 3 [] → kx_W p l e (111) (2403) (xc σ0) s m args below meth c H locs σ (MQ below (kx_Q G σ0 (kx_rv Q)) args s (kx_N - xc σ0) (600 * (kx_N - xc σ0)) (kx_A G)) (F0 m 74 ls [.int s0, .ref s1]) := by
  intro s0 s1 σ H locs ls h C hl
  obtain ⟨ht2, h⟩ := h
  refine xk_X5_put F C s1 s0 ht2 h ux_444 (Nat.le_of_ble_eq_true rfl) (Nat.le_of_ble_eq_true rfl) hl.1 (by simp [Value.category]) dX5_readRule_74 (fun σ1 H locs h C => ?_)
  exact kx_vret F C hr hlocks h dX5_readRule_77
set_option maxRecDepth 100000 in
set_option maxHeartbeats 4000000 in
theorem tX5_readRule_32 (l : Launch) (G : kx_G) (σ0 : kx_S) {p : Program} {e : Env} {s : State} {m : MethodId} {args : Array Value} {below : List Frame} {meth : Method} {c : Code} (F : CallFix p m c cX5_readRule 3 s args kt_ RX5) (hr : meth.sig.returnType = none) (hlocks : meth.locks = false) (Q : kx_S → Prop) : ∀ (l0 : Nat) (l1 : Int32) (l2 : Int32) (σ : kx_S) (H : Heap) (locs : List Loc) (ls : Array Slot), wX5_readRule_32 Q l0 l1 l2 σ → kx_X G (xc σ0) s H locs σ → lv_has ls 3 [(0, .ref l0), (1, .int l1), (2, .int l2)] → kx_W p l e (111) (2403) (xc σ0) s m args below meth c H locs σ (MQ below (kx_Q G σ0 (kx_rv Q)) args s (kx_N - xc σ0) (600 * (kx_N - xc σ0)) (kx_A G)) (F0 m 32 ls []) := by
  intro l0 l1 l2 σ H locs ls h C hl
  refine lv_iload_n F.1 F.2.1 dX5_readRule_32 rfl (lv_at hl 1 rfl) ?_
  refine lv_bipush (v := 12) F.1 F.2.1 dX5_readRule_33 (by decide) ?_
  refine lv_icmp_ne (tgt := 44) F.1 F.2.1 dX5_readRule_35 (by decide) (fun c3 => ?_) (fun c3 => ?_)
  · replace h := h.1 c3
    refine lv_aload_n F.1 F.2.1 dX5_readRule_44 rfl (lv_at hl 0 rfl) ?_
    obtain ⟨ht4, h⟩ := h
    refine xg_X5_tokens F C ht4 ux_416 (fun _ h9 => h9) dX5_readRule_45 ?_
    obtain ⟨a5, ea6, h⟩ := h
    refine xq_nn ea6 ?_
    obtain ⟨ht8, h⟩ := h
    refine xk_X10_advance F C a5 ht8 h ux_431 (Nat.le_of_ble_eq_true rfl) (Nat.le_of_ble_eq_true rfl) hl.1 (by simp [Value.category]) dX5_readRule_48 (fun σ7 H locs h C => ?_)
    refine lv_aload_n F.1 F.2.1 dX5_readRule_51 rfl (lv_at hl 0 rfl) ?_
    refine lv_iconst (v := 0) F.1 F.2.1 dX5_readRule_52 (by decide) ?_
    obtain ⟨ht10, h⟩ := h
    refine xk_X5_readExpr F C l0 0 ht10 h ux_447 (Nat.le_of_ble_eq_true rfl) (Nat.le_of_ble_eq_true rfl) hl.1 (by simp [Value.category]) dX5_readRule_53 (fun σ9 H locs h C => ?_)
    refine lv_aload_n F.1 F.2.1 dX5_readRule_56 rfl (lv_at hl 0 rfl) ?_
    refine lv_bipush (v := 59) F.1 F.2.1 dX5_readRule_57 (by decide) ?_
    obtain ⟨ht12, h⟩ := h
    refine xk_X5_pass F C l0 59 ht12 h ux_448 (Nat.le_of_ble_eq_true rfl) (Nat.le_of_ble_eq_true rfl) hl.1 (by simp [Value.category]) dX5_readRule_59 (fun σ11 H locs h C => ?_)
    refine lv_aload_n F.1 F.2.1 dX5_readRule_62 rfl (lv_at hl 0 rfl) ?_
    refine lv_iload_n F.1 F.2.1 dX5_readRule_63 rfl (lv_at hl 2 rfl) ?_
    refine lv_if_eq (tgt := 72) F.1 F.2.1 dX5_readRule_64 (by decide) (fun c13 => ?_) (fun c13 => ?_)
    · replace h := h.1 c13
      refine lv_bipush (v := (-18)) F.1 F.2.1 dX5_readRule_72 (by decide) ?_
      exact tX5_readRule_74 l G σ0 F hr hlocks Q (-18) l0 σ11 H locs ls h C (lv_sub hl [] rfl)
    · replace h := h.2 c13
      refine lv_bipush (v := (-17)) F.1 F.2.1 dX5_readRule_67 (by decide) ?_
      refine lv_goto (tgt := 74) F.1 F.2.1 dX5_readRule_69 (by decide) ?_
      exact tX5_readRule_74 l G σ0 F hr hlocks Q (-17) l0 σ11 H locs ls h C (lv_sub hl [] rfl)
  · replace h := h.2 c3
    refine lv_aload_n F.1 F.2.1 dX5_readRule_38 rfl (lv_at hl 0 rfl) ?_
    refine lv_iconst (v := 2) F.1 F.2.1 dX5_readRule_39 (by decide) ?_
    obtain ⟨ht15, h⟩ := h
    refine xk_X5_fail F C l0 2 ht15 h ux_432 (Nat.le_of_ble_eq_true rfl) (Nat.le_of_ble_eq_true rfl) hl.1 (by simp [Value.category]) dX5_readRule_40 (fun σ14 H locs h C => ?_)
    exact kx_vret F C hr hlocks h dX5_readRule_43
set_option maxRecDepth 100000 in
set_option maxHeartbeats 4000000 in
theorem hx_X5_readRule (l : Launch) (G : kx_G) (l0 : Nat) (l1 : Int32) (σ : kx_S) (Q : kx_S → Prop) (h : wX5_readRule l0 l1 σ Q) : kx_M l G yX5_readRule cX5_readRule 3 none (111) (2403) [.ref l0, .int l1] σ (kx_rv Q) := by
  refine kx_enter (by decide) rfl (Nat.le_of_ble_eq_true rfl) ?_
  intro p e s m below meth c ls F hr hlocks C hname hl
  have hl : lv_has ls 3 [(0, .ref l0), (1, .int l1)] := hl
  obtain ⟨H, eH⟩ : ∃ z9, z9 = s.heap := ⟨_, rfl⟩
  obtain ⟨locs, eL⟩ : ∃ z9 : List Loc, z9 = [] := ⟨_, rfl⟩
  rw [← eH, ← eL] at C
  rw [← eH, ← eL]
  obtain ⟨σ0, e0⟩ : ∃ z9, z9 = σ := ⟨_, rfl⟩
  have C : kx_X G (xc σ0) s H locs σ := by rw [e0]; exact C
  suffices hgo : kx_W p l e (111) (2403) (xc σ0) s m ([.ref l0, .int l1] : List Value).toArray below meth c H locs σ (MQ below (kx_Q G σ0 (kx_rv Q)) ([.ref l0, .int l1] : List Value).toArray s (kx_N - xc σ0) (600 * (kx_N - xc σ0)) (kx_A G)) (F0 m 0 ls []) by rw [e0] at hgo; exact hgo
  clear e0
  refine lv_aload_n F.1 F.2.1 dX5_readRule_0 rfl (lv_at hl 0 rfl) ?_
  obtain ⟨ht16, h⟩ := h
  refine xg_X5_tokens F C ht16 ux_416 (fun _ h9 => h9) dX5_readRule_1 ?_
  obtain ⟨a17, ea18, h⟩ := h
  refine xq_nn ea18 ?_
  refine kx_ldcW (i := 8) F C rfl dX5_readRule_4 ?_
  obtain ⟨ht21, h⟩ := h
  refine xk_X10_isWord F C a17 8 ht21 h ux_436 (Nat.le_of_ble_eq_true rfl) (Nat.le_of_ble_eq_true rfl) hl.1 (by simp [Value.category]) dX5_readRule_6 (fun r20 σ19 H locs h C => ?_)
  refine lv_istore_n (lv' := [(2, .int r20), (0, .ref l0), (1, .int l1)]) F.1 F.2.1 dX5_readRule_9 rfl hl (by decide) rfl (fun ls hl => ?_)
  refine lv_iload_n F.1 F.2.1 dX5_readRule_10 rfl (lv_at hl 0 rfl) ?_
  refine lv_if_ne (tgt := 32) F.1 F.2.1 dX5_readRule_11 (by decide) (fun c22 => ?_) (fun c22 => ?_)
  · replace h := h.1 c22
    exact tX5_readRule_32 l G σ0 F hr hlocks Q l0 l1 r20 σ19 H locs ls h C (lv_sub hl [1, 2, 0] rfl)
  · replace h := h.2 c22
    refine lv_aload_n F.1 F.2.1 dX5_readRule_14 rfl (lv_at hl 1 rfl) ?_
    obtain ⟨ht23, h⟩ := h
    refine xg_X5_tokens F C ht23 ux_416 (fun _ h9 => h9) dX5_readRule_15 ?_
    obtain ⟨a24, ea25, h⟩ := h
    refine xq_nn ea25 ?_
    refine kx_ldcW (i := 7) F C rfl dX5_readRule_18 ?_
    obtain ⟨ht28, h⟩ := h
    refine xk_X10_isWord F C a24 7 ht28 h ux_436 (Nat.le_of_ble_eq_true rfl) (Nat.le_of_ble_eq_true rfl) hl.1 (by simp [Value.category]) dX5_readRule_20 (fun r27 σ26 H locs h C => ?_)
    refine lv_if_ne (tgt := 32) F.1 F.2.1 dX5_readRule_23 (by decide) (fun c29 => ?_) (fun c29 => ?_)
    · replace h := h.1 c29
      exact tX5_readRule_32 l G σ0 F hr hlocks Q l0 l1 r20 σ26 H locs ls h C (lv_sub hl [1, 2, 0] rfl)
    · replace h := h.2 c29
      refine lv_aload_n F.1 F.2.1 dX5_readRule_26 rfl (lv_at hl 1 rfl) ?_
      refine lv_iconst (v := 1) F.1 F.2.1 dX5_readRule_27 (by decide) ?_
      obtain ⟨ht31, h⟩ := h
      refine xk_X5_fail F C l0 1 ht31 h ux_432 (Nat.le_of_ble_eq_true rfl) (Nat.le_of_ble_eq_true rfl) hl.1 (by simp [Value.category]) dX5_readRule_28 (fun σ30 H locs h C => ?_)
      exact kx_vret F C hr hlocks h dX5_readRule_31
section
variable {p : Program} {l : Launch} {e : Env} {fr lo c0 : Nat} {s : State} {m : MethodId} {args : Array Value} {below : List Frame} {meth : Method} {c : Code} {H : Heap} {locs : List Loc} {Q : State → Prop}
variable {cc : ByteArray} {pc nL index : Nat} {ls : Array Slot} {rest : List Value} {G : kx_G} {σ : kx_S} {own : String}
theorem xk_X5_readRule {P : kx_S → Prop} (F : CallFix p m c cc nL s args kt_ own) (C : kx_X G c0 s H locs σ) (l0 : Nat) (l1 : Int32) (ha : xt σ l0 = 7) (h : wX5_readRule l0 l1 σ P) (hw : Cond.methodLink own index yX5_readRule ∈ kt_) (h1 : (111) + 1 ≤ fr) (h2 : 8 + (3 + 11) + (2403) ≤ lo) (hsz : ls.size = nL) (hW : (rest.map fun v => v.category).sum ≤ 8) (hdg : decode cc pc = .ok (.invokevirtual index, 3)) (kk : ∀ (u : kx_S) (H1 : Heap) (locs1 : List Loc), P u → kx_X G c0 s H1 locs1 u → kx_W p l e fr lo c0 s m args below meth c H1 locs1 u Q (F0 m (pc + 3) ls rest)) : kx_W p l e fr lo c0 s m args below meth c H locs σ Q (F0 m pc ls (.int l1 :: .ref l0 :: rest)) :=
  kx_cV (n := 1) (As := [.int l1]) (Cn := RX5) F C (hx_X5_readRule l G l0 l1 σ P h) (kt_V hw ux_469 ux_470 ux_59 ux_468) (by decide +kernel) ⟨h1, h2⟩ (kx_recv C (by rw [ha]; decide) (kx_e7 ha) rfl) rfl hsz hW hdg (fun v u H1 locs1 hP9 C9 => by obtain ⟨hv, hp⟩ := hP9; subst hv; exact kk u H1 locs1 hp C9)
end
theorem dX5_readText_0 : decode cX5_readText 0 = .ok (.aload_n 0, 1) := by decide +kernel
theorem dX5_readText_1 : decode cX5_readText 1 = .ok (.iconst 0, 1) := by decide +kernel
theorem dX5_readText_2 : decode cX5_readText 2 = .ok (.putfield 26, 3) := by decide +kernel
theorem dX5_readText_5 : decode cX5_readText 5 = .ok (.aload_n 0, 1) := by decide +kernel
theorem dX5_readText_6 : decode cX5_readText 6 = .ok (.iconst 0, 1) := by decide +kernel
theorem dX5_readText_7 : decode cX5_readText 7 = .ok (.putfield 30, 3) := by decide +kernel
theorem dX5_readText_10 : decode cX5_readText 10 = .ok (.aload_n 0, 1) := by decide +kernel
theorem dX5_readText_11 : decode cX5_readText 11 = .ok (.iconst (-1), 1) := by decide +kernel
theorem dX5_readText_12 : decode cX5_readText 12 = .ok (.putfield 33, 3) := by decide +kernel
theorem dX5_readText_15 : decode cX5_readText 15 = .ok (.aload_n 0, 1) := by decide +kernel
theorem dX5_readText_16 : decode cX5_readText 16 = .ok (.getfield 14, 3) := by decide +kernel
theorem dX5_readText_19 : decode cX5_readText 19 = .ok (.iload_n 1, 1) := by decide +kernel
theorem dX5_readText_20 : decode cX5_readText 20 = .ok (.invokevirtual 36, 3) := by decide +kernel
theorem dX5_readText_23 : decode cX5_readText 23 = .ok (.iconst 0, 1) := by decide +kernel
theorem dX5_readText_24 : decode cX5_readText 24 = .ok (.istore_n 2, 1) := by decide +kernel
theorem dX5_readText_25 : decode cX5_readText 25 = .ok (.iload_n 2, 1) := by decide +kernel
theorem dX5_readText_26 : decode cX5_readText 26 = .ok (.bipush 12, 2) := by decide +kernel
theorem dX5_readText_28 : decode cX5_readText 28 = .ok (.if_icmp .gt 31, 3) := by decide +kernel
theorem dX5_readText_31 : decode cX5_readText 31 = .ok (.aload_n 0, 1) := by decide +kernel
theorem dX5_readText_32 : decode cX5_readText 32 = .ok (.getfield 14, 3) := by decide +kernel
theorem dX5_readText_35 : decode cX5_readText 35 = .ok (.getfield 40, 3) := by decide +kernel
theorem dX5_readText_38 : decode cX5_readText 38 = .ok (.ifCond .eq 21, 3) := by decide +kernel
theorem dX5_readText_41 : decode cX5_readText 41 = .ok (.aload_n 0, 1) := by decide +kernel
theorem dX5_readText_42 : decode cX5_readText 42 = .ok (.getfield 30, 3) := by decide +kernel
theorem dX5_readText_45 : decode cX5_readText 45 = .ok (.ifCond .ne 14, 3) := by decide +kernel
theorem dX5_readText_48 : decode cX5_readText 48 = .ok (.aload_n 0, 1) := by decide +kernel
theorem dX5_readText_49 : decode cX5_readText 49 = .ok (.iload_n 2, 1) := by decide +kernel
theorem dX5_readText_50 : decode cX5_readText 50 = .ok (.invokevirtual 43, 3) := by decide +kernel
theorem dX5_readText_53 : decode cX5_readText 53 = .ok (.iinc 2 1, 3) := by decide +kernel
theorem dX5_readText_56 : decode cX5_readText 56 = .ok (.goto (-31), 3) := by decide +kernel
theorem dX5_readText_59 : decode cX5_readText 59 = .ok (.return_, 1) := by decide +kernel
def wX5_readText_25 (Q : kx_S → Prop) : Nat → Nat → Int32 → kx_S → Prop
  | 0, _, _, _ => False
  | n + 1, l0, l2, σ => ((12 < l2 → Q σ) ∧
    (¬ (12 < l2) → xt σ l0 = 7 ∧ ∃ a3, xr σ 112 l0 = some a3 ∧ xt σ a3 = 12 ∧ (((xi σ 196 a3) = 0 → Q σ) ∧
      (¬ ((xi σ 196 a3) = 0) → ((¬ (xi σ 115 l0) = 0 → Q σ) ∧
        ((xi σ 115 l0) = 0 → wX5_readRule l0 l2 σ (fun σ8 => ∀ v9 : Int32, v9 = l2 + 1 → wX5_readText_25 Q n l0 v9 σ8)))))))
def wX5_readText (l0 : Nat) (l1 : Int32) (σ : kx_S) (Q : kx_S → Prop) : Prop := xt σ l0 = 7 ∧ ∀ σ11, σ11 = xsi σ 114 l0 0 → ∀ σ13, σ13 = xsi σ11 115 l0 0 → ∀ σ15, σ15 = xsi σ13 116 l0 (-1) → ∃ a17, xr σ15 112 l0 = some a17 ∧ xt σ15 a17 = 12 ∧ wX10_openText a17 l1 σ15 (fun σ19 => ∃ j, wX5_readText_25 Q j l0 0 σ19)
set_option maxRecDepth 100000 in
set_option maxHeartbeats 4000000 in
theorem tX5_readText_25 (l : Launch) (G : kx_G) (σ0 : kx_S) {p : Program} {e : Env} {s : State} {m : MethodId} {args : Array Value} {below : List Frame} {meth : Method} {c : Code} (F : CallFix p m c cX5_readText 3 s args kt_ RX5) (hr : meth.sig.returnType = none) (hlocks : meth.locks = false) (Q : kx_S → Prop) : ∀ (n : Nat) (l0 : Nat) (l2 : Int32) (σ : kx_S) (H : Heap) (locs : List Loc) (ls : Array Slot), wX5_readText_25 Q n l0 l2 σ → kx_X G (xc σ0) s H locs σ → lv_has ls 3 [(0, .ref l0), (2, .int l2)] → kx_W p l e (112) (2425) (xc σ0) s m args below meth c H locs σ (MQ below (kx_Q G σ0 (kx_rv Q)) args s (kx_N - xc σ0) (600 * (kx_N - xc σ0)) (kx_A G)) (F0 m 25 ls []) := by
  intro n
  induction n with
  | zero => intro l0 l2 σ H locs ls h; exact h.elim
  | succ n ih =>
    intro l0 l2 σ H locs ls h C hl
    refine lv_iload_n F.1 F.2.1 dX5_readText_25 rfl (lv_at hl 1 rfl) ?_
    refine lv_bipush (v := 12) F.1 F.2.1 dX5_readText_26 (by decide) ?_
    refine lv_icmp_gt (tgt := 59) F.1 F.2.1 dX5_readText_28 (by decide) (fun c1 => ?_) (fun c1 => ?_)
    · replace h := h.1 c1
      exact kx_vret F C hr hlocks h dX5_readText_59
    · replace h := h.2 c1
      refine lv_aload_n F.1 F.2.1 dX5_readText_31 rfl (lv_at hl 0 rfl) ?_
      obtain ⟨ht2, h⟩ := h
      refine xg_X5_tokens F C ht2 ux_416 (fun _ h9 => h9) dX5_readText_32 ?_
      obtain ⟨a3, ea4, h⟩ := h
      refine xq_nn ea4 ?_
      obtain ⟨ht5, h⟩ := h
      refine xg_X10_kind F C ht5 ux_430 (fun _ h9 => h9) dX5_readText_35 ?_
      refine lv_if_eq (tgt := 59) F.1 F.2.1 dX5_readText_38 (by decide) (fun c6 => ?_) (fun c6 => ?_)
      · replace h := h.1 c6
        exact kx_vret F C hr hlocks h dX5_readText_59
      · replace h := h.2 c6
        refine lv_aload_n F.1 F.2.1 dX5_readText_41 rfl (lv_at hl 0 rfl) ?_
        refine xg_X5_fault F C ht2 ux_424 (fun _ h9 => h9) dX5_readText_42 ?_
        refine lv_if_ne (tgt := 59) F.1 F.2.1 dX5_readText_45 (by decide) (fun c7 => ?_) (fun c7 => ?_)
        · replace h := h.1 c7
          exact kx_vret F C hr hlocks h dX5_readText_59
        · replace h := h.2 c7
          refine lv_aload_n F.1 F.2.1 dX5_readText_48 rfl (lv_at hl 0 rfl) ?_
          refine lv_iload_n F.1 F.2.1 dX5_readText_49 rfl (lv_at hl 1 rfl) ?_
          refine xk_X5_readRule F C l0 l2 ht2 h ux_471 (Nat.le_of_ble_eq_true rfl) (Nat.le_of_ble_eq_true rfl) hl.1 (by simp [Value.category]) dX5_readText_50 (fun σ8 H locs h C => ?_)
          obtain ⟨v9, ev9⟩ : ∃ z9 : Int32, z9 = l2 + 1 := ⟨_, rfl⟩
          replace h := h v9 ev9
          refine lv_iinc (v := v9) (lv' := [(2, .int v9), (0, .ref l0)]) F.1 F.2.1 dX5_readText_53 hl (k := 1) rfl (by rw [ev9]; rfl) (by decide) rfl (fun ls hl => ?_)
          refine lv_goto (tgt := 25) F.1 F.2.1 dX5_readText_56 (by decide) ?_
          exact ih l0 v9 σ8 H locs ls h C (lv_sub hl [1, 0] rfl)
set_option maxRecDepth 100000 in
set_option maxHeartbeats 4000000 in
theorem hx_X5_readText (l : Launch) (G : kx_G) (l0 : Nat) (l1 : Int32) (σ : kx_S) (Q : kx_S → Prop) (h : wX5_readText l0 l1 σ Q) : kx_M l G yX5_readText cX5_readText 3 none (112) (2425) [.ref l0, .int l1] σ (kx_rv Q) := by
  refine kx_enter (by decide) rfl (Nat.le_of_ble_eq_true rfl) ?_
  intro p e s m below meth c ls F hr hlocks C hname hl
  have hl : lv_has ls 3 [(0, .ref l0), (1, .int l1)] := hl
  obtain ⟨H, eH⟩ : ∃ z9, z9 = s.heap := ⟨_, rfl⟩
  obtain ⟨locs, eL⟩ : ∃ z9 : List Loc, z9 = [] := ⟨_, rfl⟩
  rw [← eH, ← eL] at C
  rw [← eH, ← eL]
  obtain ⟨σ0, e0⟩ : ∃ z9, z9 = σ := ⟨_, rfl⟩
  have C : kx_X G (xc σ0) s H locs σ := by rw [e0]; exact C
  suffices hgo : kx_W p l e (112) (2425) (xc σ0) s m ([.ref l0, .int l1] : List Value).toArray below meth c H locs σ (MQ below (kx_Q G σ0 (kx_rv Q)) ([.ref l0, .int l1] : List Value).toArray s (kx_N - xc σ0) (600 * (kx_N - xc σ0)) (kx_A G)) (F0 m 0 ls []) by rw [e0] at hgo; exact hgo
  clear e0
  refine lv_aload_n F.1 F.2.1 dX5_readText_0 rfl (lv_at hl 0 rfl) ?_
  refine lv_iconst (v := 0) F.1 F.2.1 dX5_readText_1 (by decide) ?_
  obtain ⟨ht10, h⟩ := h
  refine xp_X5_codeLength (x := 0) F C ht10 ux_420 (fun _ h9 => h9) dX5_readText_2 (fun H locs C => ?_)
  generalize eσ11 : xsi σ 114 l0 0 = σ11 at C ⊢
  replace h := h σ11 eσ11.symm
  have ht12 : xt σ11 l0 = 7 := by rw [← eσ11]; exact ht10
  refine lv_aload_n F.1 F.2.1 dX5_readText_5 rfl (lv_at hl 0 rfl) ?_
  refine lv_iconst (v := 0) F.1 F.2.1 dX5_readText_6 (by decide) ?_
  refine xp_X5_fault (x := 0) F C ht12 ux_424 (fun _ h9 => h9) dX5_readText_7 (fun H locs C => ?_)
  generalize eσ13 : xsi σ11 115 l0 0 = σ13 at C ⊢
  replace h := h σ13 eσ13.symm
  have ht14 : xt σ13 l0 = 7 := by rw [← eσ13]; exact ht12
  refine lv_aload_n F.1 F.2.1 dX5_readText_10 rfl (lv_at hl 0 rfl) ?_
  refine lv_iconst (v := (-1)) F.1 F.2.1 dX5_readText_11 (by decide) ?_
  refine xp_X5_faultPlace (x := (-1)) F C ht14 ux_426 (fun _ h9 => h9) dX5_readText_12 (fun H locs C => ?_)
  generalize eσ15 : xsi σ13 116 l0 (-1) = σ15 at C ⊢
  replace h := h σ15 eσ15.symm
  have ht16 : xt σ15 l0 = 7 := by rw [← eσ15]; exact ht14
  refine lv_aload_n F.1 F.2.1 dX5_readText_15 rfl (lv_at hl 0 rfl) ?_
  refine xg_X5_tokens F C ht16 ux_416 (fun _ h9 => h9) dX5_readText_16 ?_
  obtain ⟨a17, ea18, h⟩ := h
  refine xq_nn ea18 ?_
  refine lv_iload_n F.1 F.2.1 dX5_readText_19 rfl (lv_at hl 1 rfl) ?_
  obtain ⟨ht20, h⟩ := h
  refine xk_X10_openText F C a17 l1 ht20 h ux_472 (Nat.le_of_ble_eq_true rfl) (Nat.le_of_ble_eq_true rfl) hl.1 (by simp [Value.category]) dX5_readText_20 (fun σ19 H locs h C => ?_)
  refine lv_iconst (v := 0) F.1 F.2.1 dX5_readText_23 (by decide) ?_
  refine lv_istore_n (lv' := [(2, .int 0), (0, .ref l0), (1, .int l1)]) F.1 F.2.1 dX5_readText_24 rfl hl (by decide) rfl (fun ls hl => ?_)
  obtain ⟨n21, h⟩ := h
  exact tX5_readText_25 l G σ0 F hr hlocks Q n21 l0 0 σ19 H locs ls h C (lv_sub hl [1, 0] rfl)
section
variable {p : Program} {l : Launch} {e : Env} {fr lo c0 : Nat} {s : State} {m : MethodId} {args : Array Value} {below : List Frame} {meth : Method} {c : Code} {H : Heap} {locs : List Loc} {Q : State → Prop}
variable {cc : ByteArray} {pc nL index : Nat} {ls : Array Slot} {rest : List Value} {G : kx_G} {σ : kx_S} {own : String}
theorem xk_X5_readText {P : kx_S → Prop} (F : CallFix p m c cc nL s args kt_ own) (C : kx_X G c0 s H locs σ) (l0 : Nat) (l1 : Int32) (ha : xt σ l0 = 7) (h : wX5_readText l0 l1 σ P) (hw : Cond.methodLink own index yX5_readText ∈ kt_) (h1 : (112) + 1 ≤ fr) (h2 : 8 + (3 + 11) + (2425) ≤ lo) (hsz : ls.size = nL) (hW : (rest.map fun v => v.category).sum ≤ 8) (hdg : decode cc pc = .ok (.invokevirtual index, 3)) (kk : ∀ (u : kx_S) (H1 : Heap) (locs1 : List Loc), P u → kx_X G c0 s H1 locs1 u → kx_W p l e fr lo c0 s m args below meth c H1 locs1 u Q (F0 m (pc + 3) ls rest)) : kx_W p l e fr lo c0 s m args below meth c H locs σ Q (F0 m pc ls (.int l1 :: .ref l0 :: rest)) :=
  kx_cV (n := 1) (As := [.int l1]) (Cn := RX5) F C (hx_X5_readText l G l0 l1 σ P h) (kt_V hw ux_474 ux_475 ux_59 ux_473) (by decide +kernel) ⟨h1, h2⟩ (kx_recv C (by rw [ha]; decide) (kx_e7 ha) rfl) rfl hsz hW hdg (fun v u H1 locs1 hP9 C9 => by obtain ⟨hv, hp⟩ := hP9; subst hv; exact kk u H1 locs1 hp C9)
end

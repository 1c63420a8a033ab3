theorem ux_476 : Cond.methodLink RX11 1 objectInit ∈ kt_ := kt_m (kt_t1 _ (List.mem_of_getElem? (i := 36) (by decide +kernel))) (by decide +kernel)
theorem ux_477 : Cond.classLink RX11 7 RJx4a65c ∈ kt_ := kt_m (kt_t1 _ (List.mem_of_getElem? (i := 39) (by decide +kernel))) (by decide +kernel)
theorem ux_478 : Cond.methodLink RX11 9 yJx4a65c_init_da8c8 ∈ kt_ := kt_m (kt_t1 _ (List.mem_of_getElem? (i := 41) (by decide +kernel))) (by decide +kernel)
theorem ux_479 : Cond.fieldLink RX11 10 "LogRiver" "reaches" "Ljava/util/List;" ∈ kt_ := kt_m (kt_t1 _ (List.mem_of_getElem? (i := 155) (by decide +kernel))) (by decide +kernel)
theorem ux_480 : Cond.fieldLink RX11 16 "LogRiver" "logs" "Ljava/util/List;" ∈ kt_ := kt_m (kt_t1 _ (List.mem_of_getElem? (i := 156) (by decide +kernel))) (by decide +kernel)
theorem ux_481 : Cond.fieldLink RX11 19 "LogRiver" "laws" "Ljava/util/List;" ∈ kt_ := kt_m (kt_t1 _ (List.mem_of_getElem? (i := 157) (by decide +kernel))) (by decide +kernel)
theorem ux_482 : Cond.fieldLink RX11 22 "LogRiver" "crews" "Ljava/util/List;" ∈ kt_ := kt_m (kt_t1 _ (List.mem_of_getElem? (i := 158) (by decide +kernel))) (by decide +kernel)
theorem ux_483 : Cond.fieldLink RX11 25 "LogRiver" "orders" "Ljava/util/List;" ∈ kt_ := kt_m (kt_t1 _ (List.mem_of_getElem? (i := 159) (by decide +kernel))) (by decide +kernel)
theorem ux_484 : Cond.classLink RX11 28 RX9 ∈ kt_ := kt_m (kt_t1 _ (List.mem_of_getElem? (i := 65) (by decide +kernel))) (by decide +kernel)
theorem ux_485 : Cond.methodLink RX11 30 yX9_init ∈ kt_ := kt_m (kt_t1 _ (List.mem_of_getElem? (i := 67) (by decide +kernel))) (by decide +kernel)
theorem ux_486 : Cond.fieldLink RX11 31 "LogRiver" "tape" "LLogRiver$Tape;" ∈ kt_ := kt_m (kt_t1 _ (List.mem_of_getElem? (i := 160) (by decide +kernel))) (by decide +kernel)
theorem ux_487 : Cond.classLink RX11 35 RX5 ∈ kt_ := kt_m (kt_t1 _ (List.mem_of_getElem? (i := 81) (by decide +kernel))) (by decide +kernel)
theorem ux_488 : Cond.methodLink RX11 37 yX5_init ∈ kt_ := kt_m (kt_t1 _ (List.mem_of_getElem? (i := 83) (by decide +kernel))) (by decide +kernel)
theorem ux_489 : Cond.fieldLink RX11 40 "LogRiver" "reader" "LLogRiver$LawReader;" ∈ kt_ := kt_m (kt_t1 _ (List.mem_of_getElem? (i := 161) (by decide +kernel))) (by decide +kernel)
theorem ux_490 : Cond.classLink RX11 44 RX3 ∈ kt_ := kt_m (kt_t1 _ (List.mem_of_getElem? (i := 131) (by decide +kernel))) (by decide +kernel)
theorem ux_491 : Cond.methodLink RX11 46 yX3_init ∈ kt_ := kt_m (kt_t1 _ (List.mem_of_getElem? (i := 133) (by decide +kernel))) (by decide +kernel)
theorem ux_492 : Cond.fieldLink RX11 47 "LogRiver" "judge" "LLogRiver$Judge;" ∈ kt_ := kt_m (kt_t1 _ (List.mem_of_getElem? (i := 162) (by decide +kernel))) (by decide +kernel)
theorem ux_493 : Cond.arrayClass .long ∈ kt_ := kt_m (kt_t1 _ (List.mem_of_getElem? (i := 198) (by decide +kernel))) (by decide +kernel)
theorem ux_494 : Cond.fieldLink RX11 51 "LogRiver" "accounts" "[J" ∈ kt_ := kt_m (kt_t1 _ (List.mem_of_getElem? (i := 163) (by decide +kernel))) (by decide +kernel)
theorem ux_495 : Cond.fieldLink RX11 55 "LogRiver" "faultPlace" "I" ∈ kt_ := kt_m (kt_t1 _ (List.mem_of_getElem? (i := 166) (by decide +kernel))) (by decide +kernel)
theorem ux_496 : Cond.code yX11_init cX11_init 1 none ∈ kt_ := kt_m (kt_t1 _ (List.mem_of_getElem? (i := 35) (by decide +kernel))) (by decide +kernel)
theorem ux_497 : Cond.instanceMethod yX11_init ∈ kt_ := kt_m (kt_t1 _ (List.mem_of_getElem? (i := 34) (by decide +kernel))) (by decide +kernel)
theorem ux_498 : Cond.code yX11_isWithin cX11_isWithin 3 (some .boolean) ∈ kt_ := kt_m (kt_t1 _ (List.mem_of_getElem? (i := 215) (by decide +kernel))) (by decide +kernel)
theorem ux_499 : Cond.static yX11_isWithin ∈ kt_ := kt_m (kt_t1 _ (List.mem_of_getElem? (i := 214) (by decide +kernel))) (by decide +kernel)
theorem ux_500 : Cond.methodLink RX11 59 ⟨"java/util/List", "size", "()I"⟩ ∈ kt_ := kt_m (kt_t1 _ (List.mem_of_getElem? (i := 204) (by decide +kernel))) (by decide +kernel)
theorem ux_501 : Cond.methodLink RX11 65 yX11_isWithin ∈ kt_ := kt_m (kt_t1 _ (List.mem_of_getElem? (i := 213) (by decide +kernel))) (by decide +kernel)
theorem ux_502 : Cond.methodLink RX11 69 ⟨"java/util/List", "get", "(I)Ljava/lang/Object;"⟩ ∈ kt_ := kt_m (kt_t1 _ (List.mem_of_getElem? (i := 217) (by decide +kernel))) (by decide +kernel)
theorem ux_503 : Cond.classLink RX11 73 RX8 ∈ kt_ := kt_m (kt_t1 _ (List.mem_of_getElem? (i := 235) (by decide +kernel))) (by decide +kernel)
theorem ux_504 : Cond.classLink RX11 350 "java/util/NoSuchElementException" ∈ kt_ := kt_m (kt_t2 _ (List.mem_of_getElem? (i := 227) (by decide +kernel))) (by decide +kernel)
theorem ux_505 : Cond.initialized "java/util/NoSuchElementException" ∈ kt_ := kt_m (kt_t1 _ (List.mem_of_getElem? (i := 21) (by decide +kernel))) (by decide +kernel)
theorem ux_506 : Cond.code yX11_reachAt cX11_reachAt 2 (some (.object "LogRiver$Reach")) ∈ kt_ := kt_m (kt_t2 _ (List.mem_of_getElem? (i := 226) (by decide +kernel))) (by decide +kernel)
theorem ux_507 : Cond.instanceMethod yX11_reachAt ∈ kt_ := kt_m (kt_t2 _ (List.mem_of_getElem? (i := 225) (by decide +kernel))) (by decide +kernel)
theorem ux_508 : Cond.selects RX11 yX11_reachAt yX11_reachAt ∈ kt_ := kt_m (kt_s1 _ (List.mem_of_getElem? (i := 3) (by decide +kernel))) (by decide +kernel)
theorem ux_509 : Cond.classLink RX11 187 RX6 ∈ kt_ := kt_m (kt_t2 _ (List.mem_of_getElem? (i := 164) (by decide +kernel))) (by decide +kernel)
theorem ux_510 : Cond.code yX11_logAt cX11_logAt 2 (some (.object "LogRiver$Log")) ∈ kt_ := kt_m (kt_t4 _ (List.mem_of_getElem? (i := 92) (by decide +kernel))) (by decide +kernel)
theorem ux_511 : Cond.instanceMethod yX11_logAt ∈ kt_ := kt_m (kt_t4 _ (List.mem_of_getElem? (i := 91) (by decide +kernel))) (by decide +kernel)
theorem ux_512 : Cond.selects RX11 yX11_logAt yX11_logAt ∈ kt_ := kt_m (kt_s2 _ (List.mem_of_getElem? (i := 3) (by decide +kernel))) (by decide +kernel)
theorem ux_513 : Cond.fieldLink RX11 78 "LogRiver$Reach" "cells" "Ljava/util/List;" ∈ kt_ := kt_m (kt_t2 _ (List.mem_of_getElem? (i := 10) (by decide +kernel))) (by decide +kernel)
theorem ux_514 : Cond.code yX11_checkCell cX11_checkCell 2 none ∈ kt_ := kt_m (kt_t4 _ (List.mem_of_getElem? (i := 96) (by decide +kernel))) (by decide +kernel)
theorem ux_515 : Cond.static yX11_checkCell ∈ kt_ := kt_m (kt_t4 _ (List.mem_of_getElem? (i := 95) (by decide +kernel))) (by decide +kernel)
theorem ux_516 : Cond.fieldLink RX11 192 "LogRiver$Log" "number" "I" ∈ kt_ := kt_m (kt_t2 _ (List.mem_of_getElem? (i := 171) (by decide +kernel))) (by decide +kernel)
theorem ux_517 : Cond.code yX11_numberAt cX11_numberAt 2 (some .int) ∈ kt_ := kt_m (kt_t5 _ (List.mem_of_getElem? (i := 91) (by decide +kernel))) (by decide +kernel)
theorem ux_518 : Cond.static yX11_numberAt ∈ kt_ := kt_m (kt_t5 _ (List.mem_of_getElem? (i := 90) (by decide +kernel))) (by decide +kernel)
theorem ux_519 : Cond.methodLink RX11 86 ⟨"java/util/List", "add", "(Ljava/lang/Object;)Z"⟩ ∈ kt_ := kt_m (kt_t2 _ (List.mem_of_getElem? (i := 80) (by decide +kernel))) (by decide +kernel)
theorem ux_520 : Cond.fieldLink RX11 90 "LogRiver$Reach" "number" "I" ∈ kt_ := kt_m (kt_t2 _ (List.mem_of_getElem? (i := 4) (by decide +kernel))) (by decide +kernel)
theorem ux_521 : Cond.classLink RX11 81 RX1 ∈ kt_ := kt_m (kt_t2 _ (List.mem_of_getElem? (i := 53) (by decide +kernel))) (by decide +kernel)
theorem ux_522 : Cond.methodLink RX11 83 yX1_init ∈ kt_ := kt_m (kt_t2 _ (List.mem_of_getElem? (i := 55) (by decide +kernel))) (by decide +kernel)
theorem ux_523 : Cond.methodLink RX11 75 yX8_init ∈ kt_ := kt_m (kt_t1 _ (List.mem_of_getElem? (i := 237) (by decide +kernel))) (by decide +kernel)
theorem ux_524 : Cond.code yX11_reach cX11_reach 8 (some .int) ∈ kt_ := kt_m (kt_t1 _ (List.mem_of_getElem? (i := 202) (by decide +kernel))) (by decide +kernel)
theorem ux_525 : Cond.instanceMethod yX11_reach ∈ kt_ := kt_m (kt_t1 _ (List.mem_of_getElem? (i := 200) (by decide +kernel))) (by decide +kernel)
theorem ux_526 : Cond.selects RX11 yX11_reach yX11_reach ∈ kt_ := kt_m (kt_t1 _ (List.mem_of_getElem? (i := 201) (by decide +kernel))) (by decide +kernel)
theorem ux_527 : Cond.methodLink RX11 93 yX11_reachAt ∈ kt_ := kt_m (kt_t2 _ (List.mem_of_getElem? (i := 223) (by decide +kernel))) (by decide +kernel)
theorem ux_528 : Cond.constant RX11 97 (100000) ∈ kt_ := kt_m (kt_t3 _ (List.mem_of_getElem? (i := 54) (by decide +kernel))) (by decide +kernel)
theorem ux_529 : Cond.fieldLink RX11 98 "LogRiver$Reach" "dammed" "Z" ∈ kt_ := kt_m (kt_t2 _ (List.mem_of_getElem? (i := 13) (by decide +kernel))) (by decide +kernel)
theorem ux_530 : Cond.fieldLink RX11 102 "LogRiver$Reach" "room" "I" ∈ kt_ := kt_m (kt_t2 _ (List.mem_of_getElem? (i := 15) (by decide +kernel))) (by decide +kernel)
theorem ux_531 : Cond.code yX11_dam cX11_dam 4 (some .boolean) ∈ kt_ := kt_m (kt_t2 _ (List.mem_of_getElem? (i := 222) (by decide +kernel))) (by decide +kernel)
theorem ux_532 : Cond.instanceMethod yX11_dam ∈ kt_ := kt_m (kt_t2 _ (List.mem_of_getElem? (i := 220) (by decide +kernel))) (by decide +kernel)
theorem ux_533 : Cond.selects RX11 yX11_dam yX11_dam ∈ kt_ := kt_m (kt_t2 _ (List.mem_of_getElem? (i := 221) (by decide +kernel))) (by decide +kernel)
theorem ux_534 : Cond.fieldLink RX11 105 "LogRiver$Reach" "gate" "I" ∈ kt_ := kt_m (kt_t2 _ (List.mem_of_getElem? (i := 19) (by decide +kernel))) (by decide +kernel)
theorem ux_535 : Cond.code yX11_gate cX11_gate 5 (some .int) ∈ kt_ := kt_m (kt_t3 _ (List.mem_of_getElem? (i := 61) (by decide +kernel))) (by decide +kernel)
theorem ux_536 : Cond.instanceMethod yX11_gate ∈ kt_ := kt_m (kt_t3 _ (List.mem_of_getElem? (i := 59) (by decide +kernel))) (by decide +kernel)
theorem ux_537 : Cond.selects RX11 yX11_gate yX11_gate ∈ kt_ := kt_m (kt_t3 _ (List.mem_of_getElem? (i := 60) (by decide +kernel))) (by decide +kernel)
theorem ux_538 : Cond.fieldLink RX11 108 "LogRiver$Reach" "melt" "I" ∈ kt_ := kt_m (kt_t2 _ (List.mem_of_getElem? (i := 11) (by decide +kernel))) (by decide +kernel)
theorem ux_539 : Cond.code yX11_melt cX11_melt 5 (some .int) ∈ kt_ := kt_m (kt_t3 _ (List.mem_of_getElem? (i := 68) (by decide +kernel))) (by decide +kernel)
theorem ux_540 : Cond.instanceMethod yX11_melt ∈ kt_ := kt_m (kt_t3 _ (List.mem_of_getElem? (i := 66) (by decide +kernel))) (by decide +kernel)
theorem ux_541 : Cond.selects RX11 yX11_melt yX11_melt ∈ kt_ := kt_m (kt_t3 _ (List.mem_of_getElem? (i := 67) (by decide +kernel))) (by decide +kernel)
theorem ux_542 : Cond.fieldLink RX11 111 "LogRiver$Reach" "boom" "LLogRiver$Boom;" ∈ kt_ := kt_m (kt_t2 _ (List.mem_of_getElem? (i := 25) (by decide +kernel))) (by decide +kernel)
theorem ux_543 : Cond.constant RX11 118 (65535) ∈ kt_ := kt_m (kt_t3 _ (List.mem_of_getElem? (i := 100) (by decide +kernel))) (by decide +kernel)
theorem ux_544 : Cond.fieldLink RX11 119 "LogRiver$Boom" "marks" "I" ∈ kt_ := kt_m (kt_t3 _ (List.mem_of_getElem? (i := 89) (by decide +kernel))) (by decide +kernel)
theorem ux_545 : Cond.fieldLink RX11 122 "LogRiver$Boom" "room" "I" ∈ kt_ := kt_m (kt_t3 _ (List.mem_of_getElem? (i := 90) (by decide +kernel))) (by decide +kernel)
theorem ux_546 : Cond.classLink RX11 115 RX0 ∈ kt_ := kt_m (kt_t3 _ (List.mem_of_getElem? (i := 76) (by decide +kernel))) (by decide +kernel)
theorem ux_547 : Cond.methodLink RX11 117 yX0_init ∈ kt_ := kt_m (kt_t3 _ (List.mem_of_getElem? (i := 78) (by decide +kernel))) (by decide +kernel)
theorem ux_548 : Cond.code yX11_boom cX11_boom 5 (some .boolean) ∈ kt_ := kt_m (kt_t3 _ (List.mem_of_getElem? (i := 75) (by decide +kernel))) (by decide +kernel)
theorem ux_549 : Cond.instanceMethod yX11_boom ∈ kt_ := kt_m (kt_t3 _ (List.mem_of_getElem? (i := 73) (by decide +kernel))) (by decide +kernel)
theorem ux_550 : Cond.selects RX11 yX11_boom yX11_boom ∈ kt_ := kt_m (kt_t3 _ (List.mem_of_getElem? (i := 74) (by decide +kernel))) (by decide +kernel)
theorem ux_551 : Cond.fieldLink RX11 123 "LogRiver$Reach" "watched" "Z" ∈ kt_ := kt_m (kt_t2 _ (List.mem_of_getElem? (i := 24) (by decide +kernel))) (by decide +kernel)
theorem ux_552 : Cond.code yX11_watch cX11_watch 5 (some .boolean) ∈ kt_ := kt_m (kt_t3 _ (List.mem_of_getElem? (i := 107) (by decide +kernel))) (by decide +kernel)
theorem ux_553 : Cond.instanceMethod yX11_watch ∈ kt_ := kt_m (kt_t3 _ (List.mem_of_getElem? (i := 105) (by decide +kernel))) (by decide +kernel)
theorem ux_554 : Cond.selects RX11 yX11_watch yX11_watch ∈ kt_ := kt_m (kt_t3 _ (List.mem_of_getElem? (i := 106) (by decide +kernel))) (by decide +kernel)
theorem ux_555 : Cond.classLink RX11 130 RX2 ∈ kt_ := kt_m (kt_t3 _ (List.mem_of_getElem? (i := 119) (by decide +kernel))) (by decide +kernel)
theorem ux_556 : Cond.fieldLink RX11 136 "LogRiver" "hour" "I" ∈ kt_ := kt_m (kt_t1 _ (List.mem_of_getElem? (i := 164) (by decide +kernel))) (by decide +kernel)
theorem ux_557 : Cond.methodLink RX11 143 yX2_init ∈ kt_ := kt_m (kt_t3 _ (List.mem_of_getElem? (i := 121) (by decide +kernel))) (by decide +kernel)
theorem ux_558 : Cond.code yX11_newCrew cX11_newCrew 2 (some .int) ∈ kt_ := kt_m (kt_t3 _ (List.mem_of_getElem? (i := 118) (by decide +kernel))) (by decide +kernel)
theorem ux_559 : Cond.instanceMethod yX11_newCrew ∈ kt_ := kt_m (kt_t3 _ (List.mem_of_getElem? (i := 117) (by decide +kernel))) (by decide +kernel)
theorem ux_560 : Cond.selects RX11 yX11_newCrew yX11_newCrew ∈ kt_ := kt_m (kt_s1 _ (List.mem_of_getElem? (i := 5) (by decide +kernel))) (by decide +kernel)
theorem ux_561 : Cond.fieldLink RX11 132 "LogRiver$Crew" "reach" "LLogRiver$Reach;" ∈ kt_ := kt_m (kt_t3 _ (List.mem_of_getElem? (i := 126) (by decide +kernel))) (by decide +kernel)
theorem ux_562 : Cond.methodLink RX11 139 yX2_come ∈ kt_ := kt_m (kt_t3 _ (List.mem_of_getElem? (i := 134) (by decide +kernel))) (by decide +kernel)
theorem ux_563 : Cond.methodLink RX11 126 yX11_newCrew ∈ kt_ := kt_m (kt_t3 _ (List.mem_of_getElem? (i := 115) (by decide +kernel))) (by decide +kernel)
theorem ux_564 : Cond.code yX11_crew cX11_crew 5 (some .int) ∈ kt_ := kt_m (kt_t3 _ (List.mem_of_getElem? (i := 114) (by decide +kernel))) (by decide +kernel)
theorem ux_565 : Cond.instanceMethod yX11_crew ∈ kt_ := kt_m (kt_t3 _ (List.mem_of_getElem? (i := 112) (by decide +kernel))) (by decide +kernel)
theorem ux_566 : Cond.selects RX11 yX11_crew yX11_crew ∈ kt_ := kt_m (kt_t3 _ (List.mem_of_getElem? (i := 113) (by decide +kernel))) (by decide +kernel)
theorem ux_567 : Cond.fieldLink RX11 145 "LogRiver$Tape" "length" "I" ∈ kt_ := kt_m (kt_t1 _ (List.mem_of_getElem? (i := 74) (by decide +kernel))) (by decide +kernel)
theorem ux_568 : Cond.methodLink RX11 148 yX9_append ∈ kt_ := kt_m (kt_t2 _ (List.mem_of_getElem? (i := 151) (by decide +kernel))) (by decide +kernel)
theorem ux_569 : Cond.code yX11_feed cX11_feed 6 (some .int) ∈ kt_ := kt_m (kt_t2 _ (List.mem_of_getElem? (i := 150) (by decide +kernel))) (by decide +kernel)
theorem ux_570 : Cond.instanceMethod yX11_feed ∈ kt_ := kt_m (kt_t2 _ (List.mem_of_getElem? (i := 148) (by decide +kernel))) (by decide +kernel)
theorem ux_571 : Cond.selects RX11 yX11_feed yX11_feed ∈ kt_ := kt_m (kt_t2 _ (List.mem_of_getElem? (i := 149) (by decide +kernel))) (by decide +kernel)
theorem ux_572 : Cond.classLink RX11 151 "java/lang/IllegalArgumentException" ∈ kt_ := kt_m (kt_t3 _ (List.mem_of_getElem? (i := 146) (by decide +kernel))) (by decide +kernel)
theorem ux_573 : Cond.initialized "java/lang/IllegalArgumentException" ∈ kt_ := kt_m (kt_t1 _ (List.mem_of_getElem? (i := 24) (by decide +kernel))) (by decide +kernel)
theorem ux_574 : Cond.methodLink RX11 158 yX5_readText ∈ kt_ := kt_m (kt_t3 _ (List.mem_of_getElem? (i := 162) (by decide +kernel))) (by decide +kernel)
theorem ux_575 : Cond.fieldLink RX11 161 "LogRiver$LawReader" "fault" "I" ∈ kt_ := kt_m (kt_t1 _ (List.mem_of_getElem? (i := 117) (by decide +kernel))) (by decide +kernel)
theorem ux_576 : Cond.classLink RX11 165 RX4 ∈ kt_ := kt_m (kt_t4 _ (List.mem_of_getElem? (i := 57) (by decide +kernel))) (by decide +kernel)
theorem ux_577 : Cond.fieldLink RX11 167 "LogRiver$LawReader" "code" "[I" ∈ kt_ := kt_m (kt_t1 _ (List.mem_of_getElem? (i := 113) (by decide +kernel))) (by decide +kernel)
theorem ux_578 : Cond.fieldLink RX11 171 "LogRiver$LawReader" "codeLength" "I" ∈ kt_ := kt_m (kt_t1 _ (List.mem_of_getElem? (i := 115) (by decide +kernel))) (by decide +kernel)
theorem ux_579 : Cond.methodLink RX11 174 yJ7_copyOf_59c91 ∈ kt_ := kt_m (kt_t4 _ (List.mem_of_getElem? (i := 59) (by decide +kernel))) (by decide +kernel)
theorem ux_580 : Cond.methodLink RX11 180 yX4_init ∈ kt_ := kt_m (kt_t4 _ (List.mem_of_getElem? (i := 69) (by decide +kernel))) (by decide +kernel)
theorem ux_581 : Cond.fieldLink RX11 164 "LogRiver$LawReader" "faultPlace" "I" ∈ kt_ := kt_m (kt_t1 _ (List.mem_of_getElem? (i := 119) (by decide +kernel))) (by decide +kernel)
theorem ux_582 : Cond.code yX11_law cX11_law 3 (some .int) ∈ kt_ := kt_m (kt_t3 _ (List.mem_of_getElem? (i := 145) (by decide +kernel))) (by decide +kernel)
theorem ux_583 : Cond.instanceMethod yX11_law ∈ kt_ := kt_m (kt_t3 _ (List.mem_of_getElem? (i := 143) (by decide +kernel))) (by decide +kernel)
theorem ux_584 : Cond.selects RX11 yX11_law yX11_law ∈ kt_ := kt_m (kt_t3 _ (List.mem_of_getElem? (i := 144) (by decide +kernel))) (by decide +kernel)
theorem ux_585 : Cond.code yX11_fault cX11_fault 1 (some .int) ∈ kt_ := kt_m (kt_t2 _ (List.mem_of_getElem? (i := 158) (by decide +kernel))) (by decide +kernel)
theorem ux_586 : Cond.instanceMethod yX11_fault ∈ kt_ := kt_m (kt_t2 _ (List.mem_of_getElem? (i := 156) (by decide +kernel))) (by decide +kernel)
theorem ux_587 : Cond.selects RX11 yX11_fault yX11_fault ∈ kt_ := kt_m (kt_t2 _ (List.mem_of_getElem? (i := 157) (by decide +kernel))) (by decide +kernel)
theorem ux_588 : Cond.fieldLink RX11 183 "LogRiver$Law" "day" "I" ∈ kt_ := kt_m (kt_t4 _ (List.mem_of_getElem? (i := 74) (by decide +kernel))) (by decide +kernel)
theorem ux_589 : Cond.code yX11_lawInForce cX11_lawInForce 5 (some (.object "LogRiver$Law")) ∈ kt_ := kt_m (kt_t4 _ (List.mem_of_getElem? (i := 101) (by decide +kernel))) (by decide +kernel)
theorem ux_590 : Cond.instanceMethod yX11_lawInForce ∈ kt_ := kt_m (kt_t4 _ (List.mem_of_getElem? (i := 100) (by decide +kernel))) (by decide +kernel)
theorem ux_591 : Cond.selects RX11 yX11_lawInForce yX11_lawInForce ∈ kt_ := kt_m (kt_s2 _ (List.mem_of_getElem? (i := 4) (by decide +kernel))) (by decide +kernel)
theorem ux_592 : Cond.constant RX11 186 (1000000) ∈ kt_ := kt_m (kt_t2 _ (List.mem_of_getElem? (i := 163) (by decide +kernel))) (by decide +kernel)
theorem ux_593 : Cond.methodLink RX11 189 yX6_init ∈ kt_ := kt_m (kt_t2 _ (List.mem_of_getElem? (i := 166) (by decide +kernel))) (by decide +kernel)
theorem ux_594 : Cond.code yX11_cut cX11_cut 5 (some .int) ∈ kt_ := kt_m (kt_t2 _ (List.mem_of_getElem? (i := 162) (by decide +kernel))) (by decide +kernel)
theorem ux_595 : Cond.instanceMethod yX11_cut ∈ kt_ := kt_m (kt_t2 _ (List.mem_of_getElem? (i := 160) (by decide +kernel))) (by decide +kernel)
theorem ux_596 : Cond.selects RX11 yX11_cut yX11_cut ∈ kt_ := kt_m (kt_t2 _ (List.mem_of_getElem? (i := 161) (by decide +kernel))) (by decide +kernel)
theorem ux_597 : Cond.methodLink RX11 193 yX11_logAt ∈ kt_ := kt_m (kt_t4 _ (List.mem_of_getElem? (i := 89) (by decide +kernel))) (by decide +kernel)
theorem ux_598 : Cond.methodLink RX11 197 yX11_checkCell ∈ kt_ := kt_m (kt_t4 _ (List.mem_of_getElem? (i := 94) (by decide +kernel))) (by decide +kernel)
theorem ux_599 : Cond.fieldLink RX11 200 "LogRiver$Log" "place" "I" ∈ kt_ := kt_m (kt_t2 _ (List.mem_of_getElem? (i := 186) (by decide +kernel))) (by decide +kernel)
theorem ux_600 : Cond.methodLink RX11 203 yX11_lawInForce ∈ kt_ := kt_m (kt_t4 _ (List.mem_of_getElem? (i := 98) (by decide +kernel))) (by decide +kernel)
theorem ux_601 : Cond.methodLink RX11 207 yX3_weigh ∈ kt_ := kt_m (kt_t4 _ (List.mem_of_getElem? (i := 102) (by decide +kernel))) (by decide +kernel)
theorem ux_602 : Cond.fieldLink RX11 211 "LogRiver$Judge" "barred" "Z" ∈ kt_ := kt_m (kt_t1 _ (List.mem_of_getElem? (i := 141) (by decide +kernel))) (by decide +kernel)
theorem ux_603 : Cond.methodLink RX11 214 yX8_takes ∈ kt_ := kt_m (kt_t4 _ (List.mem_of_getElem? (i := 125) (by decide +kernel))) (by decide +kernel)
theorem ux_604 : Cond.code yX11_let cX11_let 6 (some .int) ∈ kt_ := kt_m (kt_t4 _ (List.mem_of_getElem? (i := 88) (by decide +kernel))) (by decide +kernel)
theorem ux_605 : Cond.instanceMethod yX11_let ∈ kt_ := kt_m (kt_t4 _ (List.mem_of_getElem? (i := 86) (by decide +kernel))) (by decide +kernel)
theorem ux_606 : Cond.selects RX11 yX11_let yX11_let ∈ kt_ := kt_m (kt_t4 _ (List.mem_of_getElem? (i := 87) (by decide +kernel))) (by decide +kernel)
theorem ux_607 : Cond.classLink RX11 218 RX7 ∈ kt_ := kt_m (kt_t5 _ (List.mem_of_getElem? (i := 13) (by decide +kernel))) (by decide +kernel)
theorem ux_608 : Cond.methodLink RX11 220 yX7_init ∈ kt_ := kt_m (kt_t5 _ (List.mem_of_getElem? (i := 41) (by decide +kernel))) (by decide +kernel)
theorem ux_609 : Cond.fieldLink RX11 223 "LogRiver$Boom" "orders" "Ljava/util/List;" ∈ kt_ := kt_m (kt_t3 _ (List.mem_of_getElem? (i := 87) (by decide +kernel))) (by decide +kernel)
theorem ux_610 : Cond.code yX11_order cX11_order 7 (some .int) ∈ kt_ := kt_m (kt_t5 _ (List.mem_of_getElem? (i := 39) (by decide +kernel))) (by decide +kernel)
theorem ux_611 : Cond.instanceMethod yX11_order ∈ kt_ := kt_m (kt_t5 _ (List.mem_of_getElem? (i := 37) (by decide +kernel))) (by decide +kernel)
theorem ux_612 : Cond.selects RX11 yX11_order yX11_order ∈ kt_ := kt_m (kt_t5 _ (List.mem_of_getElem? (i := 38) (by decide +kernel))) (by decide +kernel)
theorem dX11_init_0 : decode cX11_init 0 = .ok (.aload_n 0, 1) := by decide +kernel
theorem dX11_init_1 : decode cX11_init 1 = .ok (.invokespecial 1, 3) := by decide +kernel
theorem dX11_init_4 : decode cX11_init 4 = .ok (.aload_n 0, 1) := by decide +kernel
theorem dX11_init_5 : decode cX11_init 5 = .ok (.new 7, 3) := by decide +kernel
theorem dX11_init_8 : decode cX11_init 8 = .ok (.dup, 1) := by decide +kernel
theorem dX11_init_9 : decode cX11_init 9 = .ok (.invokespecial 9, 3) := by decide +kernel
theorem dX11_init_12 : decode cX11_init 12 = .ok (.putfield 10, 3) := by decide +kernel
theorem dX11_init_15 : decode cX11_init 15 = .ok (.aload_n 0, 1) := by decide +kernel
theorem dX11_init_16 : decode cX11_init 16 = .ok (.new 7, 3) := by decide +kernel
theorem dX11_init_19 : decode cX11_init 19 = .ok (.dup, 1) := by decide +kernel
theorem dX11_init_20 : decode cX11_init 20 = .ok (.invokespecial 9, 3) := by decide +kernel
theorem dX11_init_23 : decode cX11_init 23 = .ok (.putfield 16, 3) := by decide +kernel
theorem dX11_init_26 : decode cX11_init 26 = .ok (.aload_n 0, 1) := by decide +kernel
theorem dX11_init_27 : decode cX11_init 27 = .ok (.new 7, 3) := by decide +kernel
theorem dX11_init_30 : decode cX11_init 30 = .ok (.dup, 1) := by decide +kernel
theorem dX11_init_31 : decode cX11_init 31 = .ok (.invokespecial 9, 3) := by decide +kernel
theorem dX11_init_34 : decode cX11_init 34 = .ok (.putfield 19, 3) := by decide +kernel
theorem dX11_init_37 : decode cX11_init 37 = .ok (.aload_n 0, 1) := by decide +kernel
theorem dX11_init_38 : decode cX11_init 38 = .ok (.new 7, 3) := by decide +kernel
theorem dX11_init_41 : decode cX11_init 41 = .ok (.dup, 1) := by decide +kernel
theorem dX11_init_42 : decode cX11_init 42 = .ok (.invokespecial 9, 3) := by decide +kernel
theorem dX11_init_45 : decode cX11_init 45 = .ok (.putfield 22, 3) := by decide +kernel
theorem dX11_init_48 : decode cX11_init 48 = .ok (.aload_n 0, 1) := by decide +kernel
theorem dX11_init_49 : decode cX11_init 49 = .ok (.new 7, 3) := by decide +kernel
theorem dX11_init_52 : decode cX11_init 52 = .ok (.dup, 1) := by decide +kernel
theorem dX11_init_53 : decode cX11_init 53 = .ok (.invokespecial 9, 3) := by decide +kernel
theorem dX11_init_56 : decode cX11_init 56 = .ok (.putfield 25, 3) := by decide +kernel
theorem dX11_init_59 : decode cX11_init 59 = .ok (.aload_n 0, 1) := by decide +kernel
theorem dX11_init_60 : decode cX11_init 60 = .ok (.new 28, 3) := by decide +kernel
theorem dX11_init_63 : decode cX11_init 63 = .ok (.dup, 1) := by decide +kernel
theorem dX11_init_64 : decode cX11_init 64 = .ok (.invokespecial 30, 3) := by decide +kernel
theorem dX11_init_67 : decode cX11_init 67 = .ok (.putfield 31, 3) := by decide +kernel
theorem dX11_init_70 : decode cX11_init 70 = .ok (.aload_n 0, 1) := by decide +kernel
theorem dX11_init_71 : decode cX11_init 71 = .ok (.new 35, 3) := by decide +kernel
theorem dX11_init_74 : decode cX11_init 74 = .ok (.dup, 1) := by decide +kernel
theorem dX11_init_75 : decode cX11_init 75 = .ok (.aload_n 0, 1) := by decide +kernel
theorem dX11_init_76 : decode cX11_init 76 = .ok (.getfield 31, 3) := by decide +kernel
theorem dX11_init_79 : decode cX11_init 79 = .ok (.invokespecial 37, 3) := by decide +kernel
theorem dX11_init_82 : decode cX11_init 82 = .ok (.putfield 40, 3) := by decide +kernel
theorem dX11_init_85 : decode cX11_init 85 = .ok (.aload_n 0, 1) := by decide +kernel
theorem dX11_init_86 : decode cX11_init 86 = .ok (.new 44, 3) := by decide +kernel
theorem dX11_init_89 : decode cX11_init 89 = .ok (.dup, 1) := by decide +kernel
theorem dX11_init_90 : decode cX11_init 90 = .ok (.invokespecial 46, 3) := by decide +kernel
theorem dX11_init_93 : decode cX11_init 93 = .ok (.putfield 47, 3) := by decide +kernel
theorem dX11_init_96 : decode cX11_init 96 = .ok (.aload_n 0, 1) := by decide +kernel
theorem dX11_init_97 : decode cX11_init 97 = .ok (.bipush 16, 2) := by decide +kernel
theorem dX11_init_99 : decode cX11_init 99 = .ok (.newarray .long, 2) := by decide +kernel
theorem dX11_init_101 : decode cX11_init 101 = .ok (.putfield 51, 3) := by decide +kernel
theorem dX11_init_104 : decode cX11_init 104 = .ok (.aload_n 0, 1) := by decide +kernel
theorem dX11_init_105 : decode cX11_init 105 = .ok (.iconst (-1), 1) := by decide +kernel
theorem dX11_init_106 : decode cX11_init 106 = .ok (.putfield 55, 3) := by decide +kernel
theorem dX11_init_109 : decode cX11_init 109 = .ok (.return_, 1) := by decide +kernel
def wX11_init (l0 : Nat) (σ : kx_S) (Q : kx_S → Prop) : Prop := xc σ < kx_N ∧ ∀ p2, xt σ p2 = 0 → p2 ≠ xz σ → ∀ σ5, σ5 = xnew σ p2 1 → wJx4a65c_init_da8c8 p2 σ5 (fun σ7 => xt σ7 l0 = 13 ∧ ∀ σ9, σ9 = xsr σ7 208 l0 (some p2) → xc σ9 < kx_N ∧ ∀ p12, xt σ9 p12 = 0 → p12 ≠ xz σ9 → ∀ σ15, σ15 = xnew σ9 p12 1 → wJx4a65c_init_da8c8 p12 σ15 (fun σ17 => xt σ17 l0 = 13 ∧ ∀ σ19, σ19 = xsr σ17 209 l0 (some p12) → xc σ19 < kx_N ∧ ∀ p22, xt σ19 p22 = 0 → p22 ≠ xz σ19 → ∀ σ25, σ25 = xnew σ19 p22 1 → wJx4a65c_init_da8c8 p22 σ25 (fun σ27 => xt σ27 l0 = 13 ∧ ∀ σ29, σ29 = xsr σ27 210 l0 (some p22) → xc σ29 < kx_N ∧ ∀ p32, xt σ29 p32 = 0 → p32 ≠ xz σ29 → ∀ σ35, σ35 = xnew σ29 p32 1 → wJx4a65c_init_da8c8 p32 σ35 (fun σ37 => xt σ37 l0 = 13 ∧ ∀ σ39, σ39 = xsr σ37 211 l0 (some p32) → xc σ39 < kx_N ∧ ∀ p42, xt σ39 p42 = 0 → p42 ≠ xz σ39 → ∀ σ45, σ45 = xnew σ39 p42 1 → wJx4a65c_init_da8c8 p42 σ45 (fun σ47 => xt σ47 l0 = 13 ∧ ∀ σ49, σ49 = xsr σ47 212 l0 (some p42) → xc σ49 < kx_N ∧ ∀ p52, xt σ49 p52 = 0 → p52 ≠ xz σ49 → ∀ σ55, σ55 = xnew σ49 p52 11 → wX9_init p52 σ55 (fun σ57 => xt σ57 l0 = 13 ∧ ∀ σ59, σ59 = xsr σ57 213 l0 (some p52) → xc σ59 < kx_N ∧ ∀ p62, xt σ59 p62 = 0 → p62 ≠ xz σ59 → ∀ σ65, σ65 = xnew σ59 p62 7 → xt σ65 l0 = 13 ∧ ∃ a68, xr σ65 213 l0 = some a68 ∧ wX5_init p62 a68 σ65 (fun σ70 => xt σ70 l0 = 13 ∧ ∀ σ72, σ72 = xsr σ70 214 l0 (some p62) → xc σ72 < kx_N ∧ ∀ p75, xt σ72 p75 = 0 → p75 ≠ xz σ72 → ∀ σ78, σ78 = xnew σ72 p75 5 → wX3_init p75 σ78 (fun σ80 => xt σ80 l0 = 13 ∧ ∀ σ82, σ82 = xsr σ80 215 l0 (some p75) → xc σ82 < kx_N ∧ ¬ (16 : Int32) < 0 ∧ (Int32.toNatClampNeg 16) ≤ 600 ∧ ∀ p84, xt σ82 p84 = 0 → p84 ≠ xz σ82 → ∀ σ90, σ90 = xnewA σ82 p84 21 (Int32.toNatClampNeg 16) → xt σ90 l0 = 13 ∧ ∀ σ93, σ93 = xsr σ90 216 l0 (some p84) → ∀ σ96, σ96 = xsi σ93 219 l0 (-1) → Q σ96))))))))
set_option maxRecDepth 100000 in
set_option maxHeartbeats 4000000 in
theorem hx_X11_init (l : Launch) (G : kx_G) (l0 : Nat) (σ : kx_S) (Q : kx_S → Prop) (h : wX11_init l0 σ Q) : kx_M l G yX11_init cX11_init 1 none (4) (72) [.ref l0] σ (kx_rv Q) := by
  refine kx_enter (by decide) rfl (Nat.le_of_ble_eq_true rfl) ?_
  intro p e s m below meth c ls F hr hlocks C hname hl
  have hini : meth.name = "<init>" := hname
  have hl : lv_has ls 1 [(0, .ref l0)] := hl
  obtain ⟨H, eH⟩ : ∃ z9, z9 = s.heap := ⟨_, rfl⟩
  obtain ⟨locs, eL⟩ : ∃ z9 : List Loc, z9 = [] := ⟨_, rfl⟩
  rw [← eH, ← eL] at C
  rw [← eH, ← eL]
  obtain ⟨σ0, e0⟩ : ∃ z9, z9 = σ := ⟨_, rfl⟩
  have C : kx_X G (xc σ0) s H locs σ := by rw [e0]; exact C
  suffices hgo : kx_W p l e (4) (72) (xc σ0) s m ([.ref l0] : List Value).toArray below meth c H locs σ (MQ below (kx_Q G σ0 (kx_rv Q)) ([.ref l0] : List Value).toArray s (kx_N - xc σ0) (600 * (kx_N - xc σ0)) (kx_A G)) (F0 m 0 ls []) by rw [e0] at hgo; exact hgo
  clear e0
  refine lv_aload_n F.1 F.2.1 dX11_init_0 rfl (lv_at hl 0 rfl) ?_
  refine kx_objI F ux_476 hl.1 (Nat.le_of_ble_eq_true rfl) (by simp [Value.category]) dX11_init_1 ?_
  refine lv_aload_n F.1 F.2.1 dX11_init_4 rfl (lv_at hl 0 rfl) ?_
  obtain ⟨hn1, h⟩ := h
  refine xw_Jx4a65c F C hn1 ux_477 dX11_init_5 (fun p2 H z3 z4 C => ?_)
  replace h := h p2 z3 (fun h9 => z4 (h9.trans (show xz σ = _ from C.2.1.1)))
  generalize eσ5 : xnew σ p2 1 = σ5 at C ⊢
  replace h := h σ5 eσ5.symm
  have ht6 : xt σ5 p2 = 1 := by rw [← eσ5]; exact va_up_self _ _ _
  refine lv_dup F.1 F.2.1 dX11_init_8 rfl ?_
  refine xk_Jx4a65c_init_da8c8 F C p2 h ux_478 (Nat.le_of_ble_eq_true rfl) (Nat.le_of_ble_eq_true rfl) hl.1 (by simp [Value.category]) dX11_init_9 (fun σ7 H locs h C => ?_)
  obtain ⟨ht8, h⟩ := h
  refine xp_X11_reaches (x := some p2) F C ht8 ux_479 (fun _ h9 => h9) hini rfl dX11_init_12 (fun H locs C => ?_)
  generalize eσ9 : xsr σ7 208 l0 (some p2) = σ9 at C ⊢
  replace h := h σ9 eσ9.symm
  have ht10 : xt σ9 l0 = 13 := by rw [← eσ9]; exact ht8
  refine lv_aload_n F.1 F.2.1 dX11_init_15 rfl (lv_at hl 0 rfl) ?_
  obtain ⟨hn11, h⟩ := h
  refine xw_Jx4a65c F C hn11 ux_477 dX11_init_16 (fun p12 H z13 z14 C => ?_)
  replace h := h p12 z13 (fun h9 => z14 (h9.trans (show xz σ9 = _ from C.2.1.1)))
  generalize eσ15 : xnew σ9 p12 1 = σ15 at C ⊢
  replace h := h σ15 eσ15.symm
  have ht16 : xt σ15 p12 = 1 := by rw [← eσ15]; exact va_up_self _ _ _
  refine lv_dup F.1 F.2.1 dX11_init_19 rfl ?_
  refine xk_Jx4a65c_init_da8c8 F C p12 h ux_478 (Nat.le_of_ble_eq_true rfl) (Nat.le_of_ble_eq_true rfl) hl.1 (by simp [Value.category]) dX11_init_20 (fun σ17 H locs h C => ?_)
  obtain ⟨ht18, h⟩ := h
  refine xp_X11_logs (x := some p12) F C ht18 ux_480 (fun _ h9 => h9) hini rfl dX11_init_23 (fun H locs C => ?_)
  generalize eσ19 : xsr σ17 209 l0 (some p12) = σ19 at C ⊢
  replace h := h σ19 eσ19.symm
  have ht20 : xt σ19 l0 = 13 := by rw [← eσ19]; exact ht18
  refine lv_aload_n F.1 F.2.1 dX11_init_26 rfl (lv_at hl 0 rfl) ?_
  obtain ⟨hn21, h⟩ := h
  refine xw_Jx4a65c F C hn21 ux_477 dX11_init_27 (fun p22 H z23 z24 C => ?_)
  replace h := h p22 z23 (fun h9 => z24 (h9.trans (show xz σ19 = _ from C.2.1.1)))
  generalize eσ25 : xnew σ19 p22 1 = σ25 at C ⊢
  replace h := h σ25 eσ25.symm
  have ht26 : xt σ25 p22 = 1 := by rw [← eσ25]; exact va_up_self _ _ _
  refine lv_dup F.1 F.2.1 dX11_init_30 rfl ?_
  refine xk_Jx4a65c_init_da8c8 F C p22 h ux_478 (Nat.le_of_ble_eq_true rfl) (Nat.le_of_ble_eq_true rfl) hl.1 (by simp [Value.category]) dX11_init_31 (fun σ27 H locs h C => ?_)
  obtain ⟨ht28, h⟩ := h
  refine xp_X11_laws (x := some p22) F C ht28 ux_481 (fun _ h9 => h9) hini rfl dX11_init_34 (fun H locs C => ?_)
  generalize eσ29 : xsr σ27 210 l0 (some p22) = σ29 at C ⊢
  replace h := h σ29 eσ29.symm
  have ht30 : xt σ29 l0 = 13 := by rw [← eσ29]; exact ht28
  refine lv_aload_n F.1 F.2.1 dX11_init_37 rfl (lv_at hl 0 rfl) ?_
  obtain ⟨hn31, h⟩ := h
  refine xw_Jx4a65c F C hn31 ux_477 dX11_init_38 (fun p32 H z33 z34 C => ?_)
  replace h := h p32 z33 (fun h9 => z34 (h9.trans (show xz σ29 = _ from C.2.1.1)))
  generalize eσ35 : xnew σ29 p32 1 = σ35 at C ⊢
  replace h := h σ35 eσ35.symm
  have ht36 : xt σ35 p32 = 1 := by rw [← eσ35]; exact va_up_self _ _ _
  refine lv_dup F.1 F.2.1 dX11_init_41 rfl ?_
  refine xk_Jx4a65c_init_da8c8 F C p32 h ux_478 (Nat.le_of_ble_eq_true rfl) (Nat.le_of_ble_eq_true rfl) hl.1 (by simp [Value.category]) dX11_init_42 (fun σ37 H locs h C => ?_)
  obtain ⟨ht38, h⟩ := h
  refine xp_X11_crews (x := some p32) F C ht38 ux_482 (fun _ h9 => h9) hini rfl dX11_init_45 (fun H locs C => ?_)
  generalize eσ39 : xsr σ37 211 l0 (some p32) = σ39 at C ⊢
  replace h := h σ39 eσ39.symm
  have ht40 : xt σ39 l0 = 13 := by rw [← eσ39]; exact ht38
  refine lv_aload_n F.1 F.2.1 dX11_init_48 rfl (lv_at hl 0 rfl) ?_
  obtain ⟨hn41, h⟩ := h
  refine xw_Jx4a65c F C hn41 ux_477 dX11_init_49 (fun p42 H z43 z44 C => ?_)
  replace h := h p42 z43 (fun h9 => z44 (h9.trans (show xz σ39 = _ from C.2.1.1)))
  generalize eσ45 : xnew σ39 p42 1 = σ45 at C ⊢
  replace h := h σ45 eσ45.symm
  have ht46 : xt σ45 p42 = 1 := by rw [← eσ45]; exact va_up_self _ _ _
  refine lv_dup F.1 F.2.1 dX11_init_52 rfl ?_
  refine xk_Jx4a65c_init_da8c8 F C p42 h ux_478 (Nat.le_of_ble_eq_true rfl) (Nat.le_of_ble_eq_true rfl) hl.1 (by simp [Value.category]) dX11_init_53 (fun σ47 H locs h C => ?_)
  obtain ⟨ht48, h⟩ := h
  refine xp_X11_orders (x := some p42) F C ht48 ux_483 (fun _ h9 => h9) hini rfl dX11_init_56 (fun H locs C => ?_)
  generalize eσ49 : xsr σ47 212 l0 (some p42) = σ49 at C ⊢
  replace h := h σ49 eσ49.symm
  have ht50 : xt σ49 l0 = 13 := by rw [← eσ49]; exact ht48
  refine lv_aload_n F.1 F.2.1 dX11_init_59 rfl (lv_at hl 0 rfl) ?_
  obtain ⟨hn51, h⟩ := h
  refine xw_X9 F C hn51 ux_484 dX11_init_60 (fun p52 H z53 z54 C => ?_)
  replace h := h p52 z53 (fun h9 => z54 (h9.trans (show xz σ49 = _ from C.2.1.1)))
  generalize eσ55 : xnew σ49 p52 11 = σ55 at C ⊢
  replace h := h σ55 eσ55.symm
  have ht56 : xt σ55 p52 = 11 := by rw [← eσ55]; exact va_up_self _ _ _
  refine lv_dup F.1 F.2.1 dX11_init_63 rfl ?_
  refine xk_X9_init F C p52 h ux_485 (Nat.le_of_ble_eq_true rfl) (Nat.le_of_ble_eq_true rfl) hl.1 (by simp [Value.category]) dX11_init_64 (fun σ57 H locs h C => ?_)
  obtain ⟨ht58, h⟩ := h
  refine xp_X11_tape (x := some p52) F C ht58 ux_486 (fun _ h9 => h9) hini rfl dX11_init_67 (fun H locs C => ?_)
  generalize eσ59 : xsr σ57 213 l0 (some p52) = σ59 at C ⊢
  replace h := h σ59 eσ59.symm
  have ht60 : xt σ59 l0 = 13 := by rw [← eσ59]; exact ht58
  refine lv_aload_n F.1 F.2.1 dX11_init_70 rfl (lv_at hl 0 rfl) ?_
  obtain ⟨hn61, h⟩ := h
  refine xw_X5 F C hn61 ux_487 dX11_init_71 (fun p62 H z63 z64 C => ?_)
  replace h := h p62 z63 (fun h9 => z64 (h9.trans (show xz σ59 = _ from C.2.1.1)))
  generalize eσ65 : xnew σ59 p62 7 = σ65 at C ⊢
  replace h := h σ65 eσ65.symm
  have ht66 : xt σ65 p62 = 7 := by rw [← eσ65]; exact va_up_self _ _ _
  refine lv_dup F.1 F.2.1 dX11_init_74 rfl ?_
  refine lv_aload_n F.1 F.2.1 dX11_init_75 rfl (lv_at hl 0 rfl) ?_
  obtain ⟨ht67, h⟩ := h
  refine xg_X11_tape F C ht67 ux_486 (fun _ h9 => h9) dX11_init_76 ?_
  obtain ⟨a68, ea69, h⟩ := h
  refine xq_nn ea69 ?_
  refine xk_X5_init F C p62 a68 h ux_488 (Nat.le_of_ble_eq_true rfl) (Nat.le_of_ble_eq_true rfl) hl.1 (by simp [Value.category]) dX11_init_79 (fun σ70 H locs h C => ?_)
  obtain ⟨ht71, h⟩ := h
  refine xp_X11_reader (x := some p62) F C ht71 ux_489 (fun _ h9 => h9) hini rfl dX11_init_82 (fun H locs C => ?_)
  generalize eσ72 : xsr σ70 214 l0 (some p62) = σ72 at C ⊢
  replace h := h σ72 eσ72.symm
  have ht73 : xt σ72 l0 = 13 := by rw [← eσ72]; exact ht71
  refine lv_aload_n F.1 F.2.1 dX11_init_85 rfl (lv_at hl 0 rfl) ?_
  obtain ⟨hn74, h⟩ := h
  refine xw_X3 F C hn74 ux_490 dX11_init_86 (fun p75 H z76 z77 C => ?_)
  replace h := h p75 z76 (fun h9 => z77 (h9.trans (show xz σ72 = _ from C.2.1.1)))
  generalize eσ78 : xnew σ72 p75 5 = σ78 at C ⊢
  replace h := h σ78 eσ78.symm
  have ht79 : xt σ78 p75 = 5 := by rw [← eσ78]; exact va_up_self _ _ _
  refine lv_dup F.1 F.2.1 dX11_init_89 rfl ?_
  refine xk_X3_init F C p75 h ux_491 (Nat.le_of_ble_eq_true rfl) (Nat.le_of_ble_eq_true rfl) hl.1 (by simp [Value.category]) dX11_init_90 (fun σ80 H locs h C => ?_)
  obtain ⟨ht81, h⟩ := h
  refine xp_X11_judge (x := some p75) F C ht81 ux_492 (fun _ h9 => h9) hini rfl dX11_init_93 (fun H locs C => ?_)
  generalize eσ82 : xsr σ80 215 l0 (some p75) = σ82 at C ⊢
  replace h := h σ82 eσ82.symm
  have ht83 : xt σ82 l0 = 13 := by rw [← eσ82]; exact ht81
  refine lv_aload_n F.1 F.2.1 dX11_init_96 rfl (lv_at hl 0 rfl) ?_
  refine lv_bipush (v := 16) F.1 F.2.1 dX11_init_97 (by decide) ?_
  obtain ⟨hn85, hn86, hn87, h⟩ := h
  refine kx_newl F C ux_493 hn85 hn86 hn87 dX11_init_99 (fun p84 H z88 z89 C => ?_)
  replace h := h p84 z88 (fun h9 => z89 (h9.trans (show xz σ82 = _ from C.2.1.1)))
  generalize eσ90 : xnewA σ82 p84 21 (Int32.toNatClampNeg 16) = σ90 at C ⊢
  replace h := h σ90 eσ90.symm
  have ht91 : xt σ90 p84 = 21 := by rw [← eσ90]; exact va_up_self _ _ _
  obtain ⟨ht92, h⟩ := h
  refine xp_X11_accounts (x := some p84) F C ht92 ux_494 (fun _ h9 => h9) hini rfl dX11_init_101 (fun H locs C => ?_)
  generalize eσ93 : xsr σ90 216 l0 (some p84) = σ93 at C ⊢
  replace h := h σ93 eσ93.symm
  have ht94 : xt σ93 p84 = 21 := by rw [← eσ93]; exact ht91
  have ht95 : xt σ93 l0 = 13 := by rw [← eσ93]; exact ht92
  refine lv_aload_n F.1 F.2.1 dX11_init_104 rfl (lv_at hl 0 rfl) ?_
  refine lv_iconst (v := (-1)) F.1 F.2.1 dX11_init_105 (by decide) ?_
  refine xp_X11_faultPlace (x := (-1)) F C ht95 ux_495 (fun _ h9 => h9) dX11_init_106 (fun H locs C => ?_)
  generalize eσ96 : xsi σ93 219 l0 (-1) = σ96 at C ⊢
  replace h := h σ96 eσ96.symm
  have ht97 : xt σ96 p84 = 21 := by rw [← eσ96]; exact ht94
  have ht98 : xt σ96 l0 = 13 := by rw [← eσ96]; exact ht95
  exact kx_vret F C hr hlocks h dX11_init_109
section
variable {p : Program} {l : Launch} {e : Env} {fr lo c0 : Nat} {s : State} {m : MethodId} {args : Array Value} {below : List Frame} {meth : Method} {c : Code} {H : Heap} {locs : List Loc} {Q : State → Prop}
variable {cc : ByteArray} {pc nL index : Nat} {ls : Array Slot} {rest : List Value} {G : kx_G} {σ : kx_S} {own : String}
theorem xk_X11_init {P : kx_S → Prop} (F : CallFix p m c cc nL s args kt_ own) (C : kx_X G c0 s H locs σ) (l0 : Nat) (h : wX11_init l0 σ P) (hw : Cond.methodLink own index yX11_init ∈ kt_) (h1 : (4) + 1 ≤ fr) (h2 : 8 + (1 + 11) + (72) ≤ lo) (hsz : ls.size = nL) (hW : (rest.map fun v => v.category).sum ≤ 8) (hdg : decode cc pc = .ok (.invokespecial index, 3)) (kk : ∀ (u : kx_S) (H1 : Heap) (locs1 : List Loc), P u → kx_X G c0 s H1 locs1 u → kx_W p l e fr lo c0 s m args below meth c H1 locs1 u Q (F0 m (pc + 3) ls rest)) : kx_W p l e fr lo c0 s m args below meth c H locs σ Q (F0 m pc ls (.ref l0 :: rest)) :=
  kx_cI (n := 0) (As := []) F C (hx_X11_init l G l0 σ P h) ux_496 ux_117 hw ux_497 rfl (by decide +kernel) ⟨h1, h2⟩ rfl hsz hW hdg (fun v u H1 locs1 hP9 C9 => by obtain ⟨hv, hp⟩ := hP9; subst hv; exact kk u H1 locs1 hp C9)
end
theorem dX11_isWithin_0 : decode cX11_isWithin 0 = .ok (.iload_n 0, 1) := by decide +kernel
theorem dX11_isWithin_1 : decode cX11_isWithin 1 = .ok (.iload_n 1, 1) := by decide +kernel
theorem dX11_isWithin_2 : decode cX11_isWithin 2 = .ok (.if_icmp .lt 12, 3) := by decide +kernel
theorem dX11_isWithin_5 : decode cX11_isWithin 5 = .ok (.iload_n 0, 1) := by decide +kernel
theorem dX11_isWithin_6 : decode cX11_isWithin 6 = .ok (.iload_n 2, 1) := by decide +kernel
theorem dX11_isWithin_7 : decode cX11_isWithin 7 = .ok (.if_icmp .gt 7, 3) := by decide +kernel
theorem dX11_isWithin_10 : decode cX11_isWithin 10 = .ok (.iconst 1, 1) := by decide +kernel
theorem dX11_isWithin_11 : decode cX11_isWithin 11 = .ok (.goto 4, 3) := by decide +kernel
theorem dX11_isWithin_14 : decode cX11_isWithin 14 = .ok (.iconst 0, 1) := by decide +kernel
theorem dX11_isWithin_15 : decode cX11_isWithin 15 = .ok (.ireturn, 1) := by decide +kernel
def wX11_isWithin (l0 : Int32) (l1 : Int32) (l2 : Int32) (σ : kx_S) (Q : Int32 → kx_S → Prop) : Prop := ((l0 < l1 → Q 0 σ) ∧
  (¬ (l0 < l1) → ((l2 < l0 → Q 0 σ) ∧
    (¬ (l2 < l0) → Q 1 σ))))
set_option maxRecDepth 100000 in
set_option maxHeartbeats 4000000 in
theorem hx_X11_isWithin (l : Launch) (G : kx_G) (l0 : Int32) (l1 : Int32) (l2 : Int32) (σ : kx_S) (Q : Int32 → kx_S → Prop) (h : wX11_isWithin l0 l1 l2 σ Q) : kx_M l G yX11_isWithin cX11_isWithin 3 (some .boolean) (0) (0) [.int l0, .int l1, .int l2] σ (kx_ri Q) := by
  refine kx_enter (by decide) rfl (Nat.le_of_ble_eq_true rfl) ?_
  intro p e s m below meth c ls F hr hlocks C hname hl
  have hl : lv_has ls 3 [(0, .int l0), (1, .int l1), (2, .int l2)] := hl
  obtain ⟨H, eH⟩ : ∃ z9, z9 = s.heap := ⟨_, rfl⟩
  obtain ⟨locs, eL⟩ : ∃ z9 : List Loc, z9 = [] := ⟨_, rfl⟩
  rw [← eH, ← eL] at C
  rw [← eH, ← eL]
  obtain ⟨σ0, e0⟩ : ∃ z9, z9 = σ := ⟨_, rfl⟩
  have C : kx_X G (xc σ0) s H locs σ := by rw [e0]; exact C
  suffices hgo : kx_W p l e (0) (0) (xc σ0) s m ([.int l0, .int l1, .int l2] : List Value).toArray below meth c H locs σ (MQ below (kx_Q G σ0 (kx_ri Q)) ([.int l0, .int l1, .int l2] : List Value).toArray s (kx_N - xc σ0) (600 * (kx_N - xc σ0)) (kx_A G)) (F0 m 0 ls []) by rw [e0] at hgo; exact hgo
  clear e0
  refine lv_iload_n F.1 F.2.1 dX11_isWithin_0 rfl (lv_at hl 0 rfl) ?_
  refine lv_iload_n F.1 F.2.1 dX11_isWithin_1 rfl (lv_at hl 1 rfl) ?_
  refine lv_icmp_lt (tgt := 14) F.1 F.2.1 dX11_isWithin_2 (by decide) (fun c1 => ?_) (fun c1 => ?_)
  · replace h := h.1 c1
    refine lv_iconst (v := 0) F.1 F.2.1 dX11_isWithin_14 (by decide) ?_
    exact kx_zret F C hr hlocks rfl h dX11_isWithin_15
  · replace h := h.2 c1
    refine lv_iload_n F.1 F.2.1 dX11_isWithin_5 rfl (lv_at hl 0 rfl) ?_
    refine lv_iload_n F.1 F.2.1 dX11_isWithin_6 rfl (lv_at hl 2 rfl) ?_
    refine lv_icmp_gt (tgt := 14) F.1 F.2.1 dX11_isWithin_7 (by decide) (fun c2 => ?_) (fun c2 => ?_)
    · replace h := h.1 c2
      refine lv_iconst (v := 0) F.1 F.2.1 dX11_isWithin_14 (by decide) ?_
      exact kx_zret F C hr hlocks rfl h dX11_isWithin_15
    · replace h := h.2 c2
      refine lv_iconst (v := 1) F.1 F.2.1 dX11_isWithin_10 (by decide) ?_
      refine lv_goto (tgt := 15) F.1 F.2.1 dX11_isWithin_11 (by decide) ?_
      exact kx_zret F C hr hlocks rfl h dX11_isWithin_15
section
variable {p : Program} {l : Launch} {e : Env} {fr lo c0 : Nat} {s : State} {m : MethodId} {args : Array Value} {below : List Frame} {meth : Method} {c : Code} {H : Heap} {locs : List Loc} {Q : State → Prop}
variable {cc : ByteArray} {pc nL index : Nat} {ls : Array Slot} {rest : List Value} {G : kx_G} {σ : kx_S} {own : String}
theorem xk_X11_isWithin {P : Int32 → kx_S → Prop} (F : CallFix p m c cc nL s args kt_ own) (C : kx_X G c0 s H locs σ) (l0 : Int32) (l1 : Int32) (l2 : Int32) (h : wX11_isWithin l0 l1 l2 σ P) (hw : Cond.methodLink own index yX11_isWithin ∈ kt_) (h1 : (0) + 1 ≤ fr) (h2 : 8 + (3 + 11) + (0) ≤ lo) (hsz : ls.size = nL) (hW : (rest.map fun v => v.category).sum ≤ 8) (hdg : decode cc pc = .ok (.invokestatic index, 3)) (kk : ∀ (r : Int32) (u : kx_S) (H1 : Heap) (locs1 : List Loc), P r u → kx_X G c0 s H1 locs1 u → kx_W p l e fr lo c0 s m args below meth c H1 locs1 u Q (F0 m (pc + 3) ls (.int r :: rest))) : kx_W p l e fr lo c0 s m args below meth c H locs σ Q (F0 m pc ls (.int l2 :: .int l1 :: .int l0 :: rest)) :=
  kx_cS (n := 3) (As := [.int l0, .int l1, .int l2]) F C (hx_X11_isWithin l G l0 l1 l2 σ P h) (kt_S hw ux_499 ux_117 ux_498) (by decide +kernel) ⟨h1, h2⟩ rfl hsz hW hdg (fun v u H1 locs1 hP9 C9 => by obtain ⟨r, hv, hp⟩ := hP9; subst hv; exact kk r u H1 locs1 hp C9)
end
theorem dX11_reachAt_0 : decode cX11_reachAt 0 = .ok (.iload_n 1, 1) := by decide +kernel
theorem dX11_reachAt_1 : decode cX11_reachAt 1 = .ok (.iconst 0, 1) := by decide +kernel
theorem dX11_reachAt_2 : decode cX11_reachAt 2 = .ok (.aload_n 0, 1) := by decide +kernel
theorem dX11_reachAt_3 : decode cX11_reachAt 3 = .ok (.getfield 10, 3) := by decide +kernel
theorem dX11_reachAt_6 : decode cX11_reachAt 6 = .ok (.invokeinterface 59 1, 5) := by decide +kernel
theorem dX11_reachAt_11 : decode cX11_reachAt 11 = .ok (.iconst 1, 1) := by decide +kernel
theorem dX11_reachAt_12 : decode cX11_reachAt 12 = .ok (.isub, 1) := by decide +kernel
theorem dX11_reachAt_13 : decode cX11_reachAt 13 = .ok (.invokestatic 65, 3) := by decide +kernel
theorem dX11_reachAt_16 : decode cX11_reachAt 16 = .ok (.ifCond .ne 14, 3) := by decide +kernel
theorem dX11_reachAt_19 : decode cX11_reachAt 19 = .ok (.new 350, 3) := by decide +kernel
theorem dX11_reachAt_22 : decode cX11_reachAt 22 = .ok (.dup, 1) := by decide +kernel
theorem dX11_reachAt_23 : decode cX11_reachAt 23 = .ok (.ldc_w 397, 3) := by decide +kernel
theorem dX11_reachAt_26 : decode cX11_reachAt 26 = .ok (.invokespecial 354, 3) := by decide +kernel
theorem dX11_reachAt_29 : decode cX11_reachAt 29 = .ok (.athrow, 1) := by decide +kernel
theorem dX11_reachAt_30 : decode cX11_reachAt 30 = .ok (.aload_n 0, 1) := by decide +kernel
theorem dX11_reachAt_31 : decode cX11_reachAt 31 = .ok (.getfield 10, 3) := by decide +kernel
theorem dX11_reachAt_34 : decode cX11_reachAt 34 = .ok (.iload_n 1, 1) := by decide +kernel
theorem dX11_reachAt_35 : decode cX11_reachAt 35 = .ok (.invokeinterface 69 2, 5) := by decide +kernel
theorem dX11_reachAt_40 : decode cX11_reachAt 40 = .ok (.checkcast 73, 3) := by decide +kernel
theorem dX11_reachAt_43 : decode cX11_reachAt 43 = .ok (.areturn, 1) := by decide +kernel
def wX11_reachAt (l0 : Nat) (l1 : Int32) (σ : kx_S) (Q : Nat → kx_S → Prop) (QX : String → kx_S → Prop) : Prop := xt σ l0 = 13 ∧ ∃ a2, xr σ 208 l0 = some a2 ∧ xt σ a2 = 1 ∧ wJx4a65c_size_8abf5 a2 σ (fun r5 σ4 => wX11_isWithin l1 0 (r5 - 1) σ4 (fun r8 σ7 => ((¬ r8 = 0 → xt σ7 l0 = 13 ∧ ∃ a11, xr σ7 208 l0 = some a11 ∧ xt σ7 a11 = 1 ∧ wJx4a65c_get_915e3 a11 l1 σ7 (fun q14 σ13 => ∃ a16, q14 = some a16 ∧ xt σ13 a16 = 10 ∧ Q a16 σ13)) ∧
  (r8 = 0 → xc σ7 < kx_N ∧ QX pz_N (xbump σ7)))))
set_option maxRecDepth 100000 in
set_option maxHeartbeats 4000000 in
theorem hx_X11_reachAt (l : Launch) (hlt : l.stackTraces = false) (G : kx_G) (l0 : Nat) (l1 : Int32) (σ : kx_S) (Q : Nat → kx_S → Prop) (QX : String → kx_S → Prop) (h : wX11_reachAt l0 l1 σ Q QX) : kx_MX l G yX11_reachAt cX11_reachAt 2 (some (.object "LogRiver$Reach")) (6) (82) [.ref l0, .int l1] σ (kx_ra Q) QX := by
  refine kx_enterX (by decide) rfl (Nat.le_of_ble_eq_true rfl) ?_
  intro p e s m below meth c ls F hr hlocks C hout hl
  have hl : lv_has ls 2 [(0, .ref l0), (1, .int l1)] := hl
  obtain ⟨H, eH⟩ : ∃ z9, z9 = s.heap := ⟨_, rfl⟩
  obtain ⟨locs, eL⟩ : ∃ z9 : List Loc, z9 = [] := ⟨_, rfl⟩
  rw [← eH, ← eL] at C
  rw [← eH, ← eL]
  obtain ⟨σ0, e0⟩ : ∃ z9, z9 = σ := ⟨_, rfl⟩
  have C : kx_X G (xc σ0) s H locs σ := by rw [e0]; exact C
  suffices hgo : kx_W p l e (6) (82) (xc σ0) s m ([.ref l0, .int l1] : List Value).toArray below meth c H locs σ (vx_MQ below (kx_Q G σ0 (kx_ra Q)) (kx_XC G σ0 QX) ([.ref l0, .int l1] : List Value).toArray s (kx_N - xc σ0) (600 * (kx_N - xc σ0)) (kx_A G)) (F0 m 0 ls []) by rw [e0] at hgo; exact hgo
  clear e0
  refine lv_iload_n F.1 F.2.1 dX11_reachAt_0 rfl (lv_at hl 1 rfl) ?_
  refine lv_iconst (v := 0) F.1 F.2.1 dX11_reachAt_1 (by decide) ?_
  refine lv_aload_n F.1 F.2.1 dX11_reachAt_2 rfl (lv_at hl 0 rfl) ?_
  obtain ⟨ht1, h⟩ := h
  refine xg_X11_reaches F C ht1 ux_479 (fun _ h9 => h9) dX11_reachAt_3 ?_
  obtain ⟨a2, ea3, h⟩ := h
  refine xq_nn ea3 ?_
  obtain ⟨ht6, h⟩ := h
  refine xk_Jx4a65c_size_8abf5 F C a2 ht6 h ux_500 (Nat.le_of_ble_eq_true rfl) (Nat.le_of_ble_eq_true rfl) hl.1 (by simp [Value.category]) dX11_reachAt_6 (fun r5 σ4 H locs h C => ?_)
  refine lv_iconst (v := 1) F.1 F.2.1 dX11_reachAt_11 (by decide) ?_
  refine lv_isub (x := r5) (y := 1) F.1 F.2.1 dX11_reachAt_12 ?_
  refine xk_X11_isWithin F C l1 0 (r5 - 1) h ux_501 (Nat.le_of_ble_eq_true rfl) (Nat.le_of_ble_eq_true rfl) hl.1 (by simp [Value.category]) dX11_reachAt_13 (fun r8 σ7 H locs h C => ?_)
  refine lv_if_ne (tgt := 30) F.1 F.2.1 dX11_reachAt_16 (by decide) (fun c9 => ?_) (fun c9 => ?_)
  · replace h := h.1 c9
    refine lv_aload_n F.1 F.2.1 dX11_reachAt_30 rfl (lv_at hl 0 rfl) ?_
    obtain ⟨ht10, h⟩ := h
    refine xg_X11_reaches F C ht10 ux_479 (fun _ h9 => h9) dX11_reachAt_31 ?_
    obtain ⟨a11, ea12, h⟩ := h
    refine xq_nn ea12 ?_
    refine lv_iload_n F.1 F.2.1 dX11_reachAt_34 rfl (lv_at hl 1 rfl) ?_
    obtain ⟨ht15, h⟩ := h
    refine xk_Jx4a65c_get_915e3 F C a11 l1 ht15 h ux_502 (Nat.le_of_ble_eq_true rfl) (Nat.le_of_ble_eq_true rfl) hl.1 (by simp [Value.category]) dX11_reachAt_35 (fun q14 σ13 H locs h C => ?_)
    obtain ⟨a16, ea17, h⟩ := h
    refine xq_nn ea17 ?_
    obtain ⟨ht18, h⟩ := h
    refine kx_cast F C (by rw [ht18]; decide) (kx_e10 ht18) rfl ux_503 dX11_reachAt_40 ?_
    refine vx_ret ?_
    exact kx_aret F C hr (Or.inl ⟨_, rfl⟩) hlocks h dX11_reachAt_43
  · replace h := h.2 c9
    obtain ⟨hn19, h⟩ := h
    exact kx_throwN (is := 397) hlt (text := "no such reach") (by decide +kernel) F C hn19 h hl.1 ux_504 ux_505 dX11_reachAt_19 dX11_reachAt_22 dX11_reachAt_23 dX11_reachAt_26 dX11_reachAt_29 hout (Nat.le_of_ble_eq_true rfl) (by simp [Value.category]) hlocks
section
variable {p : Program} {l : Launch} {e : Env} {fr lo c0 : Nat} {s : State} {m : MethodId} {args : Array Value} {below : List Frame} {meth : Method} {c : Code} {H : Heap} {locs : List Loc} {Q : State → Prop}
variable {cc : ByteArray} {pc nL index : Nat} {ls : Array Slot} {rest : List Value} {G : kx_G} {σ : kx_S} {own : String}
theorem xk_X11_reachAt {P : Nat → kx_S → Prop} {PX : String → kx_S → Prop} (hlt : l.stackTraces = false) (F : CallFix p m c cc nL s args kt_ own) (C : kx_X G c0 s H locs σ) (l0 : Nat) (l1 : Int32) (ha : xt σ l0 = 13) (h : wX11_reachAt l0 l1 σ P PX) (hw : Cond.methodLink own index yX11_reachAt ∈ kt_) (h1 : (6) + 1 ≤ fr) (h2 : 8 + (2 + 11) + (82) ≤ lo) (hsz : ls.size = nL) (hW : (rest.map fun v => v.category).sum ≤ 8) (hdg : decode cc pc = .ok (.invokevirtual index, 3)) (kx : ∀ (E : String) (ce : Cell) (q9 : Addr) (u : kx_S) (H1 : Heap) (locs1 : List Loc), PX E u → kx_X G c0 s H1 locs1 u → H1[q9]? = some ce → ce.vm = .none → s.vm.findClass E = some ce.cls → vx_W p l e (kx_rm fr lo c0) s m args below meth c H1 locs1 (xc u - c0) (600 * (xc u - c0)) Q (F0 m pc ls rest) q9) (kk : ∀ (r : Nat) (u : kx_S) (H1 : Heap) (locs1 : List Loc), P r u → kx_X G c0 s H1 locs1 u → kx_W p l e fr lo c0 s m args below meth c H1 locs1 u Q (F0 m (pc + 3) ls (.ref r :: rest))) : kx_W p l e fr lo c0 s m args below meth c H locs σ Q (F0 m pc ls (.int l1 :: .ref l0 :: rest)) :=
  kx_cVX (n := 1) (As := [.int l1]) (Cn := RX11) F C (hx_X11_reachAt l hlt G l0 l1 σ P PX h) (kt_V hw ux_507 ux_508 ux_117 ux_506) (by decide +kernel) ⟨h1, h2⟩ (kx_recv C (by rw [ha]; decide) (kx_e13 ha) rfl) rfl hsz hW hdg kx (fun v u H1 locs1 hP9 C9 => by obtain ⟨r, hv, hp⟩ := hP9; subst hv; exact kk r u H1 locs1 hp C9)
end
theorem dX11_logAt_0 : decode cX11_logAt 0 = .ok (.iload_n 1, 1) := by decide +kernel
theorem dX11_logAt_1 : decode cX11_logAt 1 = .ok (.iconst 0, 1) := by decide +kernel
theorem dX11_logAt_2 : decode cX11_logAt 2 = .ok (.aload_n 0, 1) := by decide +kernel
theorem dX11_logAt_3 : decode cX11_logAt 3 = .ok (.getfield 16, 3) := by decide +kernel
theorem dX11_logAt_6 : decode cX11_logAt 6 = .ok (.invokeinterface 59 1, 5) := by decide +kernel
theorem dX11_logAt_11 : decode cX11_logAt 11 = .ok (.iconst 1, 1) := by decide +kernel
theorem dX11_logAt_12 : decode cX11_logAt 12 = .ok (.isub, 1) := by decide +kernel
theorem dX11_logAt_13 : decode cX11_logAt 13 = .ok (.invokestatic 65, 3) := by decide +kernel
theorem dX11_logAt_16 : decode cX11_logAt 16 = .ok (.ifCond .ne 14, 3) := by decide +kernel
theorem dX11_logAt_19 : decode cX11_logAt 19 = .ok (.new 350, 3) := by decide +kernel
theorem dX11_logAt_22 : decode cX11_logAt 22 = .ok (.dup, 1) := by decide +kernel
theorem dX11_logAt_23 : decode cX11_logAt 23 = .ok (.ldc_w 399, 3) := by decide +kernel
theorem dX11_logAt_26 : decode cX11_logAt 26 = .ok (.invokespecial 354, 3) := by decide +kernel
theorem dX11_logAt_29 : decode cX11_logAt 29 = .ok (.athrow, 1) := by decide +kernel
theorem dX11_logAt_30 : decode cX11_logAt 30 = .ok (.aload_n 0, 1) := by decide +kernel
theorem dX11_logAt_31 : decode cX11_logAt 31 = .ok (.getfield 16, 3) := by decide +kernel
theorem dX11_logAt_34 : decode cX11_logAt 34 = .ok (.iload_n 1, 1) := by decide +kernel
theorem dX11_logAt_35 : decode cX11_logAt 35 = .ok (.invokeinterface 69 2, 5) := by decide +kernel
theorem dX11_logAt_40 : decode cX11_logAt 40 = .ok (.checkcast 187, 3) := by decide +kernel
theorem dX11_logAt_43 : decode cX11_logAt 43 = .ok (.areturn, 1) := by decide +kernel
def wX11_logAt (l0 : Nat) (l1 : Int32) (σ : kx_S) (Q : Nat → kx_S → Prop) (QX : String → kx_S → Prop) : Prop := xt σ l0 = 13 ∧ ∃ a2, xr σ 209 l0 = some a2 ∧ xt σ a2 = 1 ∧ wJx4a65c_size_8abf5 a2 σ (fun r5 σ4 => wX11_isWithin l1 0 (r5 - 1) σ4 (fun r8 σ7 => ((¬ r8 = 0 → xt σ7 l0 = 13 ∧ ∃ a11, xr σ7 209 l0 = some a11 ∧ xt σ7 a11 = 1 ∧ wJx4a65c_get_915e3 a11 l1 σ7 (fun q14 σ13 => ∃ a16, q14 = some a16 ∧ xt σ13 a16 = 8 ∧ Q a16 σ13)) ∧
  (r8 = 0 → xc σ7 < kx_N ∧ QX pz_N (xbump σ7)))))
set_option maxRecDepth 100000 in
set_option maxHeartbeats 4000000 in
theorem hx_X11_logAt (l : Launch) (hlt : l.stackTraces = false) (G : kx_G) (l0 : Nat) (l1 : Int32) (σ : kx_S) (Q : Nat → kx_S → Prop) (QX : String → kx_S → Prop) (h : wX11_logAt l0 l1 σ Q QX) : kx_MX l G yX11_logAt cX11_logAt 2 (some (.object "LogRiver$Log")) (6) (82) [.ref l0, .int l1] σ (kx_ra Q) QX := by
  refine kx_enterX (by decide) rfl (Nat.le_of_ble_eq_true rfl) ?_
  intro p e s m below meth c ls F hr hlocks C hout hl
  have hl : lv_has ls 2 [(0, .ref l0), (1, .int l1)] := hl
  obtain ⟨H, eH⟩ : ∃ z9, z9 = s.heap := ⟨_, rfl⟩
  obtain ⟨locs, eL⟩ : ∃ z9 : List Loc, z9 = [] := ⟨_, rfl⟩
  rw [← eH, ← eL] at C
  rw [← eH, ← eL]
  obtain ⟨σ0, e0⟩ : ∃ z9, z9 = σ := ⟨_, rfl⟩
  have C : kx_X G (xc σ0) s H locs σ := by rw [e0]; exact C
  suffices hgo : kx_W p l e (6) (82) (xc σ0) s m ([.ref l0, .int l1] : List Value).toArray below meth c H locs σ (vx_MQ below (kx_Q G σ0 (kx_ra Q)) (kx_XC G σ0 QX) ([.ref l0, .int l1] : List Value).toArray s (kx_N - xc σ0) (600 * (kx_N - xc σ0)) (kx_A G)) (F0 m 0 ls []) by rw [e0] at hgo; exact hgo
  clear e0
  refine lv_iload_n F.1 F.2.1 dX11_logAt_0 rfl (lv_at hl 1 rfl) ?_
  refine lv_iconst (v := 0) F.1 F.2.1 dX11_logAt_1 (by decide) ?_
  refine lv_aload_n F.1 F.2.1 dX11_logAt_2 rfl (lv_at hl 0 rfl) ?_
  obtain ⟨ht1, h⟩ := h
  refine xg_X11_logs F C ht1 ux_480 (fun _ h9 => h9) dX11_logAt_3 ?_
  obtain ⟨a2, ea3, h⟩ := h
  refine xq_nn ea3 ?_
  obtain ⟨ht6, h⟩ := h
  refine xk_Jx4a65c_size_8abf5 F C a2 ht6 h ux_500 (Nat.le_of_ble_eq_true rfl) (Nat.le_of_ble_eq_true rfl) hl.1 (by simp [Value.category]) dX11_logAt_6 (fun r5 σ4 H locs h C => ?_)
  refine lv_iconst (v := 1) F.1 F.2.1 dX11_logAt_11 (by decide) ?_
  refine lv_isub (x := r5) (y := 1) F.1 F.2.1 dX11_logAt_12 ?_
  refine xk_X11_isWithin F C l1 0 (r5 - 1) h ux_501 (Nat.le_of_ble_eq_true rfl) (Nat.le_of_ble_eq_true rfl) hl.1 (by simp [Value.category]) dX11_logAt_13 (fun r8 σ7 H locs h C => ?_)
  refine lv_if_ne (tgt := 30) F.1 F.2.1 dX11_logAt_16 (by decide) (fun c9 => ?_) (fun c9 => ?_)
  · replace h := h.1 c9
    refine lv_aload_n F.1 F.2.1 dX11_logAt_30 rfl (lv_at hl 0 rfl) ?_
    obtain ⟨ht10, h⟩ := h
    refine xg_X11_logs F C ht10 ux_480 (fun _ h9 => h9) dX11_logAt_31 ?_
    obtain ⟨a11, ea12, h⟩ := h
    refine xq_nn ea12 ?_
    refine lv_iload_n F.1 F.2.1 dX11_logAt_34 rfl (lv_at hl 1 rfl) ?_
    obtain ⟨ht15, h⟩ := h
    refine xk_Jx4a65c_get_915e3 F C a11 l1 ht15 h ux_502 (Nat.le_of_ble_eq_true rfl) (Nat.le_of_ble_eq_true rfl) hl.1 (by simp [Value.category]) dX11_logAt_35 (fun q14 σ13 H locs h C => ?_)
    obtain ⟨a16, ea17, h⟩ := h
    refine xq_nn ea17 ?_
    obtain ⟨ht18, h⟩ := h
    refine kx_cast F C (by rw [ht18]; decide) (kx_e8 ht18) rfl ux_509 dX11_logAt_40 ?_
    refine vx_ret ?_
    exact kx_aret F C hr (Or.inl ⟨_, rfl⟩) hlocks h dX11_logAt_43
  · replace h := h.2 c9
    obtain ⟨hn19, h⟩ := h
    exact kx_throwN (is := 399) hlt (text := "no such log") (by decide +kernel) F C hn19 h hl.1 ux_504 ux_505 dX11_logAt_19 dX11_logAt_22 dX11_logAt_23 dX11_logAt_26 dX11_logAt_29 hout (Nat.le_of_ble_eq_true rfl) (by simp [Value.category]) hlocks
section
variable {p : Program} {l : Launch} {e : Env} {fr lo c0 : Nat} {s : State} {m : MethodId} {args : Array Value} {below : List Frame} {meth : Method} {c : Code} {H : Heap} {locs : List Loc} {Q : State → Prop}
variable {cc : ByteArray} {pc nL index : Nat} {ls : Array Slot} {rest : List Value} {G : kx_G} {σ : kx_S} {own : String}
theorem xk_X11_logAt {P : Nat → kx_S → Prop} {PX : String → kx_S → Prop} (hlt : l.stackTraces = false) (F : CallFix p m c cc nL s args kt_ own) (C : kx_X G c0 s H locs σ) (l0 : Nat) (l1 : Int32) (ha : xt σ l0 = 13) (h : wX11_logAt l0 l1 σ P PX) (hw : Cond.methodLink own index yX11_logAt ∈ kt_) (h1 : (6) + 1 ≤ fr) (h2 : 8 + (2 + 11) + (82) ≤ lo) (hsz : ls.size = nL) (hW : (rest.map fun v => v.category).sum ≤ 8) (hdg : decode cc pc = .ok (.invokevirtual index, 3)) (kx : ∀ (E : String) (ce : Cell) (q9 : Addr) (u : kx_S) (H1 : Heap) (locs1 : List Loc), PX E u → kx_X G c0 s H1 locs1 u → H1[q9]? = some ce → ce.vm = .none → s.vm.findClass E = some ce.cls → vx_W p l e (kx_rm fr lo c0) s m args below meth c H1 locs1 (xc u - c0) (600 * (xc u - c0)) Q (F0 m pc ls rest) q9) (kk : ∀ (r : Nat) (u : kx_S) (H1 : Heap) (locs1 : List Loc), P r u → kx_X G c0 s H1 locs1 u → kx_W p l e fr lo c0 s m args below meth c H1 locs1 u Q (F0 m (pc + 3) ls (.ref r :: rest))) : kx_W p l e fr lo c0 s m args below meth c H locs σ Q (F0 m pc ls (.int l1 :: .ref l0 :: rest)) :=
  kx_cVX (n := 1) (As := [.int l1]) (Cn := RX11) F C (hx_X11_logAt l hlt G l0 l1 σ P PX h) (kt_V hw ux_511 ux_512 ux_117 ux_510) (by decide +kernel) ⟨h1, h2⟩ (kx_recv C (by rw [ha]; decide) (kx_e13 ha) rfl) rfl hsz hW hdg kx (fun v u H1 locs1 hP9 C9 => by obtain ⟨r, hv, hp⟩ := hP9; subst hv; exact kk r u H1 locs1 hp C9)
end
theorem dX11_checkCell_0 : decode cX11_checkCell 0 = .ok (.iload_n 1, 1) := by decide +kernel
theorem dX11_checkCell_1 : decode cX11_checkCell 1 = .ok (.iconst 0, 1) := by decide +kernel
theorem dX11_checkCell_2 : decode cX11_checkCell 2 = .ok (.aload_n 0, 1) := by decide +kernel
theorem dX11_checkCell_3 : decode cX11_checkCell 3 = .ok (.getfield 78, 3) := by decide +kernel
theorem dX11_checkCell_6 : decode cX11_checkCell 6 = .ok (.invokeinterface 59 1, 5) := by decide +kernel
theorem dX11_checkCell_11 : decode cX11_checkCell 11 = .ok (.iconst 1, 1) := by decide +kernel
theorem dX11_checkCell_12 : decode cX11_checkCell 12 = .ok (.isub, 1) := by decide +kernel
theorem dX11_checkCell_13 : decode cX11_checkCell 13 = .ok (.invokestatic 65, 3) := by decide +kernel
theorem dX11_checkCell_16 : decode cX11_checkCell 16 = .ok (.ifCond .ne 14, 3) := by decide +kernel
theorem dX11_checkCell_19 : decode cX11_checkCell 19 = .ok (.new 350, 3) := by decide +kernel
theorem dX11_checkCell_22 : decode cX11_checkCell 22 = .ok (.dup, 1) := by decide +kernel
theorem dX11_checkCell_23 : decode cX11_checkCell 23 = .ok (.ldc_w 401, 3) := by decide +kernel
theorem dX11_checkCell_26 : decode cX11_checkCell 26 = .ok (.invokespecial 354, 3) := by decide +kernel
theorem dX11_checkCell_29 : decode cX11_checkCell 29 = .ok (.athrow, 1) := by decide +kernel
theorem dX11_checkCell_30 : decode cX11_checkCell 30 = .ok (.return_, 1) := by decide +kernel
def wX11_checkCell (l0 : Nat) (l1 : Int32) (σ : kx_S) (Q : kx_S → Prop) (QX : String → kx_S → Prop) : Prop := xt σ l0 = 10 ∧ ∃ a2, xr σ 163 l0 = some a2 ∧ xt σ a2 = 1 ∧ wJx4a65c_size_8abf5 a2 σ (fun r5 σ4 => wX11_isWithin l1 0 (r5 - 1) σ4 (fun r8 σ7 => ((¬ r8 = 0 → Q σ7) ∧
  (r8 = 0 → xc σ7 < kx_N ∧ QX pz_N (xbump σ7)))))
set_option maxRecDepth 100000 in
set_option maxHeartbeats 4000000 in
theorem hx_X11_checkCell (l : Launch) (hlt : l.stackTraces = false) (G : kx_G) (l0 : Nat) (l1 : Int32) (σ : kx_S) (Q : kx_S → Prop) (QX : String → kx_S → Prop) (h : wX11_checkCell l0 l1 σ Q QX) : kx_MX l G yX11_checkCell cX11_checkCell 2 none (6) (82) [.ref l0, .int l1] σ (kx_rv Q) QX := by
  refine kx_enterX (by decide) rfl (Nat.le_of_ble_eq_true rfl) ?_
  intro p e s m below meth c ls F hr hlocks C hout hl
  have hl : lv_has ls 2 [(0, .ref l0), (1, .int l1)] := hl
  obtain ⟨H, eH⟩ : ∃ z9, z9 = s.heap := ⟨_, rfl⟩
  obtain ⟨locs, eL⟩ : ∃ z9 : List Loc, z9 = [] := ⟨_, rfl⟩
  rw [← eH, ← eL] at C
  rw [← eH, ← eL]
  obtain ⟨σ0, e0⟩ : ∃ z9, z9 = σ := ⟨_, rfl⟩
  have C : kx_X G (xc σ0) s H locs σ := by rw [e0]; exact C
  suffices hgo : kx_W p l e (6) (82) (xc σ0) s m ([.ref l0, .int l1] : List Value).toArray below meth c H locs σ (vx_MQ below (kx_Q G σ0 (kx_rv Q)) (kx_XC G σ0 QX) ([.ref l0, .int l1] : List Value).toArray s (kx_N - xc σ0) (600 * (kx_N - xc σ0)) (kx_A G)) (F0 m 0 ls []) by rw [e0] at hgo; exact hgo
  clear e0
  refine lv_iload_n F.1 F.2.1 dX11_checkCell_0 rfl (lv_at hl 1 rfl) ?_
  refine lv_iconst (v := 0) F.1 F.2.1 dX11_checkCell_1 (by decide) ?_
  refine lv_aload_n F.1 F.2.1 dX11_checkCell_2 rfl (lv_at hl 0 rfl) ?_
  obtain ⟨ht1, h⟩ := h
  refine xg_X8_cells F C ht1 ux_513 (fun _ h9 => h9) dX11_checkCell_3 ?_
  obtain ⟨a2, ea3, h⟩ := h
  refine xq_nn ea3 ?_
  obtain ⟨ht6, h⟩ := h
  refine xk_Jx4a65c_size_8abf5 F C a2 ht6 h ux_500 (Nat.le_of_ble_eq_true rfl) (Nat.le_of_ble_eq_true rfl) hl.1 (by simp [Value.category]) dX11_checkCell_6 (fun r5 σ4 H locs h C => ?_)
  refine lv_iconst (v := 1) F.1 F.2.1 dX11_checkCell_11 (by decide) ?_
  refine lv_isub (x := r5) (y := 1) F.1 F.2.1 dX11_checkCell_12 ?_
  refine xk_X11_isWithin F C l1 0 (r5 - 1) h ux_501 (Nat.le_of_ble_eq_true rfl) (Nat.le_of_ble_eq_true rfl) hl.1 (by simp [Value.category]) dX11_checkCell_13 (fun r8 σ7 H locs h C => ?_)
  refine lv_if_ne (tgt := 30) F.1 F.2.1 dX11_checkCell_16 (by decide) (fun c9 => ?_) (fun c9 => ?_)
  · replace h := h.1 c9
    refine vx_ret ?_
    exact kx_vret F C hr hlocks h dX11_checkCell_30
  · replace h := h.2 c9
    obtain ⟨hn10, h⟩ := h
    exact kx_throwN (is := 401) hlt (text := "no such cell") (by decide +kernel) F C hn10 h hl.1 ux_504 ux_505 dX11_checkCell_19 dX11_checkCell_22 dX11_checkCell_23 dX11_checkCell_26 dX11_checkCell_29 hout (Nat.le_of_ble_eq_true rfl) (by simp [Value.category]) hlocks
section
variable {p : Program} {l : Launch} {e : Env} {fr lo c0 : Nat} {s : State} {m : MethodId} {args : Array Value} {below : List Frame} {meth : Method} {c : Code} {H : Heap} {locs : List Loc} {Q : State → Prop}
variable {cc : ByteArray} {pc nL index : Nat} {ls : Array Slot} {rest : List Value} {G : kx_G} {σ : kx_S} {own : String}
theorem xk_X11_checkCell {P : kx_S → Prop} {PX : String → kx_S → Prop} (hlt : l.stackTraces = false) (F : CallFix p m c cc nL s args kt_ own) (C : kx_X G c0 s H locs σ) (l0 : Nat) (l1 : Int32) (h : wX11_checkCell l0 l1 σ P PX) (hw : Cond.methodLink own index yX11_checkCell ∈ kt_) (h1 : (6) + 1 ≤ fr) (h2 : 8 + (2 + 11) + (82) ≤ lo) (hsz : ls.size = nL) (hW : (rest.map fun v => v.category).sum ≤ 8) (hdg : decode cc pc = .ok (.invokestatic index, 3)) (kx : ∀ (E : String) (ce : Cell) (q9 : Addr) (u : kx_S) (H1 : Heap) (locs1 : List Loc), PX E u → kx_X G c0 s H1 locs1 u → H1[q9]? = some ce → ce.vm = .none → s.vm.findClass E = some ce.cls → vx_W p l e (kx_rm fr lo c0) s m args below meth c H1 locs1 (xc u - c0) (600 * (xc u - c0)) Q (F0 m pc ls rest) q9) (kk : ∀ (u : kx_S) (H1 : Heap) (locs1 : List Loc), P u → kx_X G c0 s H1 locs1 u → kx_W p l e fr lo c0 s m args below meth c H1 locs1 u Q (F0 m (pc + 3) ls rest)) : kx_W p l e fr lo c0 s m args below meth c H locs σ Q (F0 m pc ls (.int l1 :: .ref l0 :: rest)) :=
  kx_cSX (n := 2) (As := [.ref l0, .int l1]) F C (hx_X11_checkCell l hlt G l0 l1 σ P PX h) (kt_S hw ux_515 ux_117 ux_514) (by decide +kernel) ⟨h1, h2⟩ rfl hsz hW hdg kx (fun v u H1 locs1 hP9 C9 => by obtain ⟨hv, hp⟩ := hP9; subst hv; exact kk u H1 locs1 hp C9)
end
theorem dX11_numberAt_0 : decode cX11_numberAt 0 = .ok (.iload_n 1, 1) := by decide +kernel
theorem dX11_numberAt_1 : decode cX11_numberAt 1 = .ok (.iconst 0, 1) := by decide +kernel
theorem dX11_numberAt_2 : decode cX11_numberAt 2 = .ok (.aload_n 0, 1) := by decide +kernel
theorem dX11_numberAt_3 : decode cX11_numberAt 3 = .ok (.invokeinterface 59 1, 5) := by decide +kernel
theorem dX11_numberAt_8 : decode cX11_numberAt 8 = .ok (.iconst 1, 1) := by decide +kernel
theorem dX11_numberAt_9 : decode cX11_numberAt 9 = .ok (.isub, 1) := by decide +kernel
theorem dX11_numberAt_10 : decode cX11_numberAt 10 = .ok (.invokestatic 65, 3) := by decide +kernel
theorem dX11_numberAt_13 : decode cX11_numberAt 13 = .ok (.ifCond .eq 19, 3) := by decide +kernel
theorem dX11_numberAt_16 : decode cX11_numberAt 16 = .ok (.aload_n 0, 1) := by decide +kernel
theorem dX11_numberAt_17 : decode cX11_numberAt 17 = .ok (.iload_n 1, 1) := by decide +kernel
theorem dX11_numberAt_18 : decode cX11_numberAt 18 = .ok (.invokeinterface 69 2, 5) := by decide +kernel
theorem dX11_numberAt_23 : decode cX11_numberAt 23 = .ok (.checkcast 187, 3) := by decide +kernel
theorem dX11_numberAt_26 : decode cX11_numberAt 26 = .ok (.getfield 192, 3) := by decide +kernel
theorem dX11_numberAt_29 : decode cX11_numberAt 29 = .ok (.goto 4, 3) := by decide +kernel
theorem dX11_numberAt_32 : decode cX11_numberAt 32 = .ok (.iconst (-1), 1) := by decide +kernel
theorem dX11_numberAt_33 : decode cX11_numberAt 33 = .ok (.ireturn, 1) := by decide +kernel
def wX11_numberAt (l0 : Nat) (l1 : Int32) (σ : kx_S) (Q : Int32 → kx_S → Prop) : Prop := xt σ l0 = 1 ∧ wJx4a65c_size_8abf5 l0 σ (fun r2 σ1 => wX11_isWithin l1 0 (r2 - 1) σ1 (fun r5 σ4 => ((r5 = 0 → Q (-1) σ4) ∧
  (¬ (r5 = 0) → xt σ4 l0 = 1 ∧ wJx4a65c_get_915e3 l0 l1 σ4 (fun q8 σ7 => ∃ a10, q8 = some a10 ∧ xt σ7 a10 = 8 ∧ Q (xi σ7 128 a10) σ7)))))
set_option maxRecDepth 100000 in
set_option maxHeartbeats 4000000 in
theorem hx_X11_numberAt (l : Launch) (G : kx_G) (l0 : Nat) (l1 : Int32) (σ : kx_S) (Q : Int32 → kx_S → Prop) (h : wX11_numberAt l0 l1 σ Q) : kx_M l G yX11_numberAt cX11_numberAt 2 (some .int) (3) (64) [.ref l0, .int l1] σ (kx_ri Q) := by
  refine kx_enter (by decide) rfl (Nat.le_of_ble_eq_true rfl) ?_
  intro p e s m below meth c ls F hr hlocks C hname hl
  have hl : lv_has ls 2 [(0, .ref l0), (1, .int l1)] := hl
  obtain ⟨H, eH⟩ : ∃ z9, z9 = s.heap := ⟨_, rfl⟩
  obtain ⟨locs, eL⟩ : ∃ z9 : List Loc, z9 = [] := ⟨_, rfl⟩
  rw [← eH, ← eL] at C
  rw [← eH, ← eL]
  obtain ⟨σ0, e0⟩ : ∃ z9, z9 = σ := ⟨_, rfl⟩
  have C : kx_X G (xc σ0) s H locs σ := by rw [e0]; exact C
  suffices hgo : kx_W p l e (3) (64) (xc σ0) s m ([.ref l0, .int l1] : List Value).toArray below meth c H locs σ (MQ below (kx_Q G σ0 (kx_ri Q)) ([.ref l0, .int l1] : List Value).toArray s (kx_N - xc σ0) (600 * (kx_N - xc σ0)) (kx_A G)) (F0 m 0 ls []) by rw [e0] at hgo; exact hgo
  clear e0
  refine lv_iload_n F.1 F.2.1 dX11_numberAt_0 rfl (lv_at hl 1 rfl) ?_
  refine lv_iconst (v := 0) F.1 F.2.1 dX11_numberAt_1 (by decide) ?_
  refine lv_aload_n F.1 F.2.1 dX11_numberAt_2 rfl (lv_at hl 0 rfl) ?_
  obtain ⟨ht3, h⟩ := h
  refine xk_Jx4a65c_size_8abf5 F C l0 ht3 h ux_500 (Nat.le_of_ble_eq_true rfl) (Nat.le_of_ble_eq_true rfl) hl.1 (by simp [Value.category]) dX11_numberAt_3 (fun r2 σ1 H locs h C => ?_)
  refine lv_iconst (v := 1) F.1 F.2.1 dX11_numberAt_8 (by decide) ?_
  refine lv_isub (x := r2) (y := 1) F.1 F.2.1 dX11_numberAt_9 ?_
  refine xk_X11_isWithin F C l1 0 (r2 - 1) h ux_501 (Nat.le_of_ble_eq_true rfl) (Nat.le_of_ble_eq_true rfl) hl.1 (by simp [Value.category]) dX11_numberAt_10 (fun r5 σ4 H locs h C => ?_)
  refine lv_if_eq (tgt := 32) F.1 F.2.1 dX11_numberAt_13 (by decide) (fun c6 => ?_) (fun c6 => ?_)
  · replace h := h.1 c6
    refine lv_iconst (v := (-1)) F.1 F.2.1 dX11_numberAt_32 (by decide) ?_
    exact kx_iret F C hr hlocks h dX11_numberAt_33
  · replace h := h.2 c6
    refine lv_aload_n F.1 F.2.1 dX11_numberAt_16 rfl (lv_at hl 0 rfl) ?_
    refine lv_iload_n F.1 F.2.1 dX11_numberAt_17 rfl (lv_at hl 1 rfl) ?_
    obtain ⟨ht9, h⟩ := h
    refine xk_Jx4a65c_get_915e3 F C l0 l1 ht9 h ux_502 (Nat.le_of_ble_eq_true rfl) (Nat.le_of_ble_eq_true rfl) hl.1 (by simp [Value.category]) dX11_numberAt_18 (fun q8 σ7 H locs h C => ?_)
    obtain ⟨a10, ea11, h⟩ := h
    refine xq_nn ea11 ?_
    obtain ⟨ht12, h⟩ := h
    refine kx_cast F C (by rw [ht12]; decide) (kx_e8 ht12) rfl ux_509 dX11_numberAt_23 ?_
    refine xg_X6_number F C ht12 ux_516 (fun _ h9 => h9) dX11_numberAt_26 ?_
    refine lv_goto (tgt := 33) F.1 F.2.1 dX11_numberAt_29 (by decide) ?_
    exact kx_iret F C hr hlocks h dX11_numberAt_33
section
variable {p : Program} {l : Launch} {e : Env} {fr lo c0 : Nat} {s : State} {m : MethodId} {args : Array Value} {below : List Frame} {meth : Method} {c : Code} {H : Heap} {locs : List Loc} {Q : State → Prop}
variable {cc : ByteArray} {pc nL index : Nat} {ls : Array Slot} {rest : List Value} {G : kx_G} {σ : kx_S} {own : String}
theorem xk_X11_numberAt {P : Int32 → kx_S → Prop} (F : CallFix p m c cc nL s args kt_ own) (C : kx_X G c0 s H locs σ) (l0 : Nat) (l1 : Int32) (h : wX11_numberAt l0 l1 σ P) (hw : Cond.methodLink own index yX11_numberAt ∈ kt_) (h1 : (3) + 1 ≤ fr) (h2 : 8 + (2 + 11) + (64) ≤ lo) (hsz : ls.size = nL) (hW : (rest.map fun v => v.category).sum ≤ 8) (hdg : decode cc pc = .ok (.invokestatic index, 3)) (kk : ∀ (r : Int32) (u : kx_S) (H1 : Heap) (locs1 : List Loc), P r u → kx_X G c0 s H1 locs1 u → kx_W p l e fr lo c0 s m args below meth c H1 locs1 u Q (F0 m (pc + 3) ls (.int r :: rest))) : kx_W p l e fr lo c0 s m args below meth c H locs σ Q (F0 m pc ls (.int l1 :: .ref l0 :: rest)) :=
  kx_cS (n := 2) (As := [.ref l0, .int l1]) F C (hx_X11_numberAt l G l0 l1 σ P h) (kt_S hw ux_518 ux_117 ux_517) (by decide +kernel) ⟨h1, h2⟩ rfl hsz hW hdg (fun v u H1 locs1 hP9 C9 => by obtain ⟨r, hv, hp⟩ := hP9; subst hv; exact kk r u H1 locs1 hp C9)
end
theorem dX11_reach_0 : decode cX11_reach 0 = .ok (.aload_n 0, 1) := by decide +kernel
theorem dX11_reach_1 : decode cX11_reach 1 = .ok (.getfield 10, 3) := by decide +kernel
theorem dX11_reach_4 : decode cX11_reach 4 = .ok (.invokeinterface 59 1, 5) := by decide +kernel
theorem dX11_reach_9 : decode cX11_reach 9 = .ok (.bipush 10, 2) := by decide +kernel
theorem dX11_reach_11 : decode cX11_reach 11 = .ok (.if_icmp .ge 22, 3) := by decide +kernel
theorem dX11_reach_14 : decode cX11_reach 14 = .ok (.iload_n 1, 1) := by decide +kernel
theorem dX11_reach_15 : decode cX11_reach 15 = .ok (.iconst (-1), 1) := by decide +kernel
theorem dX11_reach_16 : decode cX11_reach 16 = .ok (.aload_n 0, 1) := by decide +kernel
theorem dX11_reach_17 : decode cX11_reach 17 = .ok (.getfield 10, 3) := by decide +kernel
theorem dX11_reach_20 : decode cX11_reach 20 = .ok (.invokeinterface 59 1, 5) := by decide +kernel
theorem dX11_reach_25 : decode cX11_reach 25 = .ok (.iconst 1, 1) := by decide +kernel
theorem dX11_reach_26 : decode cX11_reach 26 = .ok (.isub, 1) := by decide +kernel
theorem dX11_reach_27 : decode cX11_reach 27 = .ok (.invokestatic 65, 3) := by decide +kernel
theorem dX11_reach_30 : decode cX11_reach 30 = .ok (.ifCond .ne 5, 3) := by decide +kernel
theorem dX11_reach_33 : decode cX11_reach 33 = .ok (.iconst (-1), 1) := by decide +kernel
theorem dX11_reach_34 : decode cX11_reach 34 = .ok (.ireturn, 1) := by decide +kernel
theorem dX11_reach_35 : decode cX11_reach 35 = .ok (.iload_n 2, 1) := by decide +kernel
theorem dX11_reach_36 : decode cX11_reach 36 = .ok (.iconst 1, 1) := by decide +kernel
theorem dX11_reach_37 : decode cX11_reach 37 = .ok (.bipush 12, 2) := by decide +kernel
theorem dX11_reach_39 : decode cX11_reach 39 = .ok (.invokestatic 65, 3) := by decide +kernel
theorem dX11_reach_42 : decode cX11_reach 42 = .ok (.ifCond .eq 25, 3) := by decide +kernel
theorem dX11_reach_45 : decode cX11_reach 45 = .ok (.iload_n 3, 1) := by decide +kernel
theorem dX11_reach_46 : decode cX11_reach 46 = .ok (.iconst 1, 1) := by decide +kernel
theorem dX11_reach_47 : decode cX11_reach 47 = .ok (.bipush 20, 2) := by decide +kernel
theorem dX11_reach_49 : decode cX11_reach 49 = .ok (.invokestatic 65, 3) := by decide +kernel
theorem dX11_reach_52 : decode cX11_reach 52 = .ok (.ifCond .eq 15, 3) := by decide +kernel
theorem dX11_reach_55 : decode cX11_reach 55 = .ok (.iload 4, 2) := by decide +kernel
theorem dX11_reach_57 : decode cX11_reach 57 = .ok (.iconst 0, 1) := by decide +kernel
theorem dX11_reach_58 : decode cX11_reach 58 = .ok (.sipush 1000, 3) := by decide +kernel
theorem dX11_reach_61 : decode cX11_reach 61 = .ok (.invokestatic 65, 3) := by decide +kernel
theorem dX11_reach_64 : decode cX11_reach 64 = .ok (.ifCond .ne 5, 3) := by decide +kernel
theorem dX11_reach_67 : decode cX11_reach 67 = .ok (.iconst (-1), 1) := by decide +kernel
theorem dX11_reach_68 : decode cX11_reach 68 = .ok (.ireturn, 1) := by decide +kernel
theorem dX11_reach_69 : decode cX11_reach 69 = .ok (.iload_n 1, 1) := by decide +kernel
theorem dX11_reach_70 : decode cX11_reach 70 = .ok (.ifCond .lt 19, 3) := by decide +kernel
theorem dX11_reach_73 : decode cX11_reach 73 = .ok (.aload_n 0, 1) := by decide +kernel
theorem dX11_reach_74 : decode cX11_reach 74 = .ok (.getfield 10, 3) := by decide +kernel
theorem dX11_reach_77 : decode cX11_reach 77 = .ok (.iload_n 1, 1) := by decide +kernel
theorem dX11_reach_78 : decode cX11_reach 78 = .ok (.invokeinterface 69 2, 5) := by decide +kernel
theorem dX11_reach_83 : decode cX11_reach 83 = .ok (.checkcast 73, 3) := by decide +kernel
theorem dX11_reach_86 : decode cX11_reach 86 = .ok (.goto 4, 3) := by decide +kernel
theorem dX11_reach_89 : decode cX11_reach 89 = .ok (.aconst_null, 1) := by decide +kernel
theorem dX11_reach_90 : decode cX11_reach 90 = .ok (.astore 5, 2) := by decide +kernel
theorem dX11_reach_92 : decode cX11_reach 92 = .ok (.new 73, 3) := by decide +kernel
theorem dX11_reach_95 : decode cX11_reach 95 = .ok (.dup, 1) := by decide +kernel
theorem dX11_reach_96 : decode cX11_reach 96 = .ok (.aload_n 0, 1) := by decide +kernel
theorem dX11_reach_97 : decode cX11_reach 97 = .ok (.getfield 10, 3) := by decide +kernel
theorem dX11_reach_100 : decode cX11_reach 100 = .ok (.invokeinterface 59 1, 5) := by decide +kernel
theorem dX11_reach_105 : decode cX11_reach 105 = .ok (.aload 5, 2) := by decide +kernel
theorem dX11_reach_107 : decode cX11_reach 107 = .ok (.iload 4, 2) := by decide +kernel
theorem dX11_reach_109 : decode cX11_reach 109 = .ok (.invokespecial 75, 3) := by decide +kernel
theorem dX11_reach_112 : decode cX11_reach 112 = .ok (.astore 6, 2) := by decide +kernel
theorem dX11_reach_114 : decode cX11_reach 114 = .ok (.iconst 0, 1) := by decide +kernel
theorem dX11_reach_115 : decode cX11_reach 115 = .ok (.istore 7, 2) := by decide +kernel
theorem dX11_reach_117 : decode cX11_reach 117 = .ok (.iload 7, 2) := by decide +kernel
theorem dX11_reach_119 : decode cX11_reach 119 = .ok (.iload_n 2, 1) := by decide +kernel
theorem dX11_reach_120 : decode cX11_reach 120 = .ok (.if_icmp .ge 28, 3) := by decide +kernel
theorem dX11_reach_123 : decode cX11_reach 123 = .ok (.aload 6, 2) := by decide +kernel
theorem dX11_reach_125 : decode cX11_reach 125 = .ok (.getfield 78, 3) := by decide +kernel
theorem dX11_reach_128 : decode cX11_reach 128 = .ok (.new 81, 3) := by decide +kernel
theorem dX11_reach_131 : decode cX11_reach 131 = .ok (.dup, 1) := by decide +kernel
theorem dX11_reach_132 : decode cX11_reach 132 = .ok (.iload_n 3, 1) := by decide +kernel
theorem dX11_reach_133 : decode cX11_reach 133 = .ok (.invokespecial 83, 3) := by decide +kernel
theorem dX11_reach_136 : decode cX11_reach 136 = .ok (.invokeinterface 86 2, 5) := by decide +kernel
theorem dX11_reach_141 : decode cX11_reach 141 = .ok (.pop, 1) := by decide +kernel
theorem dX11_reach_142 : decode cX11_reach 142 = .ok (.iinc 7 1, 3) := by decide +kernel
theorem dX11_reach_145 : decode cX11_reach 145 = .ok (.goto (-28), 3) := by decide +kernel
theorem dX11_reach_148 : decode cX11_reach 148 = .ok (.aload_n 0, 1) := by decide +kernel
theorem dX11_reach_149 : decode cX11_reach 149 = .ok (.getfield 10, 3) := by decide +kernel
theorem dX11_reach_152 : decode cX11_reach 152 = .ok (.aload 6, 2) := by decide +kernel
theorem dX11_reach_154 : decode cX11_reach 154 = .ok (.invokeinterface 86 2, 5) := by decide +kernel
theorem dX11_reach_159 : decode cX11_reach 159 = .ok (.pop, 1) := by decide +kernel
theorem dX11_reach_160 : decode cX11_reach 160 = .ok (.aload 6, 2) := by decide +kernel
theorem dX11_reach_162 : decode cX11_reach 162 = .ok (.getfield 90, 3) := by decide +kernel
theorem dX11_reach_165 : decode cX11_reach 165 = .ok (.ireturn, 1) := by decide +kernel
def wX11_reach_148 (Q : Int32 → kx_S → Prop) (l0 : Nat) (l6 : Nat) (σ : kx_S) : Prop := xt σ l0 = 13 ∧ ∃ a2, xr σ 208 l0 = some a2 ∧ xt σ a2 = 1 ∧ wJx4a65c_add_9ea2d a2 l6 σ (fun r5 σ4 => xt σ4 l6 = 10 ∧ Q (xi σ4 160 l6) σ4)
def wX11_reach_117 (k148 : Nat → Nat → kx_S → Prop) (Q : Int32 → kx_S → Prop) : Nat → Nat → Int32 → Int32 → Nat → Int32 → kx_S → Prop
  | 0, _, _, _, _, _, _ => False
  | n + 1, l0, l2, l3, l6, l7, σ => ((l2 ≤ l7 → k148 l0 l6 σ) ∧
    (¬ (l2 ≤ l7) → xt σ l6 = 10 ∧ ∃ a10, xr σ 163 l6 = some a10 ∧ xc σ < kx_N ∧ ∀ p13, xt σ p13 = 0 → p13 ≠ xz σ → ∀ σ16, σ16 = xnew σ p13 3 → wX1_init p13 l3 σ16 (fun σ18 => xt σ18 a10 = 1 ∧ wJx4a65c_add_9ea2d a10 p13 σ18 (fun r20 σ19 => ∀ v22 : Int32, v22 = l7 + 1 → wX11_reach_117 k148 Q n l0 l2 l3 l6 v22 σ19))))
def wX11_reach_90 (Q : Int32 → kx_S → Prop) (l0 : Nat) (l2 : Int32) (l3 : Int32) (l4 : Int32) (s0 : Option Nat) (σ : kx_S) : Prop := xc σ < kx_N ∧ ∀ p24, xt σ p24 = 0 → p24 ≠ xz σ → ∀ σ27, σ27 = xnew σ p24 10 → xt σ27 l0 = 13 ∧ ∃ a30, xr σ27 208 l0 = some a30 ∧ xt σ27 a30 = 1 ∧ wJx4a65c_size_8abf5 a30 σ27 (fun r33 σ32 => wX8_init p24 r33 s0 l4 σ32 (fun σ35 => ∃ j, wX11_reach_117 (wX11_reach_148 Q) Q j l0 l2 l3 p24 0 σ35))
def wX11_reach (l0 : Nat) (l1 : Int32) (l2 : Int32) (l3 : Int32) (l4 : Int32) (σ : kx_S) (Q : Int32 → kx_S → Prop) : Prop := xt σ l0 = 13 ∧ ∃ a38, xr σ 208 l0 = some a38 ∧ xt σ a38 = 1 ∧ wJx4a65c_size_8abf5 a38 σ (fun r41 σ40 => ((10 ≤ r41 → Q (-1) σ40) ∧
  (¬ (10 ≤ r41) → xt σ40 l0 = 13 ∧ ∃ a45, xr σ40 208 l0 = some a45 ∧ xt σ40 a45 = 1 ∧ wJx4a65c_size_8abf5 a45 σ40 (fun r48 σ47 => wX11_isWithin l1 (-1) (r48 - 1) σ47 (fun r51 σ50 => ((¬ r51 = 0 → wX11_isWithin l2 1 12 σ50 (fun r54 σ53 => ((r54 = 0 → Q (-1) σ53) ∧
      (¬ (r54 = 0) → wX11_isWithin l3 1 20 σ53 (fun r57 σ56 => ((r57 = 0 → Q (-1) σ56) ∧
        (¬ (r57 = 0) → wX11_isWithin l4 0 1000 σ56 (fun r60 σ59 => ((¬ r60 = 0 → ((l1 < 0 → wX11_reach_90 Q l0 l2 l3 l4 none σ59) ∧
            (¬ (l1 < 0) → xt σ59 l0 = 13 ∧ ∃ a64, xr σ59 208 l0 = some a64 ∧ xt σ59 a64 = 1 ∧ wJx4a65c_get_915e3 a64 l1 σ59 (fun q67 σ66 => ∃ a69, q67 = some a69 ∧ xt σ66 a69 = 10 ∧ wX11_reach_90 Q l0 l2 l3 l4 (some a69) σ66)))) ∧
          (r60 = 0 → Q (-1) σ59)))))))))) ∧
    (r51 = 0 → Q (-1) σ50)))))))
set_option maxRecDepth 100000 in
set_option maxHeartbeats 4000000 in
theorem tX11_reach_148 (l : Launch) (G : kx_G) (σ0 : kx_S) {p : Program} {e : Env} {s : State} {m : MethodId} {args : Array Value} {below : List Frame} {meth : Method} {c : Code} (F : CallFix p m c cX11_reach 8 s args kt_ RX11) (hr : meth.sig.returnType = (some .int)) (hlocks : meth.locks = false) (Q : Int32 → kx_S → Prop) : ∀ (l0 : Nat) (l6 : Nat) (σ : kx_S) (H : Heap) (locs : List Loc) (ls : Array Slot), wX11_reach_148 Q l0 l6 σ → kx_X G (xc σ0) s H locs σ → lv_has ls 8 [(0, .ref l0), (6, .ref l6)] → kx_W p l e (7) (231) (xc σ0) s m args below meth c H locs σ (MQ below (kx_Q G σ0 (kx_ri Q)) args s (kx_N - xc σ0) (600 * (kx_N - xc σ0)) (kx_A G)) (F0 m 148 ls []) := by
  intro l0 l6 σ H locs ls h C hl
  refine lv_aload_n F.1 F.2.1 dX11_reach_148 rfl (lv_at hl 0 rfl) ?_
  obtain ⟨ht1, h⟩ := h
  refine xg_X11_reaches F C ht1 ux_479 (fun _ h9 => h9) dX11_reach_149 ?_
  obtain ⟨a2, ea3, h⟩ := h
  refine xq_nn ea3 ?_
  refine lv_aload F.1 F.2.1 dX11_reach_152 (lv_at hl 1 rfl) ?_
  obtain ⟨ht6, h⟩ := h
  refine xk_Jx4a65c_add_9ea2d F C a2 l6 ht6 h ux_519 (Nat.le_of_ble_eq_true rfl) (Nat.le_of_ble_eq_true rfl) hl.1 (by simp [Value.category]) dX11_reach_154 (fun r5 σ4 H locs h C => ?_)
  refine lv_pop F.1 F.2.1 dX11_reach_159 rfl ?_
  refine lv_aload F.1 F.2.1 dX11_reach_160 (lv_at hl 1 rfl) ?_
  obtain ⟨ht7, h⟩ := h
  refine xg_X8_number F C ht7 ux_520 (fun _ h9 => h9) dX11_reach_162 ?_
  exact kx_iret F C hr hlocks h dX11_reach_165
set_option maxRecDepth 100000 in
set_option maxHeartbeats 4000000 in
theorem tX11_reach_117 (l : Launch) (G : kx_G) (σ0 : kx_S) {p : Program} {e : Env} {s : State} {m : MethodId} {args : Array Value} {below : List Frame} {meth : Method} {c : Code} (F : CallFix p m c cX11_reach 8 s args kt_ RX11) (hr : meth.sig.returnType = (some .int)) (hlocks : meth.locks = false) (Q : Int32 → kx_S → Prop) (k148 : Nat → Nat → kx_S → Prop) (hk148 : ∀ (l0 : Nat) (l6 : Nat) (σ : kx_S) (H : Heap) (locs : List Loc) (ls : Array Slot), k148 l0 l6 σ → kx_X G (xc σ0) s H locs σ → lv_has ls 8 [(0, .ref l0), (6, .ref l6)] → kx_W p l e (7) (231) (xc σ0) s m args below meth c H locs σ (MQ below (kx_Q G σ0 (kx_ri Q)) args s (kx_N - xc σ0) (600 * (kx_N - xc σ0)) (kx_A G)) (F0 m 148 ls [])) : ∀ (n : Nat) (l0 : Nat) (l2 : Int32) (l3 : Int32) (l6 : Nat) (l7 : Int32) (σ : kx_S) (H : Heap) (locs : List Loc) (ls : Array Slot), wX11_reach_117 k148 Q n l0 l2 l3 l6 l7 σ → kx_X G (xc σ0) s H locs σ → lv_has ls 8 [(0, .ref l0), (2, .int l2), (3, .int l3), (6, .ref l6), (7, .int l7)] → kx_W p l e (7) (231) (xc σ0) s m args below meth c H locs σ (MQ below (kx_Q G σ0 (kx_ri Q)) args s (kx_N - xc σ0) (600 * (kx_N - xc σ0)) (kx_A G)) (F0 m 117 ls []) := by
  intro n
  induction n with
  | zero => intro l0 l2 l3 l6 l7 σ H locs ls h; exact h.elim
  | succ n ih =>
    intro l0 l2 l3 l6 l7 σ H locs ls h C hl
    refine lv_iload F.1 F.2.1 dX11_reach_117 (lv_at hl 4 rfl) ?_
    refine lv_iload_n F.1 F.2.1 dX11_reach_119 rfl (lv_at hl 1 rfl) ?_
    refine lv_icmp_ge (tgt := 148) F.1 F.2.1 dX11_reach_120 (by decide) (fun c8 => ?_) (fun c8 => ?_)
    · replace h := h.1 c8
      exact hk148 l0 l6 σ H locs ls h C (lv_sub hl [0, 3] rfl)
    · replace h := h.2 c8
      refine lv_aload F.1 F.2.1 dX11_reach_123 (lv_at hl 3 rfl) ?_
      obtain ⟨ht9, h⟩ := h
      refine xg_X8_cells F C ht9 ux_513 (fun _ h9 => h9) dX11_reach_125 ?_
      obtain ⟨a10, ea11, h⟩ := h
      refine xq_nn ea11 ?_
      obtain ⟨hn12, h⟩ := h
      refine xw_X1 F C hn12 ux_521 dX11_reach_128 (fun p13 H z14 z15 C => ?_)
      replace h := h p13 z14 (fun h9 => z15 (h9.trans (show xz σ = _ from C.2.1.1)))
      generalize eσ16 : xnew σ p13 3 = σ16 at C ⊢
      replace h := h σ16 eσ16.symm
      have ht17 : xt σ16 p13 = 3 := by rw [← eσ16]; exact va_up_self _ _ _
      refine lv_dup F.1 F.2.1 dX11_reach_131 rfl ?_
      refine lv_iload_n F.1 F.2.1 dX11_reach_132 rfl (lv_at hl 2 rfl) ?_
      refine xk_X1_init F C p13 l3 h ux_522 (Nat.le_of_ble_eq_true rfl) (Nat.le_of_ble_eq_true rfl) hl.1 (by simp [Value.category]) dX11_reach_133 (fun σ18 H locs h C => ?_)
      obtain ⟨ht21, h⟩ := h
      refine xk_Jx4a65c_add_9ea2d F C a10 p13 ht21 h ux_519 (Nat.le_of_ble_eq_true rfl) (Nat.le_of_ble_eq_true rfl) hl.1 (by simp [Value.category]) dX11_reach_136 (fun r20 σ19 H locs h C => ?_)
      refine lv_pop F.1 F.2.1 dX11_reach_141 rfl ?_
      obtain ⟨v22, ev22⟩ : ∃ z9 : Int32, z9 = l7 + 1 := ⟨_, rfl⟩
      replace h := h v22 ev22
      refine lv_iinc (v := v22) (lv' := [(7, .int v22), (0, .ref l0), (2, .int l2), (3, .int l3), (6, .ref l6)]) F.1 F.2.1 dX11_reach_142 hl (k := 4) rfl (by rw [ev22]; rfl) (by decide) rfl (fun ls hl => ?_)
      refine lv_goto (tgt := 117) F.1 F.2.1 dX11_reach_145 (by decide) ?_
      exact ih l0 l2 l3 l6 v22 σ19 H locs ls h C (lv_sub hl [1, 2, 3, 4, 0] rfl)
set_option maxRecDepth 100000 in
set_option maxHeartbeats 4000000 in
theorem tX11_reach_90 (l : Launch) (G : kx_G) (σ0 : kx_S) {p : Program} {e : Env} {s : State} {m : MethodId} {args : Array Value} {below : List Frame} {meth : Method} {c : Code} (F : CallFix p m c cX11_reach 8 s args kt_ RX11) (hr : meth.sig.returnType = (some .int)) (hlocks : meth.locks = false) (Q : Int32 → kx_S → Prop) : ∀ (l0 : Nat) (l2 : Int32) (l3 : Int32) (l4 : Int32) (s0 : Option Nat) (σ : kx_S) (H : Heap) (locs : List Loc) (ls : Array Slot), wX11_reach_90 Q l0 l2 l3 l4 s0 σ → kx_X G (xc σ0) s H locs σ → lv_has ls 8 [(0, .ref l0), (2, .int l2), (3, .int l3), (4, .int l4)] → kx_W p l e (7) (231) (xc σ0) s m args below meth c H locs σ (MQ below (kx_Q G σ0 (kx_ri Q)) args s (kx_N - xc σ0) (600 * (kx_N - xc σ0)) (kx_A G)) (F0 m 90 ls [va_rf s0]) := by
  intro l0 l2 l3 l4 s0 σ H locs ls h C hl
  refine xq_astore (lv' := [(5, va_rf s0), (0, .ref l0), (2, .int l2), (3, .int l3), (4, .int l4)]) F.1 F.2.1 dX11_reach_90 hl (by decide) rfl (fun ls hl => ?_)
  obtain ⟨hn23, h⟩ := h
  refine xw_X8 F C hn23 ux_503 dX11_reach_92 (fun p24 H z25 z26 C => ?_)
  replace h := h p24 z25 (fun h9 => z26 (h9.trans (show xz σ = _ from C.2.1.1)))
  generalize eσ27 : xnew σ p24 10 = σ27 at C ⊢
  replace h := h σ27 eσ27.symm
  have ht28 : xt σ27 p24 = 10 := by rw [← eσ27]; exact va_up_self _ _ _
  refine lv_dup F.1 F.2.1 dX11_reach_95 rfl ?_
  refine lv_aload_n F.1 F.2.1 dX11_reach_96 rfl (lv_at hl 1 rfl) ?_
  obtain ⟨ht29, h⟩ := h
  refine xg_X11_reaches F C ht29 ux_479 (fun _ h9 => h9) dX11_reach_97 ?_
  obtain ⟨a30, ea31, h⟩ := h
  refine xq_nn ea31 ?_
  obtain ⟨ht34, h⟩ := h
  refine xk_Jx4a65c_size_8abf5 F C a30 ht34 h ux_500 (Nat.le_of_ble_eq_true rfl) (Nat.le_of_ble_eq_true rfl) hl.1 (by simp [Value.category]) dX11_reach_100 (fun r33 σ32 H locs h C => ?_)
  refine xq_aload F.1 F.2.1 dX11_reach_105 (lv_at hl 0 rfl) ?_
  refine lv_iload F.1 F.2.1 dX11_reach_107 (lv_at hl 4 rfl) ?_
  refine xk_X8_init F C p24 r33 s0 l4 h ux_523 (Nat.le_of_ble_eq_true rfl) (Nat.le_of_ble_eq_true rfl) hl.1 (by simp [Value.category]) dX11_reach_109 (fun σ35 H locs h C => ?_)
  refine lv_astore (lv' := [(6, .ref p24), (5, va_rf s0), (0, .ref l0), (2, .int l2), (3, .int l3), (4, .int l4)]) F.1 F.2.1 dX11_reach_112 hl (by decide) (by cases s0 <;> rfl) (fun ls hl => ?_)
  refine lv_iconst (v := 0) F.1 F.2.1 dX11_reach_114 (by decide) ?_
  refine lv_istore (lv' := [(7, .int 0), (6, .ref p24), (5, va_rf s0), (0, .ref l0), (2, .int l2), (3, .int l3), (4, .int l4)]) F.1 F.2.1 dX11_reach_115 hl (by decide) rfl (fun ls hl => ?_)
  obtain ⟨n36, h⟩ := h
  exact tX11_reach_117 l G σ0 F hr hlocks Q (wX11_reach_148 Q) (tX11_reach_148 l G σ0 F hr hlocks Q) n36 l0 l2 l3 p24 0 σ35 H locs ls h C (lv_sub hl [3, 4, 5, 1, 0] rfl)
set_option maxRecDepth 100000 in
set_option maxHeartbeats 4000000 in
theorem hx_X11_reach (l : Launch) (G : kx_G) (l0 : Nat) (l1 : Int32) (l2 : Int32) (l3 : Int32) (l4 : Int32) (σ : kx_S) (Q : Int32 → kx_S → Prop) (h : wX11_reach l0 l1 l2 l3 l4 σ Q) : kx_M l G yX11_reach cX11_reach 8 (some .int) (7) (231) [.ref l0, .int l1, .int l2, .int l3, .int l4] σ (kx_ri Q) := by
  refine kx_enter (by decide) rfl (Nat.le_of_ble_eq_true rfl) ?_
  intro p e s m below meth c ls F hr hlocks C hname hl
  have hl : lv_has ls 8 [(0, .ref l0), (1, .int l1), (2, .int l2), (3, .int l3), (4, .int l4)] := hl
  obtain ⟨H, eH⟩ : ∃ z9, z9 = s.heap := ⟨_, rfl⟩
  obtain ⟨locs, eL⟩ : ∃ z9 : List Loc, z9 = [] := ⟨_, rfl⟩
  rw [← eH, ← eL] at C
  rw [← eH, ← eL]
  obtain ⟨σ0, e0⟩ : ∃ z9, z9 = σ := ⟨_, rfl⟩
  have C : kx_X G (xc σ0) s H locs σ := by rw [e0]; exact C
  suffices hgo : kx_W p l e (7) (231) (xc σ0) s m ([.ref l0, .int l1, .int l2, .int l3, .int l4] : List Value).toArray below meth c H locs σ (MQ below (kx_Q G σ0 (kx_ri Q)) ([.ref l0, .int l1, .int l2, .int l3, .int l4] : List Value).toArray s (kx_N - xc σ0) (600 * (kx_N - xc σ0)) (kx_A G)) (F0 m 0 ls []) by rw [e0] at hgo; exact hgo
  clear e0
  refine lv_aload_n F.1 F.2.1 dX11_reach_0 rfl (lv_at hl 0 rfl) ?_
  obtain ⟨ht37, h⟩ := h
  refine xg_X11_reaches F C ht37 ux_479 (fun _ h9 => h9) dX11_reach_1 ?_
  obtain ⟨a38, ea39, h⟩ := h
  refine xq_nn ea39 ?_
  obtain ⟨ht42, h⟩ := h
  refine xk_Jx4a65c_size_8abf5 F C a38 ht42 h ux_500 (Nat.le_of_ble_eq_true rfl) (Nat.le_of_ble_eq_true rfl) hl.1 (by simp [Value.category]) dX11_reach_4 (fun r41 σ40 H locs h C => ?_)
  refine lv_bipush (v := 10) F.1 F.2.1 dX11_reach_9 (by decide) ?_
  refine lv_icmp_ge (tgt := 33) F.1 F.2.1 dX11_reach_11 (by decide) (fun c43 => ?_) (fun c43 => ?_)
  · replace h := h.1 c43
    refine lv_iconst (v := (-1)) F.1 F.2.1 dX11_reach_33 (by decide) ?_
    exact kx_iret F C hr hlocks h dX11_reach_34
  · replace h := h.2 c43
    refine lv_iload_n F.1 F.2.1 dX11_reach_14 rfl (lv_at hl 1 rfl) ?_
    refine lv_iconst (v := (-1)) F.1 F.2.1 dX11_reach_15 (by decide) ?_
    refine lv_aload_n F.1 F.2.1 dX11_reach_16 rfl (lv_at hl 0 rfl) ?_
    obtain ⟨ht44, h⟩ := h
    refine xg_X11_reaches F C ht44 ux_479 (fun _ h9 => h9) dX11_reach_17 ?_
    obtain ⟨a45, ea46, h⟩ := h
    refine xq_nn ea46 ?_
    obtain ⟨ht49, h⟩ := h
    refine xk_Jx4a65c_size_8abf5 F C a45 ht49 h ux_500 (Nat.le_of_ble_eq_true rfl) (Nat.le_of_ble_eq_true rfl) hl.1 (by simp [Value.category]) dX11_reach_20 (fun r48 σ47 H locs h C => ?_)
    refine lv_iconst (v := 1) F.1 F.2.1 dX11_reach_25 (by decide) ?_
    refine lv_isub (x := r48) (y := 1) F.1 F.2.1 dX11_reach_26 ?_
    refine xk_X11_isWithin F C l1 (-1) (r48 - 1) h ux_501 (Nat.le_of_ble_eq_true rfl) (Nat.le_of_ble_eq_true rfl) hl.1 (by simp [Value.category]) dX11_reach_27 (fun r51 σ50 H locs h C => ?_)
    refine lv_if_ne (tgt := 35) F.1 F.2.1 dX11_reach_30 (by decide) (fun c52 => ?_) (fun c52 => ?_)
    · replace h := h.1 c52
      refine lv_iload_n F.1 F.2.1 dX11_reach_35 rfl (lv_at hl 2 rfl) ?_
      refine lv_iconst (v := 1) F.1 F.2.1 dX11_reach_36 (by decide) ?_
      refine lv_bipush (v := 12) F.1 F.2.1 dX11_reach_37 (by decide) ?_
      refine xk_X11_isWithin F C l2 1 12 h ux_501 (Nat.le_of_ble_eq_true rfl) (Nat.le_of_ble_eq_true rfl) hl.1 (by simp [Value.category]) dX11_reach_39 (fun r54 σ53 H locs h C => ?_)
      refine lv_if_eq (tgt := 67) F.1 F.2.1 dX11_reach_42 (by decide) (fun c55 => ?_) (fun c55 => ?_)
      · replace h := h.1 c55
        refine lv_iconst (v := (-1)) F.1 F.2.1 dX11_reach_67 (by decide) ?_
        exact kx_iret F C hr hlocks h dX11_reach_68
      · replace h := h.2 c55
        refine lv_iload_n F.1 F.2.1 dX11_reach_45 rfl (lv_at hl 3 rfl) ?_
        refine lv_iconst (v := 1) F.1 F.2.1 dX11_reach_46 (by decide) ?_
        refine lv_bipush (v := 20) F.1 F.2.1 dX11_reach_47 (by decide) ?_
        refine xk_X11_isWithin F C l3 1 20 h ux_501 (Nat.le_of_ble_eq_true rfl) (Nat.le_of_ble_eq_true rfl) hl.1 (by simp [Value.category]) dX11_reach_49 (fun r57 σ56 H locs h C => ?_)
        refine lv_if_eq (tgt := 67) F.1 F.2.1 dX11_reach_52 (by decide) (fun c58 => ?_) (fun c58 => ?_)
        · replace h := h.1 c58
          refine lv_iconst (v := (-1)) F.1 F.2.1 dX11_reach_67 (by decide) ?_
          exact kx_iret F C hr hlocks h dX11_reach_68
        · replace h := h.2 c58
          refine lv_iload F.1 F.2.1 dX11_reach_55 (lv_at hl 4 rfl) ?_
          refine lv_iconst (v := 0) F.1 F.2.1 dX11_reach_57 (by decide) ?_
          refine lv_sipush (v := 1000) F.1 F.2.1 dX11_reach_58 (by decide) ?_
          refine xk_X11_isWithin F C l4 0 1000 h ux_501 (Nat.le_of_ble_eq_true rfl) (Nat.le_of_ble_eq_true rfl) hl.1 (by simp [Value.category]) dX11_reach_61 (fun r60 σ59 H locs h C => ?_)
          refine lv_if_ne (tgt := 69) F.1 F.2.1 dX11_reach_64 (by decide) (fun c61 => ?_) (fun c61 => ?_)
          · replace h := h.1 c61
            refine lv_iload_n F.1 F.2.1 dX11_reach_69 rfl (lv_at hl 1 rfl) ?_
            refine lv_if_lt (tgt := 89) F.1 F.2.1 dX11_reach_70 (by decide) (fun c62 => ?_) (fun c62 => ?_)
            · replace h := h.1 c62
              refine lv_null F.1 F.2.1 dX11_reach_89 ?_
              exact tX11_reach_90 l G σ0 F hr hlocks Q l0 l2 l3 l4 none σ59 H locs ls h C (lv_sub hl [0, 2, 3, 4] rfl)
            · replace h := h.2 c62
              refine lv_aload_n F.1 F.2.1 dX11_reach_73 rfl (lv_at hl 0 rfl) ?_
              obtain ⟨ht63, h⟩ := h
              refine xg_X11_reaches F C ht63 ux_479 (fun _ h9 => h9) dX11_reach_74 ?_
              obtain ⟨a64, ea65, h⟩ := h
              refine xq_nn ea65 ?_
              refine lv_iload_n F.1 F.2.1 dX11_reach_77 rfl (lv_at hl 1 rfl) ?_
              obtain ⟨ht68, h⟩ := h
              refine xk_Jx4a65c_get_915e3 F C a64 l1 ht68 h ux_502 (Nat.le_of_ble_eq_true rfl) (Nat.le_of_ble_eq_true rfl) hl.1 (by simp [Value.category]) dX11_reach_78 (fun q67 σ66 H locs h C => ?_)
              obtain ⟨a69, ea70, h⟩ := h
              refine xq_nn ea70 ?_
              obtain ⟨ht71, h⟩ := h
              refine kx_cast F C (by rw [ht71]; decide) (kx_e10 ht71) rfl ux_503 dX11_reach_83 ?_
              refine lv_goto (tgt := 90) F.1 F.2.1 dX11_reach_86 (by decide) ?_
              exact tX11_reach_90 l G σ0 F hr hlocks Q l0 l2 l3 l4 (some a69) σ66 H locs ls h C (lv_sub hl [0, 2, 3, 4] rfl)
          · replace h := h.2 c61
            refine lv_iconst (v := (-1)) F.1 F.2.1 dX11_reach_67 (by decide) ?_
            exact kx_iret F C hr hlocks h dX11_reach_68
    · replace h := h.2 c52
      refine lv_iconst (v := (-1)) F.1 F.2.1 dX11_reach_33 (by decide) ?_
      exact kx_iret F C hr hlocks h dX11_reach_34
section
variable {p : Program} {l : Launch} {e : Env} {fr lo c0 : Nat} {s : State} {m : MethodId} {args : Array Value} {below : List Frame} {meth : Method} {c : Code} {H : Heap} {locs : List Loc} {Q : State → Prop}
variable {cc : ByteArray} {pc nL index : Nat} {ls : Array Slot} {rest : List Value} {G : kx_G} {σ : kx_S} {own : String}
theorem xk_X11_reach {P : Int32 → kx_S → Prop} (F : CallFix p m c cc nL s args kt_ own) (C : kx_X G c0 s H locs σ) (l0 : Nat) (l1 : Int32) (l2 : Int32) (l3 : Int32) (l4 : Int32) (ha : xt σ l0 = 13) (h : wX11_reach l0 l1 l2 l3 l4 σ P) (hw : Cond.methodLink own index yX11_reach ∈ kt_) (h1 : (7) + 1 ≤ fr) (h2 : 8 + (8 + 11) + (231) ≤ lo) (hsz : ls.size = nL) (hW : (rest.map fun v => v.category).sum ≤ 8) (hdg : decode cc pc = .ok (.invokevirtual index, 3)) (kk : ∀ (r : Int32) (u : kx_S) (H1 : Heap) (locs1 : List Loc), P r u → kx_X G c0 s H1 locs1 u → kx_W p l e fr lo c0 s m args below meth c H1 locs1 u Q (F0 m (pc + 3) ls (.int r :: rest))) : kx_W p l e fr lo c0 s m args below meth c H locs σ Q (F0 m pc ls (.int l4 :: .int l3 :: .int l2 :: .int l1 :: .ref l0 :: rest)) :=
  kx_cV (n := 4) (As := [.int l1, .int l2, .int l3, .int l4]) (Cn := RX11) F C (hx_X11_reach l G l0 l1 l2 l3 l4 σ P h) (kt_V hw ux_525 ux_526 ux_117 ux_524) (by decide +kernel) ⟨h1, h2⟩ (kx_recv C (by rw [ha]; decide) (kx_e13 ha) rfl) rfl hsz hW hdg (fun v u H1 locs1 hP9 C9 => by obtain ⟨r, hv, hp⟩ := hP9; subst hv; exact kk r u H1 locs1 hp C9)
end
theorem dX11_dam_0 : decode cX11_dam 0 = .ok (.aload_n 0, 1) := by decide +kernel
theorem dX11_dam_1 : decode cX11_dam 1 = .ok (.iload_n 1, 1) := by decide +kernel
theorem dX11_dam_2 : decode cX11_dam 2 = .ok (.invokevirtual 93, 3) := by decide +kernel
theorem dX11_dam_5 : decode cX11_dam 5 = .ok (.astore_n 3, 1) := by decide +kernel
theorem dX11_dam_6 : decode cX11_dam 6 = .ok (.iload_n 2, 1) := by decide +kernel
theorem dX11_dam_7 : decode cX11_dam 7 = .ok (.iconst 0, 1) := by decide +kernel
theorem dX11_dam_8 : decode cX11_dam 8 = .ok (.ldc 97, 2) := by decide +kernel
theorem dX11_dam_10 : decode cX11_dam 10 = .ok (.invokestatic 65, 3) := by decide +kernel
theorem dX11_dam_13 : decode cX11_dam 13 = .ok (.ifCond .ne 5, 3) := by decide +kernel
theorem dX11_dam_16 : decode cX11_dam 16 = .ok (.iconst 0, 1) := by decide +kernel
theorem dX11_dam_17 : decode cX11_dam 17 = .ok (.ireturn, 1) := by decide +kernel
theorem dX11_dam_18 : decode cX11_dam 18 = .ok (.aload_n 3, 1) := by decide +kernel
theorem dX11_dam_19 : decode cX11_dam 19 = .ok (.iconst 1, 1) := by decide +kernel
theorem dX11_dam_20 : decode cX11_dam 20 = .ok (.putfield 98, 3) := by decide +kernel
theorem dX11_dam_23 : decode cX11_dam 23 = .ok (.aload_n 3, 1) := by decide +kernel
theorem dX11_dam_24 : decode cX11_dam 24 = .ok (.iload_n 2, 1) := by decide +kernel
theorem dX11_dam_25 : decode cX11_dam 25 = .ok (.putfield 102, 3) := by decide +kernel
theorem dX11_dam_28 : decode cX11_dam 28 = .ok (.iconst 1, 1) := by decide +kernel
theorem dX11_dam_29 : decode cX11_dam 29 = .ok (.ireturn, 1) := by decide +kernel
def wX11_dam (l0 : Nat) (l1 : Int32) (l2 : Int32) (σ : kx_S) (Q : Int32 → kx_S → Prop) (QX : String → kx_S → Prop) : Prop := xt σ l0 = 13 ∧ wX11_reachAt l0 l1 σ (fun b2 σ1 => wX11_isWithin l2 0 100000 σ1 (fun r5 σ4 => ((¬ r5 = 0 → xt σ4 b2 = 10 ∧ ∀ σ8, σ8 = xsi σ4 165 b2 1 → ∀ σ10, σ10 = xsi σ8 166 b2 l2 → Q 1 σ10) ∧
  (r5 = 0 → Q 0 σ4)))) QX
set_option maxRecDepth 100000 in
set_option maxHeartbeats 4000000 in
theorem hx_X11_dam (l : Launch) (hlt : l.stackTraces = false) (G : kx_G) (l0 : Nat) (l1 : Int32) (l2 : Int32) (σ : kx_S) (Q : Int32 → kx_S → Prop) (QX : String → kx_S → Prop) (h : wX11_dam l0 l1 l2 σ Q QX) : kx_MX l G yX11_dam cX11_dam 4 (some .boolean) (7) (103) [.ref l0, .int l1, .int l2] σ (kx_ri Q) QX := by
  refine kx_enterX (by decide) rfl (Nat.le_of_ble_eq_true rfl) ?_
  intro p e s m below meth c ls F hr hlocks C hout hl
  have hl : lv_has ls 4 [(0, .ref l0), (1, .int l1), (2, .int l2)] := hl
  obtain ⟨H, eH⟩ : ∃ z9, z9 = s.heap := ⟨_, rfl⟩
  obtain ⟨locs, eL⟩ : ∃ z9 : List Loc, z9 = [] := ⟨_, rfl⟩
  rw [← eH, ← eL] at C
  rw [← eH, ← eL]
  obtain ⟨σ0, e0⟩ : ∃ z9, z9 = σ := ⟨_, rfl⟩
  have C : kx_X G (xc σ0) s H locs σ := by rw [e0]; exact C
  suffices hgo : kx_W p l e (7) (103) (xc σ0) s m ([.ref l0, .int l1, .int l2] : List Value).toArray below meth c H locs σ (vx_MQ below (kx_Q G σ0 (kx_ri Q)) (kx_XC G σ0 QX) ([.ref l0, .int l1, .int l2] : List Value).toArray s (kx_N - xc σ0) (600 * (kx_N - xc σ0)) (kx_A G)) (F0 m 0 ls []) by rw [e0] at hgo; exact hgo
  clear e0
  refine lv_aload_n F.1 F.2.1 dX11_dam_0 rfl (lv_at hl 0 rfl) ?_
  refine lv_iload_n F.1 F.2.1 dX11_dam_1 rfl (lv_at hl 1 rfl) ?_
  obtain ⟨ht3, h⟩ := h
  refine xk_X11_reachAt hlt F C l0 l1 ht3 h ux_527 (Nat.le_of_ble_eq_true rfl) (Nat.le_of_ble_eq_true rfl) hl.1 (by simp [Value.category]) dX11_dam_2 (fun E9 ce9 q9 σ1 H locs h C hce hcv hcl => kx_out C h hce hcv hcl hout hlocks) (fun b2 σ1 H locs h C => ?_)
  refine lv_astore_n (lv' := [(3, .ref b2), (0, .ref l0), (1, .int l1), (2, .int l2)]) F.1 F.2.1 dX11_dam_5 rfl hl (by decide) rfl (fun ls hl => ?_)
  refine lv_iload_n F.1 F.2.1 dX11_dam_6 rfl (lv_at hl 3 rfl) ?_
  refine lv_iconst (v := 0) F.1 F.2.1 dX11_dam_7 (by decide) ?_
  refine lv_ldc (v := 100000) F.1 F.2.1 F.2.2.2.1 (F.2.2.2.2 _ ux_528) dX11_dam_8 ?_
  refine xk_X11_isWithin F C l2 0 100000 h ux_501 (Nat.le_of_ble_eq_true rfl) (Nat.le_of_ble_eq_true rfl) hl.1 (by simp [Value.category]) dX11_dam_10 (fun r5 σ4 H locs h C => ?_)
  refine lv_if_ne (tgt := 18) F.1 F.2.1 dX11_dam_13 (by decide) (fun c6 => ?_) (fun c6 => ?_)
  · replace h := h.1 c6
    refine lv_aload_n F.1 F.2.1 dX11_dam_18 rfl (lv_at hl 0 rfl) ?_
    refine lv_iconst (v := 1) F.1 F.2.1 dX11_dam_19 (by decide) ?_
    obtain ⟨ht7, h⟩ := h
    refine xp_X8_dammed (x := 1) F C ht7 ⟨rfl, rfl⟩ ux_529 (fun _ h9 => h9) dX11_dam_20 (fun H locs C => ?_)
    generalize eσ8 : xsi σ4 165 b2 1 = σ8 at C ⊢
    replace h := h σ8 eσ8.symm
    have ht9 : xt σ8 b2 = 10 := by rw [← eσ8]; exact ht7
    refine lv_aload_n F.1 F.2.1 dX11_dam_23 rfl (lv_at hl 0 rfl) ?_
    refine lv_iload_n F.1 F.2.1 dX11_dam_24 rfl (lv_at hl 3 rfl) ?_
    refine xp_X8_room (x := l2) F C ht9 ux_530 (fun _ h9 => h9) dX11_dam_25 (fun H locs C => ?_)
    generalize eσ10 : xsi σ8 166 b2 l2 = σ10 at C ⊢
    replace h := h σ10 eσ10.symm
    have ht11 : xt σ10 b2 = 10 := by rw [← eσ10]; exact ht9
    refine lv_iconst (v := 1) F.1 F.2.1 dX11_dam_28 (by decide) ?_
    refine vx_ret ?_
    exact kx_zret F C hr hlocks rfl h dX11_dam_29
  · replace h := h.2 c6
    refine lv_iconst (v := 0) F.1 F.2.1 dX11_dam_16 (by decide) ?_
    refine vx_ret ?_
    exact kx_zret F C hr hlocks rfl h dX11_dam_17
section
variable {p : Program} {l : Launch} {e : Env} {fr lo c0 : Nat} {s : State} {m : MethodId} {args : Array Value} {below : List Frame} {meth : Method} {c : Code} {H : Heap} {locs : List Loc} {Q : State → Prop}
variable {cc : ByteArray} {pc nL index : Nat} {ls : Array Slot} {rest : List Value} {G : kx_G} {σ : kx_S} {own : String}
theorem xk_X11_dam {P : Int32 → kx_S → Prop} {PX : String → kx_S → Prop} (hlt : l.stackTraces = false) (F : CallFix p m c cc nL s args kt_ own) (C : kx_X G c0 s H locs σ) (l0 : Nat) (l1 : Int32) (l2 : Int32) (ha : xt σ l0 = 13) (h : wX11_dam l0 l1 l2 σ P PX) (hw : Cond.methodLink own index yX11_dam ∈ kt_) (h1 : (7) + 1 ≤ fr) (h2 : 8 + (4 + 11) + (103) ≤ lo) (hsz : ls.size = nL) (hW : (rest.map fun v => v.category).sum ≤ 8) (hdg : decode cc pc = .ok (.invokevirtual index, 3)) (kx : ∀ (E : String) (ce : Cell) (q9 : Addr) (u : kx_S) (H1 : Heap) (locs1 : List Loc), PX E u → kx_X G c0 s H1 locs1 u → H1[q9]? = some ce → ce.vm = .none → s.vm.findClass E = some ce.cls → vx_W p l e (kx_rm fr lo c0) s m args below meth c H1 locs1 (xc u - c0) (600 * (xc u - c0)) Q (F0 m pc ls rest) q9) (kk : ∀ (r : Int32) (u : kx_S) (H1 : Heap) (locs1 : List Loc), P r u → kx_X G c0 s H1 locs1 u → kx_W p l e fr lo c0 s m args below meth c H1 locs1 u Q (F0 m (pc + 3) ls (.int r :: rest))) : kx_W p l e fr lo c0 s m args below meth c H locs σ Q (F0 m pc ls (.int l2 :: .int l1 :: .ref l0 :: rest)) :=
  kx_cVX (n := 2) (As := [.int l1, .int l2]) (Cn := RX11) F C (hx_X11_dam l hlt G l0 l1 l2 σ P PX h) (kt_V hw ux_532 ux_533 ux_117 ux_531) (by decide +kernel) ⟨h1, h2⟩ (kx_recv C (by rw [ha]; decide) (kx_e13 ha) rfl) rfl hsz hW hdg kx (fun v u H1 locs1 hP9 C9 => by obtain ⟨r, hv, hp⟩ := hP9; subst hv; exact kk r u H1 locs1 hp C9)
end
theorem dX11_gate_0 : decode cX11_gate 0 = .ok (.aload_n 0, 1) := by decide +kernel
theorem dX11_gate_1 : decode cX11_gate 1 = .ok (.iload_n 1, 1) := by decide +kernel
theorem dX11_gate_2 : decode cX11_gate 2 = .ok (.invokevirtual 93, 3) := by decide +kernel
theorem dX11_gate_5 : decode cX11_gate 5 = .ok (.astore_n 3, 1) := by decide +kernel
theorem dX11_gate_6 : decode cX11_gate 6 = .ok (.aload_n 3, 1) := by decide +kernel
theorem dX11_gate_7 : decode cX11_gate 7 = .ok (.getfield 98, 3) := by decide +kernel
theorem dX11_gate_10 : decode cX11_gate 10 = .ok (.ifCond .eq 14, 3) := by decide +kernel
theorem dX11_gate_13 : decode cX11_gate 13 = .ok (.iload_n 2, 1) := by decide +kernel
theorem dX11_gate_14 : decode cX11_gate 14 = .ok (.iconst 0, 1) := by decide +kernel
theorem dX11_gate_15 : decode cX11_gate 15 = .ok (.sipush 1000, 3) := by decide +kernel
theorem dX11_gate_18 : decode cX11_gate 18 = .ok (.invokestatic 65, 3) := by decide +kernel
theorem dX11_gate_21 : decode cX11_gate 21 = .ok (.ifCond .ne 5, 3) := by decide +kernel
theorem dX11_gate_24 : decode cX11_gate 24 = .ok (.iconst (-1), 1) := by decide +kernel
theorem dX11_gate_25 : decode cX11_gate 25 = .ok (.ireturn, 1) := by decide +kernel
theorem dX11_gate_26 : decode cX11_gate 26 = .ok (.aload_n 3, 1) := by decide +kernel
theorem dX11_gate_27 : decode cX11_gate 27 = .ok (.getfield 105, 3) := by decide +kernel
theorem dX11_gate_30 : decode cX11_gate 30 = .ok (.istore 4, 2) := by decide +kernel
theorem dX11_gate_32 : decode cX11_gate 32 = .ok (.aload_n 3, 1) := by decide +kernel
theorem dX11_gate_33 : decode cX11_gate 33 = .ok (.iload_n 2, 1) := by decide +kernel
theorem dX11_gate_34 : decode cX11_gate 34 = .ok (.putfield 105, 3) := by decide +kernel
theorem dX11_gate_37 : decode cX11_gate 37 = .ok (.iload 4, 2) := by decide +kernel
theorem dX11_gate_39 : decode cX11_gate 39 = .ok (.ireturn, 1) := by decide +kernel
def wX11_gate (l0 : Nat) (l1 : Int32) (l2 : Int32) (σ : kx_S) (Q : Int32 → kx_S → Prop) (QX : String → kx_S → Prop) : Prop := xt σ l0 = 13 ∧ wX11_reachAt l0 l1 σ (fun b2 σ1 => xt σ1 b2 = 10 ∧ (((xi σ1 165 b2) = 0 → Q (-1) σ1) ∧
  (¬ ((xi σ1 165 b2) = 0) → wX11_isWithin l2 0 1000 σ1 (fun r7 σ6 => ((¬ r7 = 0 → xt σ6 b2 = 10 ∧ ∀ v10, v10 = xi σ6 168 b2 → ∀ σ11, σ11 = xsi σ6 168 b2 l2 → Q v10 σ11) ∧
    (r7 = 0 → Q (-1) σ6)))))) QX
set_option maxRecDepth 100000 in
set_option maxHeartbeats 4000000 in
theorem hx_X11_gate (l : Launch) (hlt : l.stackTraces = false) (G : kx_G) (l0 : Nat) (l1 : Int32) (l2 : Int32) (σ : kx_S) (Q : Int32 → kx_S → Prop) (QX : String → kx_S → Prop) (h : wX11_gate l0 l1 l2 σ Q QX) : kx_MX l G yX11_gate cX11_gate 5 (some .int) (7) (103) [.ref l0, .int l1, .int l2] σ (kx_ri Q) QX := by
  refine kx_enterX (by decide) rfl (Nat.le_of_ble_eq_true rfl) ?_
  intro p e s m below meth c ls F hr hlocks C hout hl
  have hl : lv_has ls 5 [(0, .ref l0), (1, .int l1), (2, .int l2)] := hl
  obtain ⟨H, eH⟩ : ∃ z9, z9 = s.heap := ⟨_, rfl⟩
  obtain ⟨locs, eL⟩ : ∃ z9 : List Loc, z9 = [] := ⟨_, rfl⟩
  rw [← eH, ← eL] at C
  rw [← eH, ← eL]
  obtain ⟨σ0, e0⟩ : ∃ z9, z9 = σ := ⟨_, rfl⟩
  have C : kx_X G (xc σ0) s H locs σ := by rw [e0]; exact C
  suffices hgo : kx_W p l e (7) (103) (xc σ0) s m ([.ref l0, .int l1, .int l2] : List Value).toArray below meth c H locs σ (vx_MQ below (kx_Q G σ0 (kx_ri Q)) (kx_XC G σ0 QX) ([.ref l0, .int l1, .int l2] : List Value).toArray s (kx_N - xc σ0) (600 * (kx_N - xc σ0)) (kx_A G)) (F0 m 0 ls []) by rw [e0] at hgo; exact hgo
  clear e0
  refine lv_aload_n F.1 F.2.1 dX11_gate_0 rfl (lv_at hl 0 rfl) ?_
  refine lv_iload_n F.1 F.2.1 dX11_gate_1 rfl (lv_at hl 1 rfl) ?_
  obtain ⟨ht3, h⟩ := h
  refine xk_X11_reachAt hlt F C l0 l1 ht3 h ux_527 (Nat.le_of_ble_eq_true rfl) (Nat.le_of_ble_eq_true rfl) hl.1 (by simp [Value.category]) dX11_gate_2 (fun E9 ce9 q9 σ1 H locs h C hce hcv hcl => kx_out C h hce hcv hcl hout hlocks) (fun b2 σ1 H locs h C => ?_)
  refine lv_astore_n (lv' := [(3, .ref b2), (0, .ref l0), (1, .int l1), (2, .int l2)]) F.1 F.2.1 dX11_gate_5 rfl hl (by decide) rfl (fun ls hl => ?_)
  refine lv_aload_n F.1 F.2.1 dX11_gate_6 rfl (lv_at hl 0 rfl) ?_
  obtain ⟨ht4, h⟩ := h
  refine xg_X8_dammed F C ht4 ux_529 (fun _ h9 => h9) dX11_gate_7 ?_
  refine lv_if_eq (tgt := 24) F.1 F.2.1 dX11_gate_10 (by decide) (fun c5 => ?_) (fun c5 => ?_)
  · replace h := h.1 c5
    refine lv_iconst (v := (-1)) F.1 F.2.1 dX11_gate_24 (by decide) ?_
    refine vx_ret ?_
    exact kx_iret F C hr hlocks h dX11_gate_25
  · replace h := h.2 c5
    refine lv_iload_n F.1 F.2.1 dX11_gate_13 rfl (lv_at hl 3 rfl) ?_
    refine lv_iconst (v := 0) F.1 F.2.1 dX11_gate_14 (by decide) ?_
    refine lv_sipush (v := 1000) F.1 F.2.1 dX11_gate_15 (by decide) ?_
    refine xk_X11_isWithin F C l2 0 1000 h ux_501 (Nat.le_of_ble_eq_true rfl) (Nat.le_of_ble_eq_true rfl) hl.1 (by simp [Value.category]) dX11_gate_18 (fun r7 σ6 H locs h C => ?_)
    refine lv_if_ne (tgt := 26) F.1 F.2.1 dX11_gate_21 (by decide) (fun c8 => ?_) (fun c8 => ?_)
    · replace h := h.1 c8
      refine lv_aload_n F.1 F.2.1 dX11_gate_26 rfl (lv_at hl 0 rfl) ?_
      obtain ⟨ht9, h⟩ := h
      refine xg_X8_gate F C ht9 ux_534 (fun _ h9 => h9) dX11_gate_27 ?_
      refine lv_topi (fun v10 ev10 => ?_)
      replace h := h v10 ev10
      refine lv_istore (lv' := [(4, .int v10), (3, .ref b2), (0, .ref l0), (1, .int l1), (2, .int l2)]) F.1 F.2.1 dX11_gate_30 hl (by decide) rfl (fun ls hl => ?_)
      refine lv_aload_n F.1 F.2.1 dX11_gate_32 rfl (lv_at hl 1 rfl) ?_
      refine lv_iload_n F.1 F.2.1 dX11_gate_33 rfl (lv_at hl 4 rfl) ?_
      refine xp_X8_gate (x := l2) F C ht9 ux_534 (fun _ h9 => h9) dX11_gate_34 (fun H locs C => ?_)
      generalize eσ11 : xsi σ6 168 b2 l2 = σ11 at C ⊢
      replace h := h σ11 eσ11.symm
      have ht12 : xt σ11 b2 = 10 := by rw [← eσ11]; exact ht9
      refine lv_iload F.1 F.2.1 dX11_gate_37 (lv_at hl 0 rfl) ?_
      refine vx_ret ?_
      exact kx_iret F C hr hlocks h dX11_gate_39
    · replace h := h.2 c8
      refine lv_iconst (v := (-1)) F.1 F.2.1 dX11_gate_24 (by decide) ?_
      refine vx_ret ?_
      exact kx_iret F C hr hlocks h dX11_gate_25
section
variable {p : Program} {l : Launch} {e : Env} {fr lo c0 : Nat} {s : State} {m : MethodId} {args : Array Value} {below : List Frame} {meth : Method} {c : Code} {H : Heap} {locs : List Loc} {Q : State → Prop}
variable {cc : ByteArray} {pc nL index : Nat} {ls : Array Slot} {rest : List Value} {G : kx_G} {σ : kx_S} {own : String}
theorem xk_X11_gate {P : Int32 → kx_S → Prop} {PX : String → kx_S → Prop} (hlt : l.stackTraces = false) (F : CallFix p m c cc nL s args kt_ own) (C : kx_X G c0 s H locs σ) (l0 : Nat) (l1 : Int32) (l2 : Int32) (ha : xt σ l0 = 13) (h : wX11_gate l0 l1 l2 σ P PX) (hw : Cond.methodLink own index yX11_gate ∈ kt_) (h1 : (7) + 1 ≤ fr) (h2 : 8 + (5 + 11) + (103) ≤ lo) (hsz : ls.size = nL) (hW : (rest.map fun v => v.category).sum ≤ 8) (hdg : decode cc pc = .ok (.invokevirtual index, 3)) (kx : ∀ (E : String) (ce : Cell) (q9 : Addr) (u : kx_S) (H1 : Heap) (locs1 : List Loc), PX E u → kx_X G c0 s H1 locs1 u → H1[q9]? = some ce → ce.vm = .none → s.vm.findClass E = some ce.cls → vx_W p l e (kx_rm fr lo c0) s m args below meth c H1 locs1 (xc u - c0) (600 * (xc u - c0)) Q (F0 m pc ls rest) q9) (kk : ∀ (r : Int32) (u : kx_S) (H1 : Heap) (locs1 : List Loc), P r u → kx_X G c0 s H1 locs1 u → kx_W p l e fr lo c0 s m args below meth c H1 locs1 u Q (F0 m (pc + 3) ls (.int r :: rest))) : kx_W p l e fr lo c0 s m args below meth c H locs σ Q (F0 m pc ls (.int l2 :: .int l1 :: .ref l0 :: rest)) :=
  kx_cVX (n := 2) (As := [.int l1, .int l2]) (Cn := RX11) F C (hx_X11_gate l hlt G l0 l1 l2 σ P PX h) (kt_V hw ux_536 ux_537 ux_117 ux_535) (by decide +kernel) ⟨h1, h2⟩ (kx_recv C (by rw [ha]; decide) (kx_e13 ha) rfl) rfl hsz hW hdg kx (fun v u H1 locs1 hP9 C9 => by obtain ⟨r, hv, hp⟩ := hP9; subst hv; exact kk r u H1 locs1 hp C9)
end
theorem dX11_melt_0 : decode cX11_melt 0 = .ok (.aload_n 0, 1) := by decide +kernel
theorem dX11_melt_1 : decode cX11_melt 1 = .ok (.iload_n 1, 1) := by decide +kernel
theorem dX11_melt_2 : decode cX11_melt 2 = .ok (.invokevirtual 93, 3) := by decide +kernel
theorem dX11_melt_5 : decode cX11_melt 5 = .ok (.astore_n 3, 1) := by decide +kernel
theorem dX11_melt_6 : decode cX11_melt 6 = .ok (.iload_n 2, 1) := by decide +kernel
theorem dX11_melt_7 : decode cX11_melt 7 = .ok (.iconst 0, 1) := by decide +kernel
theorem dX11_melt_8 : decode cX11_melt 8 = .ok (.sipush 500, 3) := by decide +kernel
theorem dX11_melt_11 : decode cX11_melt 11 = .ok (.invokestatic 65, 3) := by decide +kernel
theorem dX11_melt_14 : decode cX11_melt 14 = .ok (.ifCond .ne 5, 3) := by decide +kernel
theorem dX11_melt_17 : decode cX11_melt 17 = .ok (.iconst (-1), 1) := by decide +kernel
theorem dX11_melt_18 : decode cX11_melt 18 = .ok (.ireturn, 1) := by decide +kernel
theorem dX11_melt_19 : decode cX11_melt 19 = .ok (.aload_n 3, 1) := by decide +kernel
theorem dX11_melt_20 : decode cX11_melt 20 = .ok (.getfield 108, 3) := by decide +kernel
theorem dX11_melt_23 : decode cX11_melt 23 = .ok (.istore 4, 2) := by decide +kernel
theorem dX11_melt_25 : decode cX11_melt 25 = .ok (.aload_n 3, 1) := by decide +kernel
theorem dX11_melt_26 : decode cX11_melt 26 = .ok (.iload_n 2, 1) := by decide +kernel
theorem dX11_melt_27 : decode cX11_melt 27 = .ok (.putfield 108, 3) := by decide +kernel
theorem dX11_melt_30 : decode cX11_melt 30 = .ok (.iload 4, 2) := by decide +kernel
theorem dX11_melt_32 : decode cX11_melt 32 = .ok (.ireturn, 1) := by decide +kernel
def wX11_melt (l0 : Nat) (l1 : Int32) (l2 : Int32) (σ : kx_S) (Q : Int32 → kx_S → Prop) (QX : String → kx_S → Prop) : Prop := xt σ l0 = 13 ∧ wX11_reachAt l0 l1 σ (fun b2 σ1 => wX11_isWithin l2 0 500 σ1 (fun r5 σ4 => ((¬ r5 = 0 → xt σ4 b2 = 10 ∧ ∀ v8, v8 = xi σ4 164 b2 → ∀ σ9, σ9 = xsi σ4 164 b2 l2 → Q v8 σ9) ∧
  (r5 = 0 → Q (-1) σ4)))) QX
set_option maxRecDepth 100000 in
set_option maxHeartbeats 4000000 in
theorem hx_X11_melt (l : Launch) (hlt : l.stackTraces = false) (G : kx_G) (l0 : Nat) (l1 : Int32) (l2 : Int32) (σ : kx_S) (Q : Int32 → kx_S → Prop) (QX : String → kx_S → Prop) (h : wX11_melt l0 l1 l2 σ Q QX) : kx_MX l G yX11_melt cX11_melt 5 (some .int) (7) (103) [.ref l0, .int l1, .int l2] σ (kx_ri Q) QX := by
  refine kx_enterX (by decide) rfl (Nat.le_of_ble_eq_true rfl) ?_
  intro p e s m below meth c ls F hr hlocks C hout hl
  have hl : lv_has ls 5 [(0, .ref l0), (1, .int l1), (2, .int l2)] := hl
  obtain ⟨H, eH⟩ : ∃ z9, z9 = s.heap := ⟨_, rfl⟩
  obtain ⟨locs, eL⟩ : ∃ z9 : List Loc, z9 = [] := ⟨_, rfl⟩
  rw [← eH, ← eL] at C
  rw [← eH, ← eL]
  obtain ⟨σ0, e0⟩ : ∃ z9, z9 = σ := ⟨_, rfl⟩
  have C : kx_X G (xc σ0) s H locs σ := by rw [e0]; exact C
  suffices hgo : kx_W p l e (7) (103) (xc σ0) s m ([.ref l0, .int l1, .int l2] : List Value).toArray below meth c H locs σ (vx_MQ below (kx_Q G σ0 (kx_ri Q)) (kx_XC G σ0 QX) ([.ref l0, .int l1, .int l2] : List Value).toArray s (kx_N - xc σ0) (600 * (kx_N - xc σ0)) (kx_A G)) (F0 m 0 ls []) by rw [e0] at hgo; exact hgo
  clear e0
  refine lv_aload_n F.1 F.2.1 dX11_melt_0 rfl (lv_at hl 0 rfl) ?_
  refine lv_iload_n F.1 F.2.1 dX11_melt_1 rfl (lv_at hl 1 rfl) ?_
  obtain ⟨ht3, h⟩ := h
  refine xk_X11_reachAt hlt F C l0 l1 ht3 h ux_527 (Nat.le_of_ble_eq_true rfl) (Nat.le_of_ble_eq_true rfl) hl.1 (by simp [Value.category]) dX11_melt_2 (fun E9 ce9 q9 σ1 H locs h C hce hcv hcl => kx_out C h hce hcv hcl hout hlocks) (fun b2 σ1 H locs h C => ?_)
  refine lv_astore_n (lv' := [(3, .ref b2), (0, .ref l0), (1, .int l1), (2, .int l2)]) F.1 F.2.1 dX11_melt_5 rfl hl (by decide) rfl (fun ls hl => ?_)
  refine lv_iload_n F.1 F.2.1 dX11_melt_6 rfl (lv_at hl 3 rfl) ?_
  refine lv_iconst (v := 0) F.1 F.2.1 dX11_melt_7 (by decide) ?_
  refine lv_sipush (v := 500) F.1 F.2.1 dX11_melt_8 (by decide) ?_
  refine xk_X11_isWithin F C l2 0 500 h ux_501 (Nat.le_of_ble_eq_true rfl) (Nat.le_of_ble_eq_true rfl) hl.1 (by simp [Value.category]) dX11_melt_11 (fun r5 σ4 H locs h C => ?_)
  refine lv_if_ne (tgt := 19) F.1 F.2.1 dX11_melt_14 (by decide) (fun c6 => ?_) (fun c6 => ?_)
  · replace h := h.1 c6
    refine lv_aload_n F.1 F.2.1 dX11_melt_19 rfl (lv_at hl 0 rfl) ?_
    obtain ⟨ht7, h⟩ := h
    refine xg_X8_melt F C ht7 ux_538 (fun _ h9 => h9) dX11_melt_20 ?_
    refine lv_topi (fun v8 ev8 => ?_)
    replace h := h v8 ev8
    refine lv_istore (lv' := [(4, .int v8), (3, .ref b2), (0, .ref l0), (1, .int l1), (2, .int l2)]) F.1 F.2.1 dX11_melt_23 hl (by decide) rfl (fun ls hl => ?_)
    refine lv_aload_n F.1 F.2.1 dX11_melt_25 rfl (lv_at hl 1 rfl) ?_
    refine lv_iload_n F.1 F.2.1 dX11_melt_26 rfl (lv_at hl 4 rfl) ?_
    refine xp_X8_melt (x := l2) F C ht7 ux_538 (fun _ h9 => h9) dX11_melt_27 (fun H locs C => ?_)
    generalize eσ9 : xsi σ4 164 b2 l2 = σ9 at C ⊢
    replace h := h σ9 eσ9.symm
    have ht10 : xt σ9 b2 = 10 := by rw [← eσ9]; exact ht7
    refine lv_iload F.1 F.2.1 dX11_melt_30 (lv_at hl 0 rfl) ?_
    refine vx_ret ?_
    exact kx_iret F C hr hlocks h dX11_melt_32
  · replace h := h.2 c6
    refine lv_iconst (v := (-1)) F.1 F.2.1 dX11_melt_17 (by decide) ?_
    refine vx_ret ?_
    exact kx_iret F C hr hlocks h dX11_melt_18
section
variable {p : Program} {l : Launch} {e : Env} {fr lo c0 : Nat} {s : State} {m : MethodId} {args : Array Value} {below : List Frame} {meth : Method} {c : Code} {H : Heap} {locs : List Loc} {Q : State → Prop}
variable {cc : ByteArray} {pc nL index : Nat} {ls : Array Slot} {rest : List Value} {G : kx_G} {σ : kx_S} {own : String}
theorem xk_X11_melt {P : Int32 → kx_S → Prop} {PX : String → kx_S → Prop} (hlt : l.stackTraces = false) (F : CallFix p m c cc nL s args kt_ own) (C : kx_X G c0 s H locs σ) (l0 : Nat) (l1 : Int32) (l2 : Int32) (ha : xt σ l0 = 13) (h : wX11_melt l0 l1 l2 σ P PX) (hw : Cond.methodLink own index yX11_melt ∈ kt_) (h1 : (7) + 1 ≤ fr) (h2 : 8 + (5 + 11) + (103) ≤ lo) (hsz : ls.size = nL) (hW : (rest.map fun v => v.category).sum ≤ 8) (hdg : decode cc pc = .ok (.invokevirtual index, 3)) (kx : ∀ (E : String) (ce : Cell) (q9 : Addr) (u : kx_S) (H1 : Heap) (locs1 : List Loc), PX E u → kx_X G c0 s H1 locs1 u → H1[q9]? = some ce → ce.vm = .none → s.vm.findClass E = some ce.cls → vx_W p l e (kx_rm fr lo c0) s m args below meth c H1 locs1 (xc u - c0) (600 * (xc u - c0)) Q (F0 m pc ls rest) q9) (kk : ∀ (r : Int32) (u : kx_S) (H1 : Heap) (locs1 : List Loc), P r u → kx_X G c0 s H1 locs1 u → kx_W p l e fr lo c0 s m args below meth c H1 locs1 u Q (F0 m (pc + 3) ls (.int r :: rest))) : kx_W p l e fr lo c0 s m args below meth c H locs σ Q (F0 m pc ls (.int l2 :: .int l1 :: .ref l0 :: rest)) :=
  kx_cVX (n := 2) (As := [.int l1, .int l2]) (Cn := RX11) F C (hx_X11_melt l hlt G l0 l1 l2 σ P PX h) (kt_V hw ux_540 ux_541 ux_117 ux_539) (by decide +kernel) ⟨h1, h2⟩ (kx_recv C (by rw [ha]; decide) (kx_e13 ha) rfl) rfl hsz hW hdg kx (fun v u H1 locs1 hP9 C9 => by obtain ⟨r, hv, hp⟩ := hP9; subst hv; exact kk r u H1 locs1 hp C9)
end
theorem dX11_boom_0 : decode cX11_boom 0 = .ok (.aload_n 0, 1) := by decide +kernel
theorem dX11_boom_1 : decode cX11_boom 1 = .ok (.iload_n 1, 1) := by decide +kernel
theorem dX11_boom_2 : decode cX11_boom 2 = .ok (.invokevirtual 93, 3) := by decide +kernel
theorem dX11_boom_5 : decode cX11_boom 5 = .ok (.astore 4, 2) := by decide +kernel
theorem dX11_boom_7 : decode cX11_boom 7 = .ok (.iload_n 3, 1) := by decide +kernel
theorem dX11_boom_8 : decode cX11_boom 8 = .ok (.iconst 1, 1) := by decide +kernel
theorem dX11_boom_9 : decode cX11_boom 9 = .ok (.bipush 100, 2) := by decide +kernel
theorem dX11_boom_11 : decode cX11_boom 11 = .ok (.invokestatic 65, 3) := by decide +kernel
theorem dX11_boom_14 : decode cX11_boom 14 = .ok (.ifCond .ne 5, 3) := by decide +kernel
theorem dX11_boom_17 : decode cX11_boom 17 = .ok (.iconst 0, 1) := by decide +kernel
theorem dX11_boom_18 : decode cX11_boom 18 = .ok (.ireturn, 1) := by decide +kernel
theorem dX11_boom_19 : decode cX11_boom 19 = .ok (.aload 4, 2) := by decide +kernel
theorem dX11_boom_21 : decode cX11_boom 21 = .ok (.getfield 111, 3) := by decide +kernel
theorem dX11_boom_24 : decode cX11_boom 24 = .ok (.ifnonnull 15, 3) := by decide +kernel
theorem dX11_boom_27 : decode cX11_boom 27 = .ok (.aload 4, 2) := by decide +kernel
theorem dX11_boom_29 : decode cX11_boom 29 = .ok (.new 115, 3) := by decide +kernel
theorem dX11_boom_32 : decode cX11_boom 32 = .ok (.dup, 1) := by decide +kernel
theorem dX11_boom_33 : decode cX11_boom 33 = .ok (.invokespecial 117, 3) := by decide +kernel
theorem dX11_boom_36 : decode cX11_boom 36 = .ok (.putfield 111, 3) := by decide +kernel
theorem dX11_boom_39 : decode cX11_boom 39 = .ok (.aload 4, 2) := by decide +kernel
theorem dX11_boom_41 : decode cX11_boom 41 = .ok (.getfield 111, 3) := by decide +kernel
theorem dX11_boom_44 : decode cX11_boom 44 = .ok (.iload_n 2, 1) := by decide +kernel
theorem dX11_boom_45 : decode cX11_boom 45 = .ok (.ldc 118, 2) := by decide +kernel
theorem dX11_boom_47 : decode cX11_boom 47 = .ok (.iand, 1) := by decide +kernel
theorem dX11_boom_48 : decode cX11_boom 48 = .ok (.putfield 119, 3) := by decide +kernel
theorem dX11_boom_51 : decode cX11_boom 51 = .ok (.aload 4, 2) := by decide +kernel
theorem dX11_boom_53 : decode cX11_boom 53 = .ok (.getfield 111, 3) := by decide +kernel
theorem dX11_boom_56 : decode cX11_boom 56 = .ok (.iload_n 3, 1) := by decide +kernel
theorem dX11_boom_57 : decode cX11_boom 57 = .ok (.putfield 122, 3) := by decide +kernel
theorem dX11_boom_60 : decode cX11_boom 60 = .ok (.iconst 1, 1) := by decide +kernel
theorem dX11_boom_61 : decode cX11_boom 61 = .ok (.ireturn, 1) := by decide +kernel
def wX11_boom_39 (Q : Int32 → kx_S → Prop) (QX : String → kx_S → Prop) (l2 : Int32) (l3 : Int32) (l4 : Nat) (σ : kx_S) : Prop := xt σ l4 = 10 ∧ ∃ a2, xr σ 172 l4 = some a2 ∧ xt σ a2 = 2 ∧ ∀ σ5, σ5 = xsi σ 34 a2 (l2 &&& 65535) → ∃ a8, xr σ5 172 l4 = some a8 ∧ xt σ5 a8 = 2 ∧ ∀ σ11, σ11 = xsi σ5 35 a8 l3 → Q 1 σ11
def wX11_boom (l0 : Nat) (l1 : Int32) (l2 : Int32) (l3 : Int32) (σ : kx_S) (Q : Int32 → kx_S → Prop) (QX : String → kx_S → Prop) : Prop := xt σ l0 = 13 ∧ wX11_reachAt l0 l1 σ (fun b16 σ15 => wX11_isWithin l3 1 100 σ15 (fun r19 σ18 => ((¬ r19 = 0 → xt σ18 b16 = 10 ∧ ((∀ a23, xr σ18 172 b16 = some a23 → wX11_boom_39 Q QX l2 l3 b16 σ18) ∧
    (xr σ18 172 b16 = none → xc σ18 < kx_N ∧ ∀ p25, xt σ18 p25 = 0 → p25 ≠ xz σ18 → ∀ σ28, σ28 = xnew σ18 p25 2 → wX0_init p25 σ28 (fun σ30 => xt σ30 b16 = 10 ∧ ∀ σ32, σ32 = xsr σ30 172 b16 (some p25) → wX11_boom_39 Q QX l2 l3 b16 σ32)))) ∧
  (r19 = 0 → Q 0 σ18)))) QX
set_option maxRecDepth 100000 in
set_option maxHeartbeats 4000000 in
theorem tX11_boom_39 (l : Launch) (hlt : l.stackTraces = false) (G : kx_G) (σ0 : kx_S) {p : Program} {e : Env} {s : State} {m : MethodId} {args : Array Value} {below : List Frame} {meth : Method} {c : Code} (F : CallFix p m c cX11_boom 5 s args kt_ RX11) (hr : meth.sig.returnType = (some .boolean)) (hlocks : meth.locks = false) (hout : ∀ x ∈ c.exceptionTable.toList, False) (Q : Int32 → kx_S → Prop) (QX : String → kx_S → Prop) : ∀ (l2 : Int32) (l3 : Int32) (l4 : Nat) (σ : kx_S) (H : Heap) (locs : List Loc) (ls : Array Slot), wX11_boom_39 Q QX l2 l3 l4 σ → kx_X G (xc σ0) s H locs σ → lv_has ls 5 [(2, .int l2), (3, .int l3), (4, .ref l4)] → kx_W p l e (7) (103) (xc σ0) s m args below meth c H locs σ (vx_MQ below (kx_Q G σ0 (kx_ri Q)) (kx_XC G σ0 QX) args s (kx_N - xc σ0) (600 * (kx_N - xc σ0)) (kx_A G)) (F0 m 39 ls []) := by
  intro l2 l3 l4 σ H locs ls h C hl
  refine lv_aload F.1 F.2.1 dX11_boom_39 (lv_at hl 2 rfl) ?_
  obtain ⟨ht1, h⟩ := h
  refine xg_X8_boom F C ht1 ux_542 (fun _ h9 => h9) dX11_boom_41 ?_
  obtain ⟨a2, ea3, h⟩ := h
  refine xq_nn ea3 ?_
  refine lv_iload_n F.1 F.2.1 dX11_boom_44 rfl (lv_at hl 0 rfl) ?_
  refine lv_ldc (v := 65535) F.1 F.2.1 F.2.2.2.1 (F.2.2.2.2 _ ux_543) dX11_boom_45 ?_
  refine lv_iand (x := l2) (y := 65535) F.1 F.2.1 dX11_boom_47 ?_
  obtain ⟨ht4, h⟩ := h
  refine xp_X0_marks (x := l2 &&& 65535) F C ht4 ux_544 (fun _ h9 => h9) dX11_boom_48 (fun H locs C => ?_)
  generalize eσ5 : xsi σ 34 a2 (l2 &&& 65535) = σ5 at C ⊢
  replace h := h σ5 eσ5.symm
  have ht6 : xt σ5 l4 = 10 := by rw [← eσ5]; exact ht1
  have ht7 : xt σ5 a2 = 2 := by rw [← eσ5]; exact ht4
  refine lv_aload F.1 F.2.1 dX11_boom_51 (lv_at hl 2 rfl) ?_
  refine xg_X8_boom F C ht6 ux_542 (fun _ h9 => h9) dX11_boom_53 ?_
  obtain ⟨a8, ea9, h⟩ := h
  refine xq_nn ea9 ?_
  refine lv_iload_n F.1 F.2.1 dX11_boom_56 rfl (lv_at hl 1 rfl) ?_
  obtain ⟨ht10, h⟩ := h
  refine xp_X0_room (x := l3) F C ht10 ux_545 (fun _ h9 => h9) dX11_boom_57 (fun H locs C => ?_)
  generalize eσ11 : xsi σ5 35 a8 l3 = σ11 at C ⊢
  replace h := h σ11 eσ11.symm
  have ht12 : xt σ11 l4 = 10 := by rw [← eσ11]; exact ht6
  have ht13 : xt σ11 a2 = 2 := by rw [← eσ11]; exact ht7
  have ht14 : xt σ11 a8 = 2 := by rw [← eσ11]; exact ht10
  refine lv_iconst (v := 1) F.1 F.2.1 dX11_boom_60 (by decide) ?_
  refine vx_ret ?_
  exact kx_zret F C hr hlocks rfl h dX11_boom_61
set_option maxRecDepth 100000 in
set_option maxHeartbeats 4000000 in
theorem hx_X11_boom (l : Launch) (hlt : l.stackTraces = false) (G : kx_G) (l0 : Nat) (l1 : Int32) (l2 : Int32) (l3 : Int32) (σ : kx_S) (Q : Int32 → kx_S → Prop) (QX : String → kx_S → Prop) (h : wX11_boom l0 l1 l2 l3 σ Q QX) : kx_MX l G yX11_boom cX11_boom 5 (some .boolean) (7) (103) [.ref l0, .int l1, .int l2, .int l3] σ (kx_ri Q) QX := by
  refine kx_enterX (by decide) rfl (Nat.le_of_ble_eq_true rfl) ?_
  intro p e s m below meth c ls F hr hlocks C hout hl
  have hl : lv_has ls 5 [(0, .ref l0), (1, .int l1), (2, .int l2), (3, .int l3)] := hl
  obtain ⟨H, eH⟩ : ∃ z9, z9 = s.heap := ⟨_, rfl⟩
  obtain ⟨locs, eL⟩ : ∃ z9 : List Loc, z9 = [] := ⟨_, rfl⟩
  rw [← eH, ← eL] at C
  rw [← eH, ← eL]
  obtain ⟨σ0, e0⟩ : ∃ z9, z9 = σ := ⟨_, rfl⟩
  have C : kx_X G (xc σ0) s H locs σ := by rw [e0]; exact C
  suffices hgo : kx_W p l e (7) (103) (xc σ0) s m ([.ref l0, .int l1, .int l2, .int l3] : List Value).toArray below meth c H locs σ (vx_MQ below (kx_Q G σ0 (kx_ri Q)) (kx_XC G σ0 QX) ([.ref l0, .int l1, .int l2, .int l3] : List Value).toArray s (kx_N - xc σ0) (600 * (kx_N - xc σ0)) (kx_A G)) (F0 m 0 ls []) by rw [e0] at hgo; exact hgo
  clear e0
  refine lv_aload_n F.1 F.2.1 dX11_boom_0 rfl (lv_at hl 0 rfl) ?_
  refine lv_iload_n F.1 F.2.1 dX11_boom_1 rfl (lv_at hl 1 rfl) ?_
  obtain ⟨ht17, h⟩ := h
  refine xk_X11_reachAt hlt F C l0 l1 ht17 h ux_527 (Nat.le_of_ble_eq_true rfl) (Nat.le_of_ble_eq_true rfl) hl.1 (by simp [Value.category]) dX11_boom_2 (fun E9 ce9 q9 σ15 H locs h C hce hcv hcl => kx_out C h hce hcv hcl hout hlocks) (fun b16 σ15 H locs h C => ?_)
  refine lv_astore (lv' := [(4, .ref b16), (0, .ref l0), (1, .int l1), (2, .int l2), (3, .int l3)]) F.1 F.2.1 dX11_boom_5 hl (by decide) rfl (fun ls hl => ?_)
  refine lv_iload_n F.1 F.2.1 dX11_boom_7 rfl (lv_at hl 4 rfl) ?_
  refine lv_iconst (v := 1) F.1 F.2.1 dX11_boom_8 (by decide) ?_
  refine lv_bipush (v := 100) F.1 F.2.1 dX11_boom_9 (by decide) ?_
  refine xk_X11_isWithin F C l3 1 100 h ux_501 (Nat.le_of_ble_eq_true rfl) (Nat.le_of_ble_eq_true rfl) hl.1 (by simp [Value.category]) dX11_boom_11 (fun r19 σ18 H locs h C => ?_)
  refine lv_if_ne (tgt := 19) F.1 F.2.1 dX11_boom_14 (by decide) (fun c20 => ?_) (fun c20 => ?_)
  · replace h := h.1 c20
    refine lv_aload F.1 F.2.1 dX11_boom_19 (lv_at hl 0 rfl) ?_
    obtain ⟨ht21, h⟩ := h
    refine xg_X8_boom F C ht21 ux_542 (fun _ h9 => h9) dX11_boom_21 ?_
    refine xq_ifnonnull (tgt := 39) F.1 F.2.1 dX11_boom_24 (by decide) (fun a23 c22 => ?_) (fun c22 => ?_)
    · replace h := h.1 a23 c22
      exact tX11_boom_39 l hlt G σ0 F hr hlocks hout Q QX l2 l3 b16 σ18 H locs ls h C (lv_sub hl [3, 4, 0] rfl)
    · replace h := h.2 c22
      refine lv_aload F.1 F.2.1 dX11_boom_27 (lv_at hl 0 rfl) ?_
      obtain ⟨hn24, h⟩ := h
      refine xw_X0 F C hn24 ux_546 dX11_boom_29 (fun p25 H z26 z27 C => ?_)
      replace h := h p25 z26 (fun h9 => z27 (h9.trans (show xz σ18 = _ from C.2.1.1)))
      generalize eσ28 : xnew σ18 p25 2 = σ28 at C ⊢
      replace h := h σ28 eσ28.symm
      have ht29 : xt σ28 p25 = 2 := by rw [← eσ28]; exact va_up_self _ _ _
      refine lv_dup F.1 F.2.1 dX11_boom_32 rfl ?_
      refine xk_X0_init F C p25 h ux_547 (Nat.le_of_ble_eq_true rfl) (Nat.le_of_ble_eq_true rfl) hl.1 (by simp [Value.category]) dX11_boom_33 (fun σ30 H locs h C => ?_)
      obtain ⟨ht31, h⟩ := h
      refine xp_X8_boom (x := some p25) F C ht31 ux_542 (fun _ h9 => h9) dX11_boom_36 (fun H locs C => ?_)
      generalize eσ32 : xsr σ30 172 b16 (some p25) = σ32 at C ⊢
      replace h := h σ32 eσ32.symm
      have ht33 : xt σ32 b16 = 10 := by rw [← eσ32]; exact ht31
      exact tX11_boom_39 l hlt G σ0 F hr hlocks hout Q QX l2 l3 b16 σ32 H locs ls h C (lv_sub hl [3, 4, 0] rfl)
  · replace h := h.2 c20
    refine lv_iconst (v := 0) F.1 F.2.1 dX11_boom_17 (by decide) ?_
    refine vx_ret ?_
    exact kx_zret F C hr hlocks rfl h dX11_boom_18
section
variable {p : Program} {l : Launch} {e : Env} {fr lo c0 : Nat} {s : State} {m : MethodId} {args : Array Value} {below : List Frame} {meth : Method} {c : Code} {H : Heap} {locs : List Loc} {Q : State → Prop}
variable {cc : ByteArray} {pc nL index : Nat} {ls : Array Slot} {rest : List Value} {G : kx_G} {σ : kx_S} {own : String}
theorem xk_X11_boom {P : Int32 → kx_S → Prop} {PX : String → kx_S → Prop} (hlt : l.stackTraces = false) (F : CallFix p m c cc nL s args kt_ own) (C : kx_X G c0 s H locs σ) (l0 : Nat) (l1 : Int32) (l2 : Int32) (l3 : Int32) (ha : xt σ l0 = 13) (h : wX11_boom l0 l1 l2 l3 σ P PX) (hw : Cond.methodLink own index yX11_boom ∈ kt_) (h1 : (7) + 1 ≤ fr) (h2 : 8 + (5 + 11) + (103) ≤ lo) (hsz : ls.size = nL) (hW : (rest.map fun v => v.category).sum ≤ 8) (hdg : decode cc pc = .ok (.invokevirtual index, 3)) (kx : ∀ (E : String) (ce : Cell) (q9 : Addr) (u : kx_S) (H1 : Heap) (locs1 : List Loc), PX E u → kx_X G c0 s H1 locs1 u → H1[q9]? = some ce → ce.vm = .none → s.vm.findClass E = some ce.cls → vx_W p l e (kx_rm fr lo c0) s m args below meth c H1 locs1 (xc u - c0) (600 * (xc u - c0)) Q (F0 m pc ls rest) q9) (kk : ∀ (r : Int32) (u : kx_S) (H1 : Heap) (locs1 : List Loc), P r u → kx_X G c0 s H1 locs1 u → kx_W p l e fr lo c0 s m args below meth c H1 locs1 u Q (F0 m (pc + 3) ls (.int r :: rest))) : kx_W p l e fr lo c0 s m args below meth c H locs σ Q (F0 m pc ls (.int l3 :: .int l2 :: .int l1 :: .ref l0 :: rest)) :=
  kx_cVX (n := 3) (As := [.int l1, .int l2, .int l3]) (Cn := RX11) F C (hx_X11_boom l hlt G l0 l1 l2 l3 σ P PX h) (kt_V hw ux_549 ux_550 ux_117 ux_548) (by decide +kernel) ⟨h1, h2⟩ (kx_recv C (by rw [ha]; decide) (kx_e13 ha) rfl) rfl hsz hW hdg kx (fun v u H1 locs1 hP9 C9 => by obtain ⟨r, hv, hp⟩ := hP9; subst hv; exact kk r u H1 locs1 hp C9)
end
theorem dX11_watch_0 : decode cX11_watch 0 = .ok (.aload_n 0, 1) := by decide +kernel
theorem dX11_watch_1 : decode cX11_watch 1 = .ok (.iload_n 1, 1) := by decide +kernel
theorem dX11_watch_2 : decode cX11_watch 2 = .ok (.invokevirtual 93, 3) := by decide +kernel
theorem dX11_watch_5 : decode cX11_watch 5 = .ok (.astore_n 3, 1) := by decide +kernel
theorem dX11_watch_6 : decode cX11_watch 6 = .ok (.aload_n 3, 1) := by decide +kernel
theorem dX11_watch_7 : decode cX11_watch 7 = .ok (.getfield 123, 3) := by decide +kernel
theorem dX11_watch_10 : decode cX11_watch 10 = .ok (.istore 4, 2) := by decide +kernel
theorem dX11_watch_12 : decode cX11_watch 12 = .ok (.aload_n 3, 1) := by decide +kernel
theorem dX11_watch_13 : decode cX11_watch 13 = .ok (.iload_n 2, 1) := by decide +kernel
theorem dX11_watch_14 : decode cX11_watch 14 = .ok (.putfield 123, 3) := by decide +kernel
theorem dX11_watch_17 : decode cX11_watch 17 = .ok (.iload 4, 2) := by decide +kernel
theorem dX11_watch_19 : decode cX11_watch 19 = .ok (.ireturn, 1) := by decide +kernel
def wX11_watch (l0 : Nat) (l1 : Int32) (l2 : Int32) (σ : kx_S) (Q : Int32 → kx_S → Prop) (QX : String → kx_S → Prop) : Prop := xt σ l0 = 13 ∧ wX11_reachAt l0 l1 σ (fun b2 σ1 => xt σ1 b2 = 10 ∧ ∀ v5, v5 = xi σ1 171 b2 → (narrow .boolean (.int l2) = .int l2 ∧ fits .boolean (.int l2) = true) ∧ ∀ σ7, σ7 = xsi σ1 171 b2 l2 → narrow .boolean (.int v5) = .int v5 ∧ Q v5 σ7) QX
set_option maxRecDepth 100000 in
set_option maxHeartbeats 4000000 in
theorem hx_X11_watch (l : Launch) (hlt : l.stackTraces = false) (G : kx_G) (l0 : Nat) (l1 : Int32) (l2 : Int32) (σ : kx_S) (Q : Int32 → kx_S → Prop) (QX : String → kx_S → Prop) (h : wX11_watch l0 l1 l2 σ Q QX) : kx_MX l G yX11_watch cX11_watch 5 (some .boolean) (7) (103) [.ref l0, .int l1, .int l2] σ (kx_ri Q) QX := by
  refine kx_enterX (by decide) rfl (Nat.le_of_ble_eq_true rfl) ?_
  intro p e s m below meth c ls F hr hlocks C hout hl
  have hl : lv_has ls 5 [(0, .ref l0), (1, .int l1), (2, .int l2)] := hl
  obtain ⟨H, eH⟩ : ∃ z9, z9 = s.heap := ⟨_, rfl⟩
  obtain ⟨locs, eL⟩ : ∃ z9 : List Loc, z9 = [] := ⟨_, rfl⟩
  rw [← eH, ← eL] at C
  rw [← eH, ← eL]
  obtain ⟨σ0, e0⟩ : ∃ z9, z9 = σ := ⟨_, rfl⟩
  have C : kx_X G (xc σ0) s H locs σ := by rw [e0]; exact C
  suffices hgo : kx_W p l e (7) (103) (xc σ0) s m ([.ref l0, .int l1, .int l2] : List Value).toArray below meth c H locs σ (vx_MQ below (kx_Q G σ0 (kx_ri Q)) (kx_XC G σ0 QX) ([.ref l0, .int l1, .int l2] : List Value).toArray s (kx_N - xc σ0) (600 * (kx_N - xc σ0)) (kx_A G)) (F0 m 0 ls []) by rw [e0] at hgo; exact hgo
  clear e0
  refine lv_aload_n F.1 F.2.1 dX11_watch_0 rfl (lv_at hl 0 rfl) ?_
  refine lv_iload_n F.1 F.2.1 dX11_watch_1 rfl (lv_at hl 1 rfl) ?_
  obtain ⟨ht3, h⟩ := h
  refine xk_X11_reachAt hlt F C l0 l1 ht3 h ux_527 (Nat.le_of_ble_eq_true rfl) (Nat.le_of_ble_eq_true rfl) hl.1 (by simp [Value.category]) dX11_watch_2 (fun E9 ce9 q9 σ1 H locs h C hce hcv hcl => kx_out C h hce hcv hcl hout hlocks) (fun b2 σ1 H locs h C => ?_)
  refine lv_astore_n (lv' := [(3, .ref b2), (0, .ref l0), (1, .int l1), (2, .int l2)]) F.1 F.2.1 dX11_watch_5 rfl hl (by decide) rfl (fun ls hl => ?_)
  refine lv_aload_n F.1 F.2.1 dX11_watch_6 rfl (lv_at hl 0 rfl) ?_
  obtain ⟨ht4, h⟩ := h
  refine xg_X8_watched F C ht4 ux_551 (fun _ h9 => h9) dX11_watch_7 ?_
  refine lv_topi (fun v5 ev5 => ?_)
  replace h := h v5 ev5
  refine lv_istore (lv' := [(4, .int v5), (3, .ref b2), (0, .ref l0), (1, .int l1), (2, .int l2)]) F.1 F.2.1 dX11_watch_10 hl (by decide) rfl (fun ls hl => ?_)
  refine lv_aload_n F.1 F.2.1 dX11_watch_12 rfl (lv_at hl 1 rfl) ?_
  refine lv_iload_n F.1 F.2.1 dX11_watch_13 rfl (lv_at hl 4 rfl) ?_
  obtain ⟨hb6, h⟩ := h
  refine xp_X8_watched (x := l2) F C ht4 hb6 ux_551 (fun _ h9 => h9) dX11_watch_14 (fun H locs C => ?_)
  generalize eσ7 : xsi σ1 171 b2 l2 = σ7 at C ⊢
  replace h := h σ7 eσ7.symm
  have ht8 : xt σ7 b2 = 10 := by rw [← eσ7]; exact ht4
  refine lv_iload F.1 F.2.1 dX11_watch_17 (lv_at hl 0 rfl) ?_
  refine vx_ret ?_
  exact kx_zret F C hr hlocks h.1 h.2 dX11_watch_19
section
variable {p : Program} {l : Launch} {e : Env} {fr lo c0 : Nat} {s : State} {m : MethodId} {args : Array Value} {below : List Frame} {meth : Method} {c : Code} {H : Heap} {locs : List Loc} {Q : State → Prop}
variable {cc : ByteArray} {pc nL index : Nat} {ls : Array Slot} {rest : List Value} {G : kx_G} {σ : kx_S} {own : String}
theorem xk_X11_watch {P : Int32 → kx_S → Prop} {PX : String → kx_S → Prop} (hlt : l.stackTraces = false) (F : CallFix p m c cc nL s args kt_ own) (C : kx_X G c0 s H locs σ) (l0 : Nat) (l1 : Int32) (l2 : Int32) (ha : xt σ l0 = 13) (h : wX11_watch l0 l1 l2 σ P PX) (hw : Cond.methodLink own index yX11_watch ∈ kt_) (h1 : (7) + 1 ≤ fr) (h2 : 8 + (5 + 11) + (103) ≤ lo) (hsz : ls.size = nL) (hW : (rest.map fun v => v.category).sum ≤ 8) (hdg : decode cc pc = .ok (.invokevirtual index, 3)) (kx : ∀ (E : String) (ce : Cell) (q9 : Addr) (u : kx_S) (H1 : Heap) (locs1 : List Loc), PX E u → kx_X G c0 s H1 locs1 u → H1[q9]? = some ce → ce.vm = .none → s.vm.findClass E = some ce.cls → vx_W p l e (kx_rm fr lo c0) s m args below meth c H1 locs1 (xc u - c0) (600 * (xc u - c0)) Q (F0 m pc ls rest) q9) (kk : ∀ (r : Int32) (u : kx_S) (H1 : Heap) (locs1 : List Loc), P r u → kx_X G c0 s H1 locs1 u → kx_W p l e fr lo c0 s m args below meth c H1 locs1 u Q (F0 m (pc + 3) ls (.int r :: rest))) : kx_W p l e fr lo c0 s m args below meth c H locs σ Q (F0 m pc ls (.int l2 :: .int l1 :: .ref l0 :: rest)) :=
  kx_cVX (n := 2) (As := [.int l1, .int l2]) (Cn := RX11) F C (hx_X11_watch l hlt G l0 l1 l2 σ P PX h) (kt_V hw ux_553 ux_554 ux_117 ux_552) (by decide +kernel) ⟨h1, h2⟩ (kx_recv C (by rw [ha]; decide) (kx_e13 ha) rfl) rfl hsz hW hdg kx (fun v u H1 locs1 hP9 C9 => by obtain ⟨r, hv, hp⟩ := hP9; subst hv; exact kk r u H1 locs1 hp C9)
end
theorem dX11_newCrew_0 : decode cX11_newCrew 0 = .ok (.aload_n 0, 1) := by decide +kernel
theorem dX11_newCrew_1 : decode cX11_newCrew 1 = .ok (.getfield 22, 3) := by decide +kernel
theorem dX11_newCrew_4 : decode cX11_newCrew 4 = .ok (.invokeinterface 59 1, 5) := by decide +kernel
theorem dX11_newCrew_9 : decode cX11_newCrew 9 = .ok (.bipush 6, 2) := by decide +kernel
theorem dX11_newCrew_11 : decode cX11_newCrew 11 = .ok (.if_icmp .lt 5, 3) := by decide +kernel
theorem dX11_newCrew_14 : decode cX11_newCrew 14 = .ok (.iconst (-1), 1) := by decide +kernel
theorem dX11_newCrew_15 : decode cX11_newCrew 15 = .ok (.ireturn, 1) := by decide +kernel
theorem dX11_newCrew_16 : decode cX11_newCrew 16 = .ok (.aload_n 0, 1) := by decide +kernel
theorem dX11_newCrew_17 : decode cX11_newCrew 17 = .ok (.getfield 22, 3) := by decide +kernel
theorem dX11_newCrew_20 : decode cX11_newCrew 20 = .ok (.new 130, 3) := by decide +kernel
theorem dX11_newCrew_23 : decode cX11_newCrew 23 = .ok (.dup, 1) := by decide +kernel
theorem dX11_newCrew_24 : decode cX11_newCrew 24 = .ok (.aload_n 1, 1) := by decide +kernel
theorem dX11_newCrew_25 : decode cX11_newCrew 25 = .ok (.aload_n 0, 1) := by decide +kernel
theorem dX11_newCrew_26 : decode cX11_newCrew 26 = .ok (.getfield 136, 3) := by decide +kernel
theorem dX11_newCrew_29 : decode cX11_newCrew 29 = .ok (.invokespecial 143, 3) := by decide +kernel
theorem dX11_newCrew_32 : decode cX11_newCrew 32 = .ok (.invokeinterface 86 2, 5) := by decide +kernel
theorem dX11_newCrew_37 : decode cX11_newCrew 37 = .ok (.pop, 1) := by decide +kernel
theorem dX11_newCrew_38 : decode cX11_newCrew 38 = .ok (.aload_n 0, 1) := by decide +kernel
theorem dX11_newCrew_39 : decode cX11_newCrew 39 = .ok (.getfield 22, 3) := by decide +kernel
theorem dX11_newCrew_42 : decode cX11_newCrew 42 = .ok (.invokeinterface 59 1, 5) := by decide +kernel
theorem dX11_newCrew_47 : decode cX11_newCrew 47 = .ok (.iconst 1, 1) := by decide +kernel
theorem dX11_newCrew_48 : decode cX11_newCrew 48 = .ok (.isub, 1) := by decide +kernel
theorem dX11_newCrew_49 : decode cX11_newCrew 49 = .ok (.ireturn, 1) := by decide +kernel
def wX11_newCrew (l0 : Nat) (l1 : Nat) (σ : kx_S) (Q : Int32 → kx_S → Prop) : Prop := xt σ l0 = 13 ∧ ∃ a2, xr σ 211 l0 = some a2 ∧ xt σ a2 = 1 ∧ wJx4a65c_size_8abf5 a2 σ (fun r5 σ4 => ((r5 < 6 → xt σ4 l0 = 13 ∧ ∃ a9, xr σ4 211 l0 = some a9 ∧ xc σ4 < kx_N ∧ ∀ p12, xt σ4 p12 = 0 → p12 ≠ xz σ4 → ∀ σ15, σ15 = xnew σ4 p12 4 → xt σ15 l0 = 13 ∧ wX2_init p12 l1 (xi σ15 217 l0) σ15 (fun σ18 => xt σ18 a9 = 1 ∧ wJx4a65c_add_9ea2d a9 p12 σ18 (fun r20 σ19 => xt σ19 l0 = 13 ∧ ∃ a23, xr σ19 211 l0 = some a23 ∧ xt σ19 a23 = 1 ∧ wJx4a65c_size_8abf5 a23 σ19 (fun r26 σ25 => Q (r26 - 1) σ25)))) ∧
  (¬ (r5 < 6) → Q (-1) σ4)))
set_option maxRecDepth 100000 in
set_option maxHeartbeats 4000000 in
theorem hx_X11_newCrew (l : Launch) (G : kx_G) (l0 : Nat) (l1 : Nat) (σ : kx_S) (Q : Int32 → kx_S → Prop) (h : wX11_newCrew l0 l1 σ Q) : kx_M l G yX11_newCrew cX11_newCrew 2 (some .int) (7) (231) [.ref l0, .ref l1] σ (kx_ri Q) := by
  refine kx_enter (by decide) rfl (Nat.le_of_ble_eq_true rfl) ?_
  intro p e s m below meth c ls F hr hlocks C hname hl
  have hl : lv_has ls 2 [(0, .ref l0), (1, .ref l1)] := hl
  obtain ⟨H, eH⟩ : ∃ z9, z9 = s.heap := ⟨_, rfl⟩
  obtain ⟨locs, eL⟩ : ∃ z9 : List Loc, z9 = [] := ⟨_, rfl⟩
  rw [← eH, ← eL] at C
  rw [← eH, ← eL]
  obtain ⟨σ0, e0⟩ : ∃ z9, z9 = σ := ⟨_, rfl⟩
  have C : kx_X G (xc σ0) s H locs σ := by rw [e0]; exact C
  suffices hgo : kx_W p l e (7) (231) (xc σ0) s m ([.ref l0, .ref l1] : List Value).toArray below meth c H locs σ (MQ below (kx_Q G σ0 (kx_ri Q)) ([.ref l0, .ref l1] : List Value).toArray s (kx_N - xc σ0) (600 * (kx_N - xc σ0)) (kx_A G)) (F0 m 0 ls []) by rw [e0] at hgo; exact hgo
  clear e0
  refine lv_aload_n F.1 F.2.1 dX11_newCrew_0 rfl (lv_at hl 0 rfl) ?_
  obtain ⟨ht1, h⟩ := h
  refine xg_X11_crews F C ht1 ux_482 (fun _ h9 => h9) dX11_newCrew_1 ?_
  obtain ⟨a2, ea3, h⟩ := h
  refine xq_nn ea3 ?_
  obtain ⟨ht6, h⟩ := h
  refine xk_Jx4a65c_size_8abf5 F C a2 ht6 h ux_500 (Nat.le_of_ble_eq_true rfl) (Nat.le_of_ble_eq_true rfl) hl.1 (by simp [Value.category]) dX11_newCrew_4 (fun r5 σ4 H locs h C => ?_)
  refine lv_bipush (v := 6) F.1 F.2.1 dX11_newCrew_9 (by decide) ?_
  refine lv_icmp_lt (tgt := 16) F.1 F.2.1 dX11_newCrew_11 (by decide) (fun c7 => ?_) (fun c7 => ?_)
  · replace h := h.1 c7
    refine lv_aload_n F.1 F.2.1 dX11_newCrew_16 rfl (lv_at hl 0 rfl) ?_
    obtain ⟨ht8, h⟩ := h
    refine xg_X11_crews F C ht8 ux_482 (fun _ h9 => h9) dX11_newCrew_17 ?_
    obtain ⟨a9, ea10, h⟩ := h
    refine xq_nn ea10 ?_
    obtain ⟨hn11, h⟩ := h
    refine xw_X2 F C hn11 ux_555 dX11_newCrew_20 (fun p12 H z13 z14 C => ?_)
    replace h := h p12 z13 (fun h9 => z14 (h9.trans (show xz σ4 = _ from C.2.1.1)))
    generalize eσ15 : xnew σ4 p12 4 = σ15 at C ⊢
    replace h := h σ15 eσ15.symm
    have ht16 : xt σ15 p12 = 4 := by rw [← eσ15]; exact va_up_self _ _ _
    refine lv_dup F.1 F.2.1 dX11_newCrew_23 rfl ?_
    refine lv_aload_n F.1 F.2.1 dX11_newCrew_24 rfl (lv_at hl 1 rfl) ?_
    refine lv_aload_n F.1 F.2.1 dX11_newCrew_25 rfl (lv_at hl 0 rfl) ?_
    obtain ⟨ht17, h⟩ := h
    refine xg_X11_hour F C ht17 ux_556 (fun _ h9 => h9) dX11_newCrew_26 ?_
    refine xk_X2_init F C p12 l1 (xi σ15 217 l0) h ux_557 (Nat.le_of_ble_eq_true rfl) (Nat.le_of_ble_eq_true rfl) hl.1 (by simp [Value.category]) dX11_newCrew_29 (fun σ18 H locs h C => ?_)
    obtain ⟨ht21, h⟩ := h
    refine xk_Jx4a65c_add_9ea2d F C a9 p12 ht21 h ux_519 (Nat.le_of_ble_eq_true rfl) (Nat.le_of_ble_eq_true rfl) hl.1 (by simp [Value.category]) dX11_newCrew_32 (fun r20 σ19 H locs h C => ?_)
    refine lv_pop F.1 F.2.1 dX11_newCrew_37 rfl ?_
    refine lv_aload_n F.1 F.2.1 dX11_newCrew_38 rfl (lv_at hl 0 rfl) ?_
    obtain ⟨ht22, h⟩ := h
    refine xg_X11_crews F C ht22 ux_482 (fun _ h9 => h9) dX11_newCrew_39 ?_
    obtain ⟨a23, ea24, h⟩ := h
    refine xq_nn ea24 ?_
    obtain ⟨ht27, h⟩ := h
    refine xk_Jx4a65c_size_8abf5 F C a23 ht27 h ux_500 (Nat.le_of_ble_eq_true rfl) (Nat.le_of_ble_eq_true rfl) hl.1 (by simp [Value.category]) dX11_newCrew_42 (fun r26 σ25 H locs h C => ?_)
    refine lv_iconst (v := 1) F.1 F.2.1 dX11_newCrew_47 (by decide) ?_
    refine lv_isub (x := r26) (y := 1) F.1 F.2.1 dX11_newCrew_48 ?_
    exact kx_iret F C hr hlocks h dX11_newCrew_49
  · replace h := h.2 c7
    refine lv_iconst (v := (-1)) F.1 F.2.1 dX11_newCrew_14 (by decide) ?_
    exact kx_iret F C hr hlocks h dX11_newCrew_15
section
variable {p : Program} {l : Launch} {e : Env} {fr lo c0 : Nat} {s : State} {m : MethodId} {args : Array Value} {below : List Frame} {meth : Method} {c : Code} {H : Heap} {locs : List Loc} {Q : State → Prop}
variable {cc : ByteArray} {pc nL index : Nat} {ls : Array Slot} {rest : List Value} {G : kx_G} {σ : kx_S} {own : String}
theorem xk_X11_newCrew {P : Int32 → kx_S → Prop} (F : CallFix p m c cc nL s args kt_ own) (C : kx_X G c0 s H locs σ) (l0 : Nat) (l1 : Nat) (ha : xt σ l0 = 13) (h : wX11_newCrew l0 l1 σ P) (hw : Cond.methodLink own index yX11_newCrew ∈ kt_) (h1 : (7) + 1 ≤ fr) (h2 : 8 + (2 + 11) + (231) ≤ lo) (hsz : ls.size = nL) (hW : (rest.map fun v => v.category).sum ≤ 8) (hdg : decode cc pc = .ok (.invokevirtual index, 3)) (kk : ∀ (r : Int32) (u : kx_S) (H1 : Heap) (locs1 : List Loc), P r u → kx_X G c0 s H1 locs1 u → kx_W p l e fr lo c0 s m args below meth c H1 locs1 u Q (F0 m (pc + 3) ls (.int r :: rest))) : kx_W p l e fr lo c0 s m args below meth c H locs σ Q (F0 m pc ls (.ref l1 :: .ref l0 :: rest)) :=
  kx_cV (n := 1) (As := [.ref l1]) (Cn := RX11) F C (hx_X11_newCrew l G l0 l1 σ P h) (kt_V hw ux_559 ux_560 ux_117 ux_558) (by decide +kernel) ⟨h1, h2⟩ (kx_recv C (by rw [ha]; decide) (kx_e13 ha) rfl) rfl hsz hW hdg (fun v u H1 locs1 hP9 C9 => by obtain ⟨r, hv, hp⟩ := hP9; subst hv; exact kk r u H1 locs1 hp C9)
end
theorem dX11_crew_0 : decode cX11_crew 0 = .ok (.aload_n 0, 1) := by decide +kernel
theorem dX11_crew_1 : decode cX11_crew 1 = .ok (.iload_n 2, 1) := by decide +kernel
theorem dX11_crew_2 : decode cX11_crew 2 = .ok (.invokevirtual 93, 3) := by decide +kernel
theorem dX11_crew_5 : decode cX11_crew 5 = .ok (.astore_n 3, 1) := by decide +kernel
theorem dX11_crew_6 : decode cX11_crew 6 = .ok (.iload_n 1, 1) := by decide +kernel
theorem dX11_crew_7 : decode cX11_crew 7 = .ok (.iconst (-1), 1) := by decide +kernel
theorem dX11_crew_8 : decode cX11_crew 8 = .ok (.if_icmp .ne 9, 3) := by decide +kernel
theorem dX11_crew_11 : decode cX11_crew 11 = .ok (.aload_n 0, 1) := by decide +kernel
theorem dX11_crew_12 : decode cX11_crew 12 = .ok (.aload_n 3, 1) := by decide +kernel
theorem dX11_crew_13 : decode cX11_crew 13 = .ok (.invokevirtual 126, 3) := by decide +kernel
theorem dX11_crew_16 : decode cX11_crew 16 = .ok (.ireturn, 1) := by decide +kernel
theorem dX11_crew_17 : decode cX11_crew 17 = .ok (.iload_n 1, 1) := by decide +kernel
theorem dX11_crew_18 : decode cX11_crew 18 = .ok (.iconst 0, 1) := by decide +kernel
theorem dX11_crew_19 : decode cX11_crew 19 = .ok (.aload_n 0, 1) := by decide +kernel
theorem dX11_crew_20 : decode cX11_crew 20 = .ok (.getfield 22, 3) := by decide +kernel
theorem dX11_crew_23 : decode cX11_crew 23 = .ok (.invokeinterface 59 1, 5) := by decide +kernel
theorem dX11_crew_28 : decode cX11_crew 28 = .ok (.iconst 1, 1) := by decide +kernel
theorem dX11_crew_29 : decode cX11_crew 29 = .ok (.isub, 1) := by decide +kernel
theorem dX11_crew_30 : decode cX11_crew 30 = .ok (.invokestatic 65, 3) := by decide +kernel
theorem dX11_crew_33 : decode cX11_crew 33 = .ok (.ifCond .ne 5, 3) := by decide +kernel
theorem dX11_crew_36 : decode cX11_crew 36 = .ok (.iconst (-1), 1) := by decide +kernel
theorem dX11_crew_37 : decode cX11_crew 37 = .ok (.ireturn, 1) := by decide +kernel
theorem dX11_crew_38 : decode cX11_crew 38 = .ok (.aload_n 0, 1) := by decide +kernel
theorem dX11_crew_39 : decode cX11_crew 39 = .ok (.getfield 22, 3) := by decide +kernel
theorem dX11_crew_42 : decode cX11_crew 42 = .ok (.iload_n 1, 1) := by decide +kernel
theorem dX11_crew_43 : decode cX11_crew 43 = .ok (.invokeinterface 69 2, 5) := by decide +kernel
theorem dX11_crew_48 : decode cX11_crew 48 = .ok (.checkcast 130, 3) := by decide +kernel
theorem dX11_crew_51 : decode cX11_crew 51 = .ok (.astore 4, 2) := by decide +kernel
theorem dX11_crew_53 : decode cX11_crew 53 = .ok (.aload 4, 2) := by decide +kernel
theorem dX11_crew_55 : decode cX11_crew 55 = .ok (.getfield 132, 3) := by decide +kernel
theorem dX11_crew_58 : decode cX11_crew 58 = .ok (.getfield 90, 3) := by decide +kernel
theorem dX11_crew_61 : decode cX11_crew 61 = .ok (.iload_n 2, 1) := by decide +kernel
theorem dX11_crew_62 : decode cX11_crew 62 = .ok (.if_icmp .eq 13, 3) := by decide +kernel
theorem dX11_crew_65 : decode cX11_crew 65 = .ok (.aload 4, 2) := by decide +kernel
theorem dX11_crew_67 : decode cX11_crew 67 = .ok (.aload_n 3, 1) := by decide +kernel
theorem dX11_crew_68 : decode cX11_crew 68 = .ok (.aload_n 0, 1) := by decide +kernel
theorem dX11_crew_69 : decode cX11_crew 69 = .ok (.getfield 136, 3) := by decide +kernel
theorem dX11_crew_72 : decode cX11_crew 72 = .ok (.invokevirtual 139, 3) := by decide +kernel
theorem dX11_crew_75 : decode cX11_crew 75 = .ok (.iload_n 1, 1) := by decide +kernel
theorem dX11_crew_76 : decode cX11_crew 76 = .ok (.ireturn, 1) := by decide +kernel
def wX11_crew (l0 : Nat) (l1 : Int32) (l2 : Int32) (σ : kx_S) (Q : Int32 → kx_S → Prop) (QX : String → kx_S → Prop) : Prop := xt σ l0 = 13 ∧ wX11_reachAt l0 l2 σ (fun b2 σ1 => ((¬ l1 = (-1) → xt σ1 l0 = 13 ∧ ∃ a6, xr σ1 211 l0 = some a6 ∧ xt σ1 a6 = 1 ∧ wJx4a65c_size_8abf5 a6 σ1 (fun r9 σ8 => wX11_isWithin l1 0 (r9 - 1) σ8 (fun r12 σ11 => ((¬ r12 = 0 → xt σ11 l0 = 13 ∧ ∃ a15, xr σ11 211 l0 = some a15 ∧ xt σ11 a15 = 1 ∧ wJx4a65c_get_915e3 a15 l1 σ11 (fun q18 σ17 => ∃ a20, q18 = some a20 ∧ xt σ17 a20 = 4 ∧ ∃ a23, xr σ17 64 a20 = some a23 ∧ xt σ17 a23 = 10 ∧ (((xi σ17 160 a23) = l2 → Q l1 σ17) ∧
      (¬ ((xi σ17 160 a23) = l2) → xt σ17 l0 = 13 ∧ wX2_come a20 b2 (xi σ17 217 l0) σ17 (fun σ28 => Q l1 σ28))))) ∧
    (r12 = 0 → Q (-1) σ11))))) ∧
  (l1 = (-1) → xt σ1 l0 = 13 ∧ wX11_newCrew l0 b2 σ1 (fun r30 σ29 => Q r30 σ29)))) QX
set_option maxRecDepth 100000 in
set_option maxHeartbeats 4000000 in
theorem hx_X11_crew (l : Launch) (hlt : l.stackTraces = false) (G : kx_G) (l0 : Nat) (l1 : Int32) (l2 : Int32) (σ : kx_S) (Q : Int32 → kx_S → Prop) (QX : String → kx_S → Prop) (h : wX11_crew l0 l1 l2 σ Q QX) : kx_MX l G yX11_crew cX11_crew 5 (some .int) (8) (252) [.ref l0, .int l1, .int l2] σ (kx_ri Q) QX := by
  refine kx_enterX (by decide) rfl (Nat.le_of_ble_eq_true rfl) ?_
  intro p e s m below meth c ls F hr hlocks C hout hl
  have hl : lv_has ls 5 [(0, .ref l0), (1, .int l1), (2, .int l2)] := hl
  obtain ⟨H, eH⟩ : ∃ z9, z9 = s.heap := ⟨_, rfl⟩
  obtain ⟨locs, eL⟩ : ∃ z9 : List Loc, z9 = [] := ⟨_, rfl⟩
  rw [← eH, ← eL] at C
  rw [← eH, ← eL]
  obtain ⟨σ0, e0⟩ : ∃ z9, z9 = σ := ⟨_, rfl⟩
  have C : kx_X G (xc σ0) s H locs σ := by rw [e0]; exact C
  suffices hgo : kx_W p l e (8) (252) (xc σ0) s m ([.ref l0, .int l1, .int l2] : List Value).toArray below meth c H locs σ (vx_MQ below (kx_Q G σ0 (kx_ri Q)) (kx_XC G σ0 QX) ([.ref l0, .int l1, .int l2] : List Value).toArray s (kx_N - xc σ0) (600 * (kx_N - xc σ0)) (kx_A G)) (F0 m 0 ls []) by rw [e0] at hgo; exact hgo
  clear e0
  refine lv_aload_n F.1 F.2.1 dX11_crew_0 rfl (lv_at hl 0 rfl) ?_
  refine lv_iload_n F.1 F.2.1 dX11_crew_1 rfl (lv_at hl 2 rfl) ?_
  obtain ⟨ht3, h⟩ := h
  refine xk_X11_reachAt hlt F C l0 l2 ht3 h ux_527 (Nat.le_of_ble_eq_true rfl) (Nat.le_of_ble_eq_true rfl) hl.1 (by simp [Value.category]) dX11_crew_2 (fun E9 ce9 q9 σ1 H locs h C hce hcv hcl => kx_out C h hce hcv hcl hout hlocks) (fun b2 σ1 H locs h C => ?_)
  refine lv_astore_n (lv' := [(3, .ref b2), (0, .ref l0), (1, .int l1), (2, .int l2)]) F.1 F.2.1 dX11_crew_5 rfl hl (by decide) rfl (fun ls hl => ?_)
  refine lv_iload_n F.1 F.2.1 dX11_crew_6 rfl (lv_at hl 2 rfl) ?_
  refine lv_iconst (v := (-1)) F.1 F.2.1 dX11_crew_7 (by decide) ?_
  refine lv_icmp_ne (tgt := 17) F.1 F.2.1 dX11_crew_8 (by decide) (fun c4 => ?_) (fun c4 => ?_)
  · replace h := h.1 c4
    refine lv_iload_n F.1 F.2.1 dX11_crew_17 rfl (lv_at hl 2 rfl) ?_
    refine lv_iconst (v := 0) F.1 F.2.1 dX11_crew_18 (by decide) ?_
    refine lv_aload_n F.1 F.2.1 dX11_crew_19 rfl (lv_at hl 1 rfl) ?_
    obtain ⟨ht5, h⟩ := h
    refine xg_X11_crews F C ht5 ux_482 (fun _ h9 => h9) dX11_crew_20 ?_
    obtain ⟨a6, ea7, h⟩ := h
    refine xq_nn ea7 ?_
    obtain ⟨ht10, h⟩ := h
    refine xk_Jx4a65c_size_8abf5 F C a6 ht10 h ux_500 (Nat.le_of_ble_eq_true rfl) (Nat.le_of_ble_eq_true rfl) hl.1 (by simp [Value.category]) dX11_crew_23 (fun r9 σ8 H locs h C => ?_)
    refine lv_iconst (v := 1) F.1 F.2.1 dX11_crew_28 (by decide) ?_
    refine lv_isub (x := r9) (y := 1) F.1 F.2.1 dX11_crew_29 ?_
    refine xk_X11_isWithin F C l1 0 (r9 - 1) h ux_501 (Nat.le_of_ble_eq_true rfl) (Nat.le_of_ble_eq_true rfl) hl.1 (by simp [Value.category]) dX11_crew_30 (fun r12 σ11 H locs h C => ?_)
    refine lv_if_ne (tgt := 38) F.1 F.2.1 dX11_crew_33 (by decide) (fun c13 => ?_) (fun c13 => ?_)
    · replace h := h.1 c13
      refine lv_aload_n F.1 F.2.1 dX11_crew_38 rfl (lv_at hl 1 rfl) ?_
      obtain ⟨ht14, h⟩ := h
      refine xg_X11_crews F C ht14 ux_482 (fun _ h9 => h9) dX11_crew_39 ?_
      obtain ⟨a15, ea16, h⟩ := h
      refine xq_nn ea16 ?_
      refine lv_iload_n F.1 F.2.1 dX11_crew_42 rfl (lv_at hl 2 rfl) ?_
      obtain ⟨ht19, h⟩ := h
      refine xk_Jx4a65c_get_915e3 F C a15 l1 ht19 h ux_502 (Nat.le_of_ble_eq_true rfl) (Nat.le_of_ble_eq_true rfl) hl.1 (by simp [Value.category]) dX11_crew_43 (fun q18 σ17 H locs h C => ?_)
      obtain ⟨a20, ea21, h⟩ := h
      refine xq_nn ea21 ?_
      obtain ⟨ht22, h⟩ := h
      refine kx_cast F C (by rw [ht22]; decide) (kx_e4 ht22) rfl ux_555 dX11_crew_48 ?_
      refine lv_astore (lv' := [(4, .ref a20), (3, .ref b2), (0, .ref l0), (1, .int l1), (2, .int l2)]) F.1 F.2.1 dX11_crew_51 hl (by decide) rfl (fun ls hl => ?_)
      refine lv_aload F.1 F.2.1 dX11_crew_53 (lv_at hl 0 rfl) ?_
      refine xg_X2_reach F C ht22 ux_561 (fun _ h9 => h9) dX11_crew_55 ?_
      obtain ⟨a23, ea24, h⟩ := h
      refine xq_nn ea24 ?_
      obtain ⟨ht25, h⟩ := h
      refine xg_X8_number F C ht25 ux_520 (fun _ h9 => h9) dX11_crew_58 ?_
      refine lv_iload_n F.1 F.2.1 dX11_crew_61 rfl (lv_at hl 4 rfl) ?_
      refine lv_icmp_eq (tgt := 75) F.1 F.2.1 dX11_crew_62 (by decide) (fun c26 => ?_) (fun c26 => ?_)
      · replace h := h.1 c26
        refine lv_iload_n F.1 F.2.1 dX11_crew_75 rfl (lv_at hl 3 rfl) ?_
        refine vx_ret ?_
        exact kx_iret F C hr hlocks h dX11_crew_76
      · replace h := h.2 c26
        refine lv_aload F.1 F.2.1 dX11_crew_65 (lv_at hl 0 rfl) ?_
        refine lv_aload_n F.1 F.2.1 dX11_crew_67 rfl (lv_at hl 1 rfl) ?_
        refine lv_aload_n F.1 F.2.1 dX11_crew_68 rfl (lv_at hl 2 rfl) ?_
        obtain ⟨ht27, h⟩ := h
        refine xg_X11_hour F C ht27 ux_556 (fun _ h9 => h9) dX11_crew_69 ?_
        refine xk_X2_come F C a20 b2 (xi σ17 217 l0) ht22 h ux_562 (Nat.le_of_ble_eq_true rfl) (Nat.le_of_ble_eq_true rfl) hl.1 (by simp [Value.category]) dX11_crew_72 (fun σ28 H locs h C => ?_)
        refine lv_iload_n F.1 F.2.1 dX11_crew_75 rfl (lv_at hl 3 rfl) ?_
        refine vx_ret ?_
        exact kx_iret F C hr hlocks h dX11_crew_76
    · replace h := h.2 c13
      refine lv_iconst (v := (-1)) F.1 F.2.1 dX11_crew_36 (by decide) ?_
      refine vx_ret ?_
      exact kx_iret F C hr hlocks h dX11_crew_37
  · replace h := h.2 c4
    refine lv_aload_n F.1 F.2.1 dX11_crew_11 rfl (lv_at hl 1 rfl) ?_
    refine lv_aload_n F.1 F.2.1 dX11_crew_12 rfl (lv_at hl 0 rfl) ?_
    obtain ⟨ht31, h⟩ := h
    refine xk_X11_newCrew F C l0 b2 ht31 h ux_563 (Nat.le_of_ble_eq_true rfl) (Nat.le_of_ble_eq_true rfl) hl.1 (by simp [Value.category]) dX11_crew_13 (fun r30 σ29 H locs h C => ?_)
    refine vx_ret ?_
    exact kx_iret F C hr hlocks h dX11_crew_16
section
variable {p : Program} {l : Launch} {e : Env} {fr lo c0 : Nat} {s : State} {m : MethodId} {args : Array Value} {below : List Frame} {meth : Method} {c : Code} {H : Heap} {locs : List Loc} {Q : State → Prop}
variable {cc : ByteArray} {pc nL index : Nat} {ls : Array Slot} {rest : List Value} {G : kx_G} {σ : kx_S} {own : String}
theorem xk_X11_crew {P : Int32 → kx_S → Prop} {PX : String → kx_S → Prop} (hlt : l.stackTraces = false) (F : CallFix p m c cc nL s args kt_ own) (C : kx_X G c0 s H locs σ) (l0 : Nat) (l1 : Int32) (l2 : Int32) (ha : xt σ l0 = 13) (h : wX11_crew l0 l1 l2 σ P PX) (hw : Cond.methodLink own index yX11_crew ∈ kt_) (h1 : (8) + 1 ≤ fr) (h2 : 8 + (5 + 11) + (252) ≤ lo) (hsz : ls.size = nL) (hW : (rest.map fun v => v.category).sum ≤ 8) (hdg : decode cc pc = .ok (.invokevirtual index, 3)) (kx : ∀ (E : String) (ce : Cell) (q9 : Addr) (u : kx_S) (H1 : Heap) (locs1 : List Loc), PX E u → kx_X G c0 s H1 locs1 u → H1[q9]? = some ce → ce.vm = .none → s.vm.findClass E = some ce.cls → vx_W p l e (kx_rm fr lo c0) s m args below meth c H1 locs1 (xc u - c0) (600 * (xc u - c0)) Q (F0 m pc ls rest) q9) (kk : ∀ (r : Int32) (u : kx_S) (H1 : Heap) (locs1 : List Loc), P r u → kx_X G c0 s H1 locs1 u → kx_W p l e fr lo c0 s m args below meth c H1 locs1 u Q (F0 m (pc + 3) ls (.int r :: rest))) : kx_W p l e fr lo c0 s m args below meth c H locs σ Q (F0 m pc ls (.int l2 :: .int l1 :: .ref l0 :: rest)) :=
  kx_cVX (n := 2) (As := [.int l1, .int l2]) (Cn := RX11) F C (hx_X11_crew l hlt G l0 l1 l2 σ P PX h) (kt_V hw ux_565 ux_566 ux_117 ux_564) (by decide +kernel) ⟨h1, h2⟩ (kx_recv C (by rw [ha]; decide) (kx_e13 ha) rfl) rfl hsz hW hdg kx (fun v u H1 locs1 hP9 C9 => by obtain ⟨r, hv, hp⟩ := hP9; subst hv; exact kk r u H1 locs1 hp C9)
end
theorem dX11_feed_0 : decode cX11_feed 0 = .ok (.aload_n 0, 1) := by decide +kernel
theorem dX11_feed_1 : decode cX11_feed 1 = .ok (.getfield 31, 3) := by decide +kernel
theorem dX11_feed_4 : decode cX11_feed 4 = .ok (.getfield 145, 3) := by decide +kernel
theorem dX11_feed_7 : decode cX11_feed 7 = .ok (.sipush 480, 3) := by decide +kernel
theorem dX11_feed_10 : decode cX11_feed 10 = .ok (.if_icmp .le 5, 3) := by decide +kernel
theorem dX11_feed_13 : decode cX11_feed 13 = .ok (.iconst (-1), 1) := by decide +kernel
theorem dX11_feed_14 : decode cX11_feed 14 = .ok (.ireturn, 1) := by decide +kernel
theorem dX11_feed_15 : decode cX11_feed 15 = .ok (.aload_n 0, 1) := by decide +kernel
theorem dX11_feed_16 : decode cX11_feed 16 = .ok (.getfield 31, 3) := by decide +kernel
theorem dX11_feed_19 : decode cX11_feed 19 = .ok (.iload_n 1, 1) := by decide +kernel
theorem dX11_feed_20 : decode cX11_feed 20 = .ok (.invokevirtual 148, 3) := by decide +kernel
theorem dX11_feed_23 : decode cX11_feed 23 = .ok (.aload_n 0, 1) := by decide +kernel
theorem dX11_feed_24 : decode cX11_feed 24 = .ok (.getfield 31, 3) := by decide +kernel
theorem dX11_feed_27 : decode cX11_feed 27 = .ok (.iload_n 2, 1) := by decide +kernel
theorem dX11_feed_28 : decode cX11_feed 28 = .ok (.invokevirtual 148, 3) := by decide +kernel
theorem dX11_feed_31 : decode cX11_feed 31 = .ok (.aload_n 0, 1) := by decide +kernel
theorem dX11_feed_32 : decode cX11_feed 32 = .ok (.getfield 31, 3) := by decide +kernel
theorem dX11_feed_35 : decode cX11_feed 35 = .ok (.iload_n 3, 1) := by decide +kernel
theorem dX11_feed_36 : decode cX11_feed 36 = .ok (.invokevirtual 148, 3) := by decide +kernel
theorem dX11_feed_39 : decode cX11_feed 39 = .ok (.aload_n 0, 1) := by decide +kernel
theorem dX11_feed_40 : decode cX11_feed 40 = .ok (.getfield 31, 3) := by decide +kernel
theorem dX11_feed_43 : decode cX11_feed 43 = .ok (.iload 4, 2) := by decide +kernel
theorem dX11_feed_45 : decode cX11_feed 45 = .ok (.invokevirtual 148, 3) := by decide +kernel
theorem dX11_feed_48 : decode cX11_feed 48 = .ok (.aload_n 0, 1) := by decide +kernel
theorem dX11_feed_49 : decode cX11_feed 49 = .ok (.getfield 31, 3) := by decide +kernel
theorem dX11_feed_52 : decode cX11_feed 52 = .ok (.iload 5, 2) := by decide +kernel
theorem dX11_feed_54 : decode cX11_feed 54 = .ok (.invokevirtual 148, 3) := by decide +kernel
theorem dX11_feed_57 : decode cX11_feed 57 = .ok (.aload_n 0, 1) := by decide +kernel
theorem dX11_feed_58 : decode cX11_feed 58 = .ok (.getfield 31, 3) := by decide +kernel
theorem dX11_feed_61 : decode cX11_feed 61 = .ok (.getfield 145, 3) := by decide +kernel
theorem dX11_feed_64 : decode cX11_feed 64 = .ok (.ireturn, 1) := by decide +kernel
def wX11_feed (l0 : Nat) (l1 : Int32) (l2 : Int32) (l3 : Int32) (l4 : Int32) (l5 : Int32) (σ : kx_S) (Q : Int32 → kx_S → Prop) : Prop := xt σ l0 = 13 ∧ ∃ a2, xr σ 213 l0 = some a2 ∧ xt σ a2 = 11 ∧ (((xi σ 177 a2) ≤ 480 → ∃ a6, xr σ 213 l0 = some a6 ∧ xt σ a6 = 11 ∧ wX9_append a6 l1 σ (fun σ8 => xt σ8 l0 = 13 ∧ ∃ a11, xr σ8 213 l0 = some a11 ∧ xt σ8 a11 = 11 ∧ wX9_append a11 l2 σ8 (fun σ13 => xt σ13 l0 = 13 ∧ ∃ a16, xr σ13 213 l0 = some a16 ∧ xt σ13 a16 = 11 ∧ wX9_append a16 l3 σ13 (fun σ18 => xt σ18 l0 = 13 ∧ ∃ a21, xr σ18 213 l0 = some a21 ∧ xt σ18 a21 = 11 ∧ wX9_append a21 l4 σ18 (fun σ23 => xt σ23 l0 = 13 ∧ ∃ a26, xr σ23 213 l0 = some a26 ∧ xt σ23 a26 = 11 ∧ wX9_append a26 l5 σ23 (fun σ28 => xt σ28 l0 = 13 ∧ ∃ a31, xr σ28 213 l0 = some a31 ∧ xt σ28 a31 = 11 ∧ Q (xi σ28 177 a31) σ28)))))) ∧
  (¬ ((xi σ 177 a2) ≤ 480) → Q (-1) σ))
set_option maxRecDepth 100000 in
set_option maxHeartbeats 4000000 in
theorem hx_X11_feed (l : Launch) (G : kx_G) (l0 : Nat) (l1 : Int32) (l2 : Int32) (l3 : Int32) (l4 : Int32) (l5 : Int32) (σ : kx_S) (Q : Int32 → kx_S → Prop) (h : wX11_feed l0 l1 l2 l3 l4 l5 σ Q) : kx_M l G yX11_feed cX11_feed 6 (some .int) (1) (22) [.ref l0, .int l1, .int l2, .int l3, .int l4, .int l5] σ (kx_ri Q) := by
  refine kx_enter (by decide) rfl (Nat.le_of_ble_eq_true rfl) ?_
  intro p e s m below meth c ls F hr hlocks C hname hl
  have hl : lv_has ls 6 [(0, .ref l0), (1, .int l1), (2, .int l2), (3, .int l3), (4, .int l4), (5, .int l5)] := hl
  obtain ⟨H, eH⟩ : ∃ z9, z9 = s.heap := ⟨_, rfl⟩
  obtain ⟨locs, eL⟩ : ∃ z9 : List Loc, z9 = [] := ⟨_, rfl⟩
  rw [← eH, ← eL] at C
  rw [← eH, ← eL]
  obtain ⟨σ0, e0⟩ : ∃ z9, z9 = σ := ⟨_, rfl⟩
  have C : kx_X G (xc σ0) s H locs σ := by rw [e0]; exact C
  suffices hgo : kx_W p l e (1) (22) (xc σ0) s m ([.ref l0, .int l1, .int l2, .int l3, .int l4, .int l5] : List Value).toArray below meth c H locs σ (MQ below (kx_Q G σ0 (kx_ri Q)) ([.ref l0, .int l1, .int l2, .int l3, .int l4, .int l5] : List Value).toArray s (kx_N - xc σ0) (600 * (kx_N - xc σ0)) (kx_A G)) (F0 m 0 ls []) by rw [e0] at hgo; exact hgo
  clear e0
  refine lv_aload_n F.1 F.2.1 dX11_feed_0 rfl (lv_at hl 0 rfl) ?_
  obtain ⟨ht1, h⟩ := h
  refine xg_X11_tape F C ht1 ux_486 (fun _ h9 => h9) dX11_feed_1 ?_
  obtain ⟨a2, ea3, h⟩ := h
  refine xq_nn ea3 ?_
  obtain ⟨ht4, h⟩ := h
  refine xg_X9_length F C ht4 ux_567 (fun _ h9 => h9) dX11_feed_4 ?_
  refine lv_sipush (v := 480) F.1 F.2.1 dX11_feed_7 (by decide) ?_
  refine lv_icmp_le (tgt := 15) F.1 F.2.1 dX11_feed_10 (by decide) (fun c5 => ?_) (fun c5 => ?_)
  · replace h := h.1 c5
    refine lv_aload_n F.1 F.2.1 dX11_feed_15 rfl (lv_at hl 0 rfl) ?_
    refine xg_X11_tape F C ht1 ux_486 (fun _ h9 => h9) dX11_feed_16 ?_
    obtain ⟨a6, ea7, h⟩ := h
    refine xq_nn ea7 ?_
    refine lv_iload_n F.1 F.2.1 dX11_feed_19 rfl (lv_at hl 1 rfl) ?_
    obtain ⟨ht9, h⟩ := h
    refine xk_X9_append F C a6 l1 ht9 h ux_568 (Nat.le_of_ble_eq_true rfl) (Nat.le_of_ble_eq_true rfl) hl.1 (by simp [Value.category]) dX11_feed_20 (fun σ8 H locs h C => ?_)
    refine lv_aload_n F.1 F.2.1 dX11_feed_23 rfl (lv_at hl 0 rfl) ?_
    obtain ⟨ht10, h⟩ := h
    refine xg_X11_tape F C ht10 ux_486 (fun _ h9 => h9) dX11_feed_24 ?_
    obtain ⟨a11, ea12, h⟩ := h
    refine xq_nn ea12 ?_
    refine lv_iload_n F.1 F.2.1 dX11_feed_27 rfl (lv_at hl 2 rfl) ?_
    obtain ⟨ht14, h⟩ := h
    refine xk_X9_append F C a11 l2 ht14 h ux_568 (Nat.le_of_ble_eq_true rfl) (Nat.le_of_ble_eq_true rfl) hl.1 (by simp [Value.category]) dX11_feed_28 (fun σ13 H locs h C => ?_)
    refine lv_aload_n F.1 F.2.1 dX11_feed_31 rfl (lv_at hl 0 rfl) ?_
    obtain ⟨ht15, h⟩ := h
    refine xg_X11_tape F C ht15 ux_486 (fun _ h9 => h9) dX11_feed_32 ?_
    obtain ⟨a16, ea17, h⟩ := h
    refine xq_nn ea17 ?_
    refine lv_iload_n F.1 F.2.1 dX11_feed_35 rfl (lv_at hl 3 rfl) ?_
    obtain ⟨ht19, h⟩ := h
    refine xk_X9_append F C a16 l3 ht19 h ux_568 (Nat.le_of_ble_eq_true rfl) (Nat.le_of_ble_eq_true rfl) hl.1 (by simp [Value.category]) dX11_feed_36 (fun σ18 H locs h C => ?_)
    refine lv_aload_n F.1 F.2.1 dX11_feed_39 rfl (lv_at hl 0 rfl) ?_
    obtain ⟨ht20, h⟩ := h
    refine xg_X11_tape F C ht20 ux_486 (fun _ h9 => h9) dX11_feed_40 ?_
    obtain ⟨a21, ea22, h⟩ := h
    refine xq_nn ea22 ?_
    refine lv_iload F.1 F.2.1 dX11_feed_43 (lv_at hl 4 rfl) ?_
    obtain ⟨ht24, h⟩ := h
    refine xk_X9_append F C a21 l4 ht24 h ux_568 (Nat.le_of_ble_eq_true rfl) (Nat.le_of_ble_eq_true rfl) hl.1 (by simp [Value.category]) dX11_feed_45 (fun σ23 H locs h C => ?_)
    refine lv_aload_n F.1 F.2.1 dX11_feed_48 rfl (lv_at hl 0 rfl) ?_
    obtain ⟨ht25, h⟩ := h
    refine xg_X11_tape F C ht25 ux_486 (fun _ h9 => h9) dX11_feed_49 ?_
    obtain ⟨a26, ea27, h⟩ := h
    refine xq_nn ea27 ?_
    refine lv_iload F.1 F.2.1 dX11_feed_52 (lv_at hl 5 rfl) ?_
    obtain ⟨ht29, h⟩ := h
    refine xk_X9_append F C a26 l5 ht29 h ux_568 (Nat.le_of_ble_eq_true rfl) (Nat.le_of_ble_eq_true rfl) hl.1 (by simp [Value.category]) dX11_feed_54 (fun σ28 H locs h C => ?_)
    refine lv_aload_n F.1 F.2.1 dX11_feed_57 rfl (lv_at hl 0 rfl) ?_
    obtain ⟨ht30, h⟩ := h
    refine xg_X11_tape F C ht30 ux_486 (fun _ h9 => h9) dX11_feed_58 ?_
    obtain ⟨a31, ea32, h⟩ := h
    refine xq_nn ea32 ?_
    obtain ⟨ht33, h⟩ := h
    refine xg_X9_length F C ht33 ux_567 (fun _ h9 => h9) dX11_feed_61 ?_
    exact kx_iret F C hr hlocks h dX11_feed_64
  · replace h := h.2 c5
    refine lv_iconst (v := (-1)) F.1 F.2.1 dX11_feed_13 (by decide) ?_
    exact kx_iret F C hr hlocks h dX11_feed_14
section
variable {p : Program} {l : Launch} {e : Env} {fr lo c0 : Nat} {s : State} {m : MethodId} {args : Array Value} {below : List Frame} {meth : Method} {c : Code} {H : Heap} {locs : List Loc} {Q : State → Prop}
variable {cc : ByteArray} {pc nL index : Nat} {ls : Array Slot} {rest : List Value} {G : kx_G} {σ : kx_S} {own : String}
theorem xk_X11_feed {P : Int32 → kx_S → Prop} (F : CallFix p m c cc nL s args kt_ own) (C : kx_X G c0 s H locs σ) (l0 : Nat) (l1 : Int32) (l2 : Int32) (l3 : Int32) (l4 : Int32) (l5 : Int32) (ha : xt σ l0 = 13) (h : wX11_feed l0 l1 l2 l3 l4 l5 σ P) (hw : Cond.methodLink own index yX11_feed ∈ kt_) (h1 : (1) + 1 ≤ fr) (h2 : 8 + (6 + 11) + (22) ≤ lo) (hsz : ls.size = nL) (hW : (rest.map fun v => v.category).sum ≤ 8) (hdg : decode cc pc = .ok (.invokevirtual index, 3)) (kk : ∀ (r : Int32) (u : kx_S) (H1 : Heap) (locs1 : List Loc), P r u → kx_X G c0 s H1 locs1 u → kx_W p l e fr lo c0 s m args below meth c H1 locs1 u Q (F0 m (pc + 3) ls (.int r :: rest))) : kx_W p l e fr lo c0 s m args below meth c H locs σ Q (F0 m pc ls (.int l5 :: .int l4 :: .int l3 :: .int l2 :: .int l1 :: .ref l0 :: rest)) :=
  kx_cV (n := 5) (As := [.int l1, .int l2, .int l3, .int l4, .int l5]) (Cn := RX11) F C (hx_X11_feed l G l0 l1 l2 l3 l4 l5 σ P h) (kt_V hw ux_570 ux_571 ux_117 ux_569) (by decide +kernel) ⟨h1, h2⟩ (kx_recv C (by rw [ha]; decide) (kx_e13 ha) rfl) rfl hsz hW hdg (fun v u H1 locs1 hP9 C9 => by obtain ⟨r, hv, hp⟩ := hP9; subst hv; exact kk r u H1 locs1 hp C9)
end
theorem dX11_law_0 : decode cX11_law 0 = .ok (.iload_n 1, 1) := by decide +kernel
theorem dX11_law_1 : decode cX11_law 1 = .ok (.iconst 0, 1) := by decide +kernel
theorem dX11_law_2 : decode cX11_law 2 = .ok (.aload_n 0, 1) := by decide +kernel
theorem dX11_law_3 : decode cX11_law 3 = .ok (.getfield 31, 3) := by decide +kernel
theorem dX11_law_6 : decode cX11_law 6 = .ok (.getfield 145, 3) := by decide +kernel
theorem dX11_law_9 : decode cX11_law 9 = .ok (.invokestatic 65, 3) := by decide +kernel
theorem dX11_law_12 : decode cX11_law 12 = .ok (.ifCond .eq 14, 3) := by decide +kernel
theorem dX11_law_15 : decode cX11_law 15 = .ok (.iload_n 2, 1) := by decide +kernel
theorem dX11_law_16 : decode cX11_law 16 = .ok (.iconst 0, 1) := by decide +kernel
theorem dX11_law_17 : decode cX11_law 17 = .ok (.sipush 1000, 3) := by decide +kernel
theorem dX11_law_20 : decode cX11_law 20 = .ok (.invokestatic 65, 3) := by decide +kernel
theorem dX11_law_23 : decode cX11_law 23 = .ok (.ifCond .ne 13, 3) := by decide +kernel
theorem dX11_law_26 : decode cX11_law 26 = .ok (.new 151, 3) := by decide +kernel
theorem dX11_law_29 : decode cX11_law 29 = .ok (.dup, 1) := by decide +kernel
theorem dX11_law_30 : decode cX11_law 30 = .ok (.ldc 153, 2) := by decide +kernel
theorem dX11_law_32 : decode cX11_law 32 = .ok (.invokespecial 155, 3) := by decide +kernel
theorem dX11_law_35 : decode cX11_law 35 = .ok (.athrow, 1) := by decide +kernel
theorem dX11_law_36 : decode cX11_law 36 = .ok (.aload_n 0, 1) := by decide +kernel
theorem dX11_law_37 : decode cX11_law 37 = .ok (.getfield 31, 3) := by decide +kernel
theorem dX11_law_40 : decode cX11_law 40 = .ok (.iconst 0, 1) := by decide +kernel
theorem dX11_law_41 : decode cX11_law 41 = .ok (.putfield 145, 3) := by decide +kernel
theorem dX11_law_44 : decode cX11_law 44 = .ok (.aload_n 0, 1) := by decide +kernel
theorem dX11_law_45 : decode cX11_law 45 = .ok (.iconst (-1), 1) := by decide +kernel
theorem dX11_law_46 : decode cX11_law 46 = .ok (.putfield 55, 3) := by decide +kernel
theorem dX11_law_49 : decode cX11_law 49 = .ok (.aload_n 0, 1) := by decide +kernel
theorem dX11_law_50 : decode cX11_law 50 = .ok (.getfield 19, 3) := by decide +kernel
theorem dX11_law_53 : decode cX11_law 53 = .ok (.invokeinterface 59 1, 5) := by decide +kernel
theorem dX11_law_58 : decode cX11_law 58 = .ok (.bipush 6, 2) := by decide +kernel
theorem dX11_law_60 : decode cX11_law 60 = .ok (.if_icmp .lt 6, 3) := by decide +kernel
theorem dX11_law_63 : decode cX11_law 63 = .ok (.bipush (-9), 2) := by decide +kernel
theorem dX11_law_65 : decode cX11_law 65 = .ok (.ireturn, 1) := by decide +kernel
theorem dX11_law_66 : decode cX11_law 66 = .ok (.aload_n 0, 1) := by decide +kernel
theorem dX11_law_67 : decode cX11_law 67 = .ok (.getfield 40, 3) := by decide +kernel
theorem dX11_law_70 : decode cX11_law 70 = .ok (.iload_n 1, 1) := by decide +kernel
theorem dX11_law_71 : decode cX11_law 71 = .ok (.invokevirtual 158, 3) := by decide +kernel
theorem dX11_law_74 : decode cX11_law 74 = .ok (.aload_n 0, 1) := by decide +kernel
theorem dX11_law_75 : decode cX11_law 75 = .ok (.getfield 40, 3) := by decide +kernel
theorem dX11_law_78 : decode cX11_law 78 = .ok (.getfield 161, 3) := by decide +kernel
theorem dX11_law_81 : decode cX11_law 81 = .ok (.ifCond .eq 24, 3) := by decide +kernel
theorem dX11_law_84 : decode cX11_law 84 = .ok (.aload_n 0, 1) := by decide +kernel
theorem dX11_law_85 : decode cX11_law 85 = .ok (.aload_n 0, 1) := by decide +kernel
theorem dX11_law_86 : decode cX11_law 86 = .ok (.getfield 40, 3) := by decide +kernel
theorem dX11_law_89 : decode cX11_law 89 = .ok (.getfield 164, 3) := by decide +kernel
theorem dX11_law_92 : decode cX11_law 92 = .ok (.putfield 55, 3) := by decide +kernel
theorem dX11_law_95 : decode cX11_law 95 = .ok (.iconst (-1), 1) := by decide +kernel
theorem dX11_law_96 : decode cX11_law 96 = .ok (.aload_n 0, 1) := by decide +kernel
theorem dX11_law_97 : decode cX11_law 97 = .ok (.getfield 40, 3) := by decide +kernel
theorem dX11_law_100 : decode cX11_law 100 = .ok (.getfield 161, 3) := by decide +kernel
theorem dX11_law_103 : decode cX11_law 103 = .ok (.isub, 1) := by decide +kernel
theorem dX11_law_104 : decode cX11_law 104 = .ok (.ireturn, 1) := by decide +kernel
theorem dX11_law_105 : decode cX11_law 105 = .ok (.aload_n 0, 1) := by decide +kernel
theorem dX11_law_106 : decode cX11_law 106 = .ok (.getfield 19, 3) := by decide +kernel
theorem dX11_law_109 : decode cX11_law 109 = .ok (.new 165, 3) := by decide +kernel
theorem dX11_law_112 : decode cX11_law 112 = .ok (.dup, 1) := by decide +kernel
theorem dX11_law_113 : decode cX11_law 113 = .ok (.iload_n 2, 1) := by decide +kernel
theorem dX11_law_114 : decode cX11_law 114 = .ok (.aload_n 0, 1) := by decide +kernel
theorem dX11_law_115 : decode cX11_law 115 = .ok (.getfield 40, 3) := by decide +kernel
theorem dX11_law_118 : decode cX11_law 118 = .ok (.getfield 167, 3) := by decide +kernel
theorem dX11_law_121 : decode cX11_law 121 = .ok (.aload_n 0, 1) := by decide +kernel
theorem dX11_law_122 : decode cX11_law 122 = .ok (.getfield 40, 3) := by decide +kernel
theorem dX11_law_125 : decode cX11_law 125 = .ok (.getfield 171, 3) := by decide +kernel
theorem dX11_law_128 : decode cX11_law 128 = .ok (.invokestatic 174, 3) := by decide +kernel
theorem dX11_law_131 : decode cX11_law 131 = .ok (.invokespecial 180, 3) := by decide +kernel
theorem dX11_law_134 : decode cX11_law 134 = .ok (.invokeinterface 86 2, 5) := by decide +kernel
theorem dX11_law_139 : decode cX11_law 139 = .ok (.pop, 1) := by decide +kernel
theorem dX11_law_140 : decode cX11_law 140 = .ok (.aload_n 0, 1) := by decide +kernel
theorem dX11_law_141 : decode cX11_law 141 = .ok (.getfield 19, 3) := by decide +kernel
theorem dX11_law_144 : decode cX11_law 144 = .ok (.invokeinterface 59 1, 5) := by decide +kernel
theorem dX11_law_149 : decode cX11_law 149 = .ok (.iconst 1, 1) := by decide +kernel
theorem dX11_law_150 : decode cX11_law 150 = .ok (.isub, 1) := by decide +kernel
theorem dX11_law_151 : decode cX11_law 151 = .ok (.ireturn, 1) := by decide +kernel
def wX11_law_26 (Q : Int32 → kx_S → Prop) (QX : String → kx_S → Prop) (σ : kx_S) : Prop := xc σ < kx_N ∧ QX pz_I (xbump σ)
def wX11_law (l0 : Nat) (l1 : Int32) (l2 : Int32) (σ : kx_S) (Q : Int32 → kx_S → Prop) (QX : String → kx_S → Prop) : Prop := xt σ l0 = 13 ∧ ∃ a3, xr σ 213 l0 = some a3 ∧ xt σ a3 = 11 ∧ wX11_isWithin l1 0 (xi σ 177 a3) σ (fun r7 σ6 => ((r7 = 0 → wX11_law_26 Q QX σ6) ∧
  (¬ (r7 = 0) → wX11_isWithin l2 0 1000 σ6 (fun r10 σ9 => ((¬ r10 = 0 → xt σ9 l0 = 13 ∧ ∃ a13, xr σ9 213 l0 = some a13 ∧ xt σ9 a13 = 11 ∧ ∀ σ16, σ16 = xsi σ9 177 a13 0 → ∀ σ19, σ19 = xsi σ16 219 l0 (-1) → ∃ a22, xr σ19 210 l0 = some a22 ∧ xt σ19 a22 = 1 ∧ wJx4a65c_size_8abf5 a22 σ19 (fun r25 σ24 => ((r25 < 6 → xt σ24 l0 = 13 ∧ ∃ a29, xr σ24 214 l0 = some a29 ∧ xt σ24 a29 = 7 ∧ wX5_readText a29 l1 σ24 (fun σ31 => xt σ31 l0 = 13 ∧ ∃ a34, xr σ31 214 l0 = some a34 ∧ xt σ31 a34 = 7 ∧ (((xi σ31 115 a34) = 0 → ∃ a38, xr σ31 210 l0 = some a38 ∧ xc σ31 < kx_N ∧ ∀ p41, xt σ31 p41 = 0 → p41 ≠ xz σ31 → ∀ σ44, σ44 = xnew σ31 p41 6 → xt σ44 l0 = 13 ∧ ∃ a47, xr σ44 214 l0 = some a47 ∧ xt σ44 a47 = 7 ∧ ∃ a50, xr σ44 113 a47 = some a50 ∧ ∃ a52, xr σ44 214 l0 = some a52 ∧ xt σ44 a52 = 7 ∧ wJ7_copyOf_59c91 a50 (xi σ44 114 a52) σ44 (fun b56 σ55 => wX4_init p41 l2 b56 σ55 (fun σ57 => xt σ57 a38 = 1 ∧ wJx4a65c_add_9ea2d a38 p41 σ57 (fun r59 σ58 => xt σ58 l0 = 13 ∧ ∃ a62, xr σ58 210 l0 = some a62 ∧ xt σ58 a62 = 1 ∧ wJx4a65c_size_8abf5 a62 σ58 (fun r65 σ64 => Q (r65 - 1) σ64))))) ∧
        (¬ ((xi σ31 115 a34) = 0) → ∃ a67, xr σ31 214 l0 = some a67 ∧ xt σ31 a67 = 7 ∧ ∀ σ70, σ70 = xsi σ31 219 l0 (xi σ31 116 a67) → ∃ a74, xr σ70 214 l0 = some a74 ∧ xt σ70 a74 = 7 ∧ Q ((-1) - (xi σ70 115 a74)) σ70)))) ∧
      (¬ (r25 < 6) → Q (-9) σ24)))) ∧
    (r10 = 0 → wX11_law_26 Q QX σ9))))))
set_option maxRecDepth 100000 in
set_option maxHeartbeats 4000000 in
theorem tX11_law_26 (l : Launch) (hlt : l.stackTraces = false) (G : kx_G) (σ0 : kx_S) {p : Program} {e : Env} {s : State} {m : MethodId} {args : Array Value} {below : List Frame} {meth : Method} {c : Code} (F : CallFix p m c cX11_law 3 s args kt_ RX11) (hr : meth.sig.returnType = (some .int)) (hlocks : meth.locks = false) (hout : ∀ x ∈ c.exceptionTable.toList, False) (Q : Int32 → kx_S → Prop) (QX : String → kx_S → Prop) : ∀ (σ : kx_S) (H : Heap) (locs : List Loc) (ls : Array Slot), wX11_law_26 Q QX  σ → kx_X G (xc σ0) s H locs σ → lv_has ls 3 [] → kx_W p l e (113) (2447) (xc σ0) s m args below meth c H locs σ (vx_MQ below (kx_Q G σ0 (kx_ri Q)) (kx_XC G σ0 QX) args s (kx_N - xc σ0) (600 * (kx_N - xc σ0)) (kx_A G)) (F0 m 26 ls []) := by
  intro  σ H locs ls h C hl
  obtain ⟨hn1, h⟩ := h
  exact kx_throwI (is := 153) hlt (text := "the tape has not so many bytes, or there is no such day") (by decide +kernel) F C hn1 h hl.1 ux_572 ux_573 dX11_law_26 dX11_law_29 dX11_law_30 dX11_law_32 dX11_law_35 hout (Nat.le_of_ble_eq_true rfl) (by simp [Value.category]) hlocks
set_option maxRecDepth 100000 in
set_option maxHeartbeats 4000000 in
theorem hx_X11_law (l : Launch) (hlt : l.stackTraces = false) (G : kx_G) (l0 : Nat) (l1 : Int32) (l2 : Int32) (σ : kx_S) (Q : Int32 → kx_S → Prop) (QX : String → kx_S → Prop) (h : wX11_law l0 l1 l2 σ Q QX) : kx_MX l G yX11_law cX11_law 3 (some .int) (113) (2447) [.ref l0, .int l1, .int l2] σ (kx_ri Q) QX := by
  refine kx_enterX (by decide) rfl (Nat.le_of_ble_eq_true rfl) ?_
  intro p e s m below meth c ls F hr hlocks C hout hl
  have hl : lv_has ls 3 [(0, .ref l0), (1, .int l1), (2, .int l2)] := hl
  obtain ⟨H, eH⟩ : ∃ z9, z9 = s.heap := ⟨_, rfl⟩
  obtain ⟨locs, eL⟩ : ∃ z9 : List Loc, z9 = [] := ⟨_, rfl⟩
  rw [← eH, ← eL] at C
  rw [← eH, ← eL]
  obtain ⟨σ0, e0⟩ : ∃ z9, z9 = σ := ⟨_, rfl⟩
  have C : kx_X G (xc σ0) s H locs σ := by rw [e0]; exact C
  suffices hgo : kx_W p l e (113) (2447) (xc σ0) s m ([.ref l0, .int l1, .int l2] : List Value).toArray below meth c H locs σ (vx_MQ below (kx_Q G σ0 (kx_ri Q)) (kx_XC G σ0 QX) ([.ref l0, .int l1, .int l2] : List Value).toArray s (kx_N - xc σ0) (600 * (kx_N - xc σ0)) (kx_A G)) (F0 m 0 ls []) by rw [e0] at hgo; exact hgo
  clear e0
  refine lv_iload_n F.1 F.2.1 dX11_law_0 rfl (lv_at hl 1 rfl) ?_
  refine lv_iconst (v := 0) F.1 F.2.1 dX11_law_1 (by decide) ?_
  refine lv_aload_n F.1 F.2.1 dX11_law_2 rfl (lv_at hl 0 rfl) ?_
  obtain ⟨ht2, h⟩ := h
  refine xg_X11_tape F C ht2 ux_486 (fun _ h9 => h9) dX11_law_3 ?_
  obtain ⟨a3, ea4, h⟩ := h
  refine xq_nn ea4 ?_
  obtain ⟨ht5, h⟩ := h
  refine xg_X9_length F C ht5 ux_567 (fun _ h9 => h9) dX11_law_6 ?_
  refine xk_X11_isWithin F C l1 0 (xi σ 177 a3) h ux_501 (Nat.le_of_ble_eq_true rfl) (Nat.le_of_ble_eq_true rfl) hl.1 (by simp [Value.category]) dX11_law_9 (fun r7 σ6 H locs h C => ?_)
  refine lv_if_eq (tgt := 26) F.1 F.2.1 dX11_law_12 (by decide) (fun c8 => ?_) (fun c8 => ?_)
  · replace h := h.1 c8
    exact tX11_law_26 l hlt G σ0 F hr hlocks hout Q QX σ6 H locs ls h C (lv_sub hl [] rfl)
  · replace h := h.2 c8
    refine lv_iload_n F.1 F.2.1 dX11_law_15 rfl (lv_at hl 2 rfl) ?_
    refine lv_iconst (v := 0) F.1 F.2.1 dX11_law_16 (by decide) ?_
    refine lv_sipush (v := 1000) F.1 F.2.1 dX11_law_17 (by decide) ?_
    refine xk_X11_isWithin F C l2 0 1000 h ux_501 (Nat.le_of_ble_eq_true rfl) (Nat.le_of_ble_eq_true rfl) hl.1 (by simp [Value.category]) dX11_law_20 (fun r10 σ9 H locs h C => ?_)
    refine lv_if_ne (tgt := 36) F.1 F.2.1 dX11_law_23 (by decide) (fun c11 => ?_) (fun c11 => ?_)
    · replace h := h.1 c11
      refine lv_aload_n F.1 F.2.1 dX11_law_36 rfl (lv_at hl 0 rfl) ?_
      obtain ⟨ht12, h⟩ := h
      refine xg_X11_tape F C ht12 ux_486 (fun _ h9 => h9) dX11_law_37 ?_
      obtain ⟨a13, ea14, h⟩ := h
      refine xq_nn ea14 ?_
      refine lv_iconst (v := 0) F.1 F.2.1 dX11_law_40 (by decide) ?_
      obtain ⟨ht15, h⟩ := h
      refine xp_X9_length (x := 0) F C ht15 ux_567 (fun _ h9 => h9) dX11_law_41 (fun H locs C => ?_)
      generalize eσ16 : xsi σ9 177 a13 0 = σ16 at C ⊢
      replace h := h σ16 eσ16.symm
      have ht17 : xt σ16 l0 = 13 := by rw [← eσ16]; exact ht12
      have ht18 : xt σ16 a13 = 11 := by rw [← eσ16]; exact ht15
      refine lv_aload_n F.1 F.2.1 dX11_law_44 rfl (lv_at hl 0 rfl) ?_
      refine lv_iconst (v := (-1)) F.1 F.2.1 dX11_law_45 (by decide) ?_
      refine xp_X11_faultPlace (x := (-1)) F C ht17 ux_495 (fun _ h9 => h9) dX11_law_46 (fun H locs C => ?_)
      generalize eσ19 : xsi σ16 219 l0 (-1) = σ19 at C ⊢
      replace h := h σ19 eσ19.symm
      have ht20 : xt σ19 l0 = 13 := by rw [← eσ19]; exact ht17
      have ht21 : xt σ19 a13 = 11 := by rw [← eσ19]; exact ht18
      refine lv_aload_n F.1 F.2.1 dX11_law_49 rfl (lv_at hl 0 rfl) ?_
      refine xg_X11_laws F C ht20 ux_481 (fun _ h9 => h9) dX11_law_50 ?_
      obtain ⟨a22, ea23, h⟩ := h
      refine xq_nn ea23 ?_
      obtain ⟨ht26, h⟩ := h
      refine xk_Jx4a65c_size_8abf5 F C a22 ht26 h ux_500 (Nat.le_of_ble_eq_true rfl) (Nat.le_of_ble_eq_true rfl) hl.1 (by simp [Value.category]) dX11_law_53 (fun r25 σ24 H locs h C => ?_)
      refine lv_bipush (v := 6) F.1 F.2.1 dX11_law_58 (by decide) ?_
      refine lv_icmp_lt (tgt := 66) F.1 F.2.1 dX11_law_60 (by decide) (fun c27 => ?_) (fun c27 => ?_)
      · replace h := h.1 c27
        refine lv_aload_n F.1 F.2.1 dX11_law_66 rfl (lv_at hl 0 rfl) ?_
        obtain ⟨ht28, h⟩ := h
        refine xg_X11_reader F C ht28 ux_489 (fun _ h9 => h9) dX11_law_67 ?_
        obtain ⟨a29, ea30, h⟩ := h
        refine xq_nn ea30 ?_
        refine lv_iload_n F.1 F.2.1 dX11_law_70 rfl (lv_at hl 1 rfl) ?_
        obtain ⟨ht32, h⟩ := h
        refine xk_X5_readText F C a29 l1 ht32 h ux_574 (Nat.le_of_ble_eq_true rfl) (Nat.le_of_ble_eq_true rfl) hl.1 (by simp [Value.category]) dX11_law_71 (fun σ31 H locs h C => ?_)
        refine lv_aload_n F.1 F.2.1 dX11_law_74 rfl (lv_at hl 0 rfl) ?_
        obtain ⟨ht33, h⟩ := h
        refine xg_X11_reader F C ht33 ux_489 (fun _ h9 => h9) dX11_law_75 ?_
        obtain ⟨a34, ea35, h⟩ := h
        refine xq_nn ea35 ?_
        obtain ⟨ht36, h⟩ := h
        refine xg_X5_fault F C ht36 ux_575 (fun _ h9 => h9) dX11_law_78 ?_
        refine lv_if_eq (tgt := 105) F.1 F.2.1 dX11_law_81 (by decide) (fun c37 => ?_) (fun c37 => ?_)
        · replace h := h.1 c37
          refine lv_aload_n F.1 F.2.1 dX11_law_105 rfl (lv_at hl 0 rfl) ?_
          refine xg_X11_laws F C ht33 ux_481 (fun _ h9 => h9) dX11_law_106 ?_
          obtain ⟨a38, ea39, h⟩ := h
          refine xq_nn ea39 ?_
          obtain ⟨hn40, h⟩ := h
          refine xw_X4 F C hn40 ux_576 dX11_law_109 (fun p41 H z42 z43 C => ?_)
          replace h := h p41 z42 (fun h9 => z43 (h9.trans (show xz σ31 = _ from C.2.1.1)))
          generalize eσ44 : xnew σ31 p41 6 = σ44 at C ⊢
          replace h := h σ44 eσ44.symm
          have ht45 : xt σ44 p41 = 6 := by rw [← eσ44]; exact va_up_self _ _ _
          refine lv_dup F.1 F.2.1 dX11_law_112 rfl ?_
          refine lv_iload_n F.1 F.2.1 dX11_law_113 rfl (lv_at hl 2 rfl) ?_
          refine lv_aload_n F.1 F.2.1 dX11_law_114 rfl (lv_at hl 0 rfl) ?_
          obtain ⟨ht46, h⟩ := h
          refine xg_X11_reader F C ht46 ux_489 (fun _ h9 => h9) dX11_law_115 ?_
          obtain ⟨a47, ea48, h⟩ := h
          refine xq_nn ea48 ?_
          obtain ⟨ht49, h⟩ := h
          refine xg_X5_code F C ht49 ux_577 (fun _ h9 => h9) dX11_law_118 ?_
          obtain ⟨a50, ea51, h⟩ := h
          refine xq_nn ea51 ?_
          refine lv_aload_n F.1 F.2.1 dX11_law_121 rfl (lv_at hl 0 rfl) ?_
          refine xg_X11_reader F C ht46 ux_489 (fun _ h9 => h9) dX11_law_122 ?_
          obtain ⟨a52, ea53, h⟩ := h
          refine xq_nn ea53 ?_
          obtain ⟨ht54, h⟩ := h
          refine xg_X5_codeLength F C ht54 ux_578 (fun _ h9 => h9) dX11_law_125 ?_
          refine xk_J7_copyOf_59c91 F C a50 (xi σ44 114 a52) h ux_579 (Nat.le_of_ble_eq_true rfl) (Nat.le_of_ble_eq_true rfl) hl.1 (by simp [Value.category]) dX11_law_128 (fun b56 σ55 H locs h C => ?_)
          refine xk_X4_init F C p41 l2 b56 h ux_580 (Nat.le_of_ble_eq_true rfl) (Nat.le_of_ble_eq_true rfl) hl.1 (by simp [Value.category]) dX11_law_131 (fun σ57 H locs h C => ?_)
          obtain ⟨ht60, h⟩ := h
          refine xk_Jx4a65c_add_9ea2d F C a38 p41 ht60 h ux_519 (Nat.le_of_ble_eq_true rfl) (Nat.le_of_ble_eq_true rfl) hl.1 (by simp [Value.category]) dX11_law_134 (fun r59 σ58 H locs h C => ?_)
          refine lv_pop F.1 F.2.1 dX11_law_139 rfl ?_
          refine lv_aload_n F.1 F.2.1 dX11_law_140 rfl (lv_at hl 0 rfl) ?_
          obtain ⟨ht61, h⟩ := h
          refine xg_X11_laws F C ht61 ux_481 (fun _ h9 => h9) dX11_law_141 ?_
          obtain ⟨a62, ea63, h⟩ := h
          refine xq_nn ea63 ?_
          obtain ⟨ht66, h⟩ := h
          refine xk_Jx4a65c_size_8abf5 F C a62 ht66 h ux_500 (Nat.le_of_ble_eq_true rfl) (Nat.le_of_ble_eq_true rfl) hl.1 (by simp [Value.category]) dX11_law_144 (fun r65 σ64 H locs h C => ?_)
          refine lv_iconst (v := 1) F.1 F.2.1 dX11_law_149 (by decide) ?_
          refine lv_isub (x := r65) (y := 1) F.1 F.2.1 dX11_law_150 ?_
          refine vx_ret ?_
          exact kx_iret F C hr hlocks h dX11_law_151
        · replace h := h.2 c37
          refine lv_aload_n F.1 F.2.1 dX11_law_84 rfl (lv_at hl 0 rfl) ?_
          refine lv_aload_n F.1 F.2.1 dX11_law_85 rfl (lv_at hl 0 rfl) ?_
          refine xg_X11_reader F C ht33 ux_489 (fun _ h9 => h9) dX11_law_86 ?_
          obtain ⟨a67, ea68, h⟩ := h
          refine xq_nn ea68 ?_
          obtain ⟨ht69, h⟩ := h
          refine xg_X5_faultPlace F C ht69 ux_581 (fun _ h9 => h9) dX11_law_89 ?_
          refine xp_X11_faultPlace (x := xi σ31 116 a67) F C ht33 ux_495 (fun _ h9 => h9) dX11_law_92 (fun H locs C => ?_)
          generalize eσ70 : xsi σ31 219 l0 (xi σ31 116 a67) = σ70 at C ⊢
          replace h := h σ70 eσ70.symm
          have ht71 : xt σ70 l0 = 13 := by rw [← eσ70]; exact ht33
          have ht72 : xt σ70 a34 = 7 := by rw [← eσ70]; exact ht36
          have ht73 : xt σ70 a67 = 7 := by rw [← eσ70]; exact ht69
          refine lv_iconst (v := (-1)) F.1 F.2.1 dX11_law_95 (by decide) ?_
          refine lv_aload_n F.1 F.2.1 dX11_law_96 rfl (lv_at hl 0 rfl) ?_
          refine xg_X11_reader F C ht71 ux_489 (fun _ h9 => h9) dX11_law_97 ?_
          obtain ⟨a74, ea75, h⟩ := h
          refine xq_nn ea75 ?_
          obtain ⟨ht76, h⟩ := h
          refine xg_X5_fault F C ht76 ux_575 (fun _ h9 => h9) dX11_law_100 ?_
          refine lv_isub (x := (-1)) (y := xi σ70 115 a74) F.1 F.2.1 dX11_law_103 ?_
          refine vx_ret ?_
          exact kx_iret F C hr hlocks h dX11_law_104
      · replace h := h.2 c27
        refine lv_bipush (v := (-9)) F.1 F.2.1 dX11_law_63 (by decide) ?_
        refine vx_ret ?_
        exact kx_iret F C hr hlocks h dX11_law_65
    · replace h := h.2 c11
      exact tX11_law_26 l hlt G σ0 F hr hlocks hout Q QX σ9 H locs ls h C (lv_sub hl [] rfl)
section
variable {p : Program} {l : Launch} {e : Env} {fr lo c0 : Nat} {s : State} {m : MethodId} {args : Array Value} {below : List Frame} {meth : Method} {c : Code} {H : Heap} {locs : List Loc} {Q : State → Prop}
variable {cc : ByteArray} {pc nL index : Nat} {ls : Array Slot} {rest : List Value} {G : kx_G} {σ : kx_S} {own : String}
theorem xk_X11_law {P : Int32 → kx_S → Prop} {PX : String → kx_S → Prop} (hlt : l.stackTraces = false) (F : CallFix p m c cc nL s args kt_ own) (C : kx_X G c0 s H locs σ) (l0 : Nat) (l1 : Int32) (l2 : Int32) (ha : xt σ l0 = 13) (h : wX11_law l0 l1 l2 σ P PX) (hw : Cond.methodLink own index yX11_law ∈ kt_) (h1 : (113) + 1 ≤ fr) (h2 : 8 + (3 + 11) + (2447) ≤ lo) (hsz : ls.size = nL) (hW : (rest.map fun v => v.category).sum ≤ 8) (hdg : decode cc pc = .ok (.invokevirtual index, 3)) (kx : ∀ (E : String) (ce : Cell) (q9 : Addr) (u : kx_S) (H1 : Heap) (locs1 : List Loc), PX E u → kx_X G c0 s H1 locs1 u → H1[q9]? = some ce → ce.vm = .none → s.vm.findClass E = some ce.cls → vx_W p l e (kx_rm fr lo c0) s m args below meth c H1 locs1 (xc u - c0) (600 * (xc u - c0)) Q (F0 m pc ls rest) q9) (kk : ∀ (r : Int32) (u : kx_S) (H1 : Heap) (locs1 : List Loc), P r u → kx_X G c0 s H1 locs1 u → kx_W p l e fr lo c0 s m args below meth c H1 locs1 u Q (F0 m (pc + 3) ls (.int r :: rest))) : kx_W p l e fr lo c0 s m args below meth c H locs σ Q (F0 m pc ls (.int l2 :: .int l1 :: .ref l0 :: rest)) :=
  kx_cVX (n := 2) (As := [.int l1, .int l2]) (Cn := RX11) F C (hx_X11_law l hlt G l0 l1 l2 σ P PX h) (kt_V hw ux_583 ux_584 ux_117 ux_582) (by decide +kernel) ⟨h1, h2⟩ (kx_recv C (by rw [ha]; decide) (kx_e13 ha) rfl) rfl hsz hW hdg kx (fun v u H1 locs1 hP9 C9 => by obtain ⟨r, hv, hp⟩ := hP9; subst hv; exact kk r u H1 locs1 hp C9)
end
theorem dX11_fault_0 : decode cX11_fault 0 = .ok (.aload_n 0, 1) := by decide +kernel
theorem dX11_fault_1 : decode cX11_fault 1 = .ok (.getfield 55, 3) := by decide +kernel
theorem dX11_fault_4 : decode cX11_fault 4 = .ok (.ireturn, 1) := by decide +kernel
def wX11_fault (l0 : Nat) (σ : kx_S) (Q : Int32 → kx_S → Prop) : Prop := xt σ l0 = 13 ∧ Q (xi σ 219 l0) σ
set_option maxRecDepth 100000 in
set_option maxHeartbeats 4000000 in
theorem hx_X11_fault (l : Launch) (G : kx_G) (l0 : Nat) (σ : kx_S) (Q : Int32 → kx_S → Prop) (h : wX11_fault l0 σ Q) : kx_M l G yX11_fault cX11_fault 1 (some .int) (0) (0) [.ref l0] σ (kx_ri Q) := by
  refine kx_enter (by decide) rfl (Nat.le_of_ble_eq_true rfl) ?_
  intro p e s m below meth c ls F hr hlocks C hname hl
  have hl : lv_has ls 1 [(0, .ref l0)] := hl
  obtain ⟨H, eH⟩ : ∃ z9, z9 = s.heap := ⟨_, rfl⟩
  obtain ⟨locs, eL⟩ : ∃ z9 : List Loc, z9 = [] := ⟨_, rfl⟩
  rw [← eH, ← eL] at C
  rw [← eH, ← eL]
  obtain ⟨σ0, e0⟩ : ∃ z9, z9 = σ := ⟨_, rfl⟩
  have C : kx_X G (xc σ0) s H locs σ := by rw [e0]; exact C
  suffices hgo : kx_W p l e (0) (0) (xc σ0) s m ([.ref l0] : List Value).toArray below meth c H locs σ (MQ below (kx_Q G σ0 (kx_ri Q)) ([.ref l0] : List Value).toArray s (kx_N - xc σ0) (600 * (kx_N - xc σ0)) (kx_A G)) (F0 m 0 ls []) by rw [e0] at hgo; exact hgo
  clear e0
  refine lv_aload_n F.1 F.2.1 dX11_fault_0 rfl (lv_at hl 0 rfl) ?_
  obtain ⟨ht1, h⟩ := h
  refine xg_X11_faultPlace F C ht1 ux_495 (fun _ h9 => h9) dX11_fault_1 ?_
  exact kx_iret F C hr hlocks h dX11_fault_4
section
variable {p : Program} {l : Launch} {e : Env} {fr lo c0 : Nat} {s : State} {m : MethodId} {args : Array Value} {below : List Frame} {meth : Method} {c : Code} {H : Heap} {locs : List Loc} {Q : State → Prop}
variable {cc : ByteArray} {pc nL index : Nat} {ls : Array Slot} {rest : List Value} {G : kx_G} {σ : kx_S} {own : String}
theorem xk_X11_fault {P : Int32 → kx_S → Prop} (F : CallFix p m c cc nL s args kt_ own) (C : kx_X G c0 s H locs σ) (l0 : Nat) (ha : xt σ l0 = 13) (h : wX11_fault l0 σ P) (hw : Cond.methodLink own index yX11_fault ∈ kt_) (h1 : (0) + 1 ≤ fr) (h2 : 8 + (1 + 11) + (0) ≤ lo) (hsz : ls.size = nL) (hW : (rest.map fun v => v.category).sum ≤ 8) (hdg : decode cc pc = .ok (.invokevirtual index, 3)) (kk : ∀ (r : Int32) (u : kx_S) (H1 : Heap) (locs1 : List Loc), P r u → kx_X G c0 s H1 locs1 u → kx_W p l e fr lo c0 s m args below meth c H1 locs1 u Q (F0 m (pc + 3) ls (.int r :: rest))) : kx_W p l e fr lo c0 s m args below meth c H locs σ Q (F0 m pc ls (.ref l0 :: rest)) :=
  kx_cV (n := 0) (As := []) (Cn := RX11) F C (hx_X11_fault l G l0 σ P h) (kt_V hw ux_586 ux_587 ux_117 ux_585) (by decide +kernel) ⟨h1, h2⟩ (kx_recv C (by rw [ha]; decide) (kx_e13 ha) rfl) rfl hsz hW hdg (fun v u H1 locs1 hP9 C9 => by obtain ⟨r, hv, hp⟩ := hP9; subst hv; exact kk r u H1 locs1 hp C9)
end
theorem dX11_lawInForce_0 : decode cX11_lawInForce 0 = .ok (.aconst_null, 1) := by decide +kernel
theorem dX11_lawInForce_1 : decode cX11_lawInForce 1 = .ok (.astore_n 1, 1) := by decide +kernel
theorem dX11_lawInForce_2 : decode cX11_lawInForce 2 = .ok (.iconst 0, 1) := by decide +kernel
theorem dX11_lawInForce_3 : decode cX11_lawInForce 3 = .ok (.istore_n 2, 1) := by decide +kernel
theorem dX11_lawInForce_4 : decode cX11_lawInForce 4 = .ok (.iload_n 2, 1) := by decide +kernel
theorem dX11_lawInForce_5 : decode cX11_lawInForce 5 = .ok (.aload_n 0, 1) := by decide +kernel
theorem dX11_lawInForce_6 : decode cX11_lawInForce 6 = .ok (.getfield 19, 3) := by decide +kernel
theorem dX11_lawInForce_9 : decode cX11_lawInForce 9 = .ok (.invokeinterface 59 1, 5) := by decide +kernel
theorem dX11_lawInForce_14 : decode cX11_lawInForce 14 = .ok (.if_icmp .ge 66, 3) := by decide +kernel
theorem dX11_lawInForce_17 : decode cX11_lawInForce 17 = .ok (.aload_n 0, 1) := by decide +kernel
theorem dX11_lawInForce_18 : decode cX11_lawInForce 18 = .ok (.getfield 19, 3) := by decide +kernel
theorem dX11_lawInForce_21 : decode cX11_lawInForce 21 = .ok (.iload_n 2, 1) := by decide +kernel
theorem dX11_lawInForce_22 : decode cX11_lawInForce 22 = .ok (.invokeinterface 69 2, 5) := by decide +kernel
theorem dX11_lawInForce_27 : decode cX11_lawInForce 27 = .ok (.checkcast 165, 3) := by decide +kernel
theorem dX11_lawInForce_30 : decode cX11_lawInForce 30 = .ok (.astore_n 3, 1) := by decide +kernel
theorem dX11_lawInForce_31 : decode cX11_lawInForce 31 = .ok (.aload_n 3, 1) := by decide +kernel
theorem dX11_lawInForce_32 : decode cX11_lawInForce 32 = .ok (.getfield 183, 3) := by decide +kernel
theorem dX11_lawInForce_35 : decode cX11_lawInForce 35 = .ok (.aload_n 0, 1) := by decide +kernel
theorem dX11_lawInForce_36 : decode cX11_lawInForce 36 = .ok (.getfield 136, 3) := by decide +kernel
theorem dX11_lawInForce_39 : decode cX11_lawInForce 39 = .ok (.bipush 24, 2) := by decide +kernel
theorem dX11_lawInForce_41 : decode cX11_lawInForce 41 = .ok (.idiv, 1) := by decide +kernel
theorem dX11_lawInForce_42 : decode cX11_lawInForce 42 = .ok (.if_icmp .gt 7, 3) := by decide +kernel
theorem dX11_lawInForce_45 : decode cX11_lawInForce 45 = .ok (.iconst 1, 1) := by decide +kernel
theorem dX11_lawInForce_46 : decode cX11_lawInForce 46 = .ok (.goto 4, 3) := by decide +kernel
theorem dX11_lawInForce_49 : decode cX11_lawInForce 49 = .ok (.iconst 0, 1) := by decide +kernel
theorem dX11_lawInForce_50 : decode cX11_lawInForce 50 = .ok (.istore 4, 2) := by decide +kernel
theorem dX11_lawInForce_52 : decode cX11_lawInForce 52 = .ok (.iload 4, 2) := by decide +kernel
theorem dX11_lawInForce_54 : decode cX11_lawInForce 54 = .ok (.ifCond .eq 20, 3) := by decide +kernel
theorem dX11_lawInForce_57 : decode cX11_lawInForce 57 = .ok (.aload_n 1, 1) := by decide +kernel
theorem dX11_lawInForce_58 : decode cX11_lawInForce 58 = .ok (.ifnull 14, 3) := by decide +kernel
theorem dX11_lawInForce_61 : decode cX11_lawInForce 61 = .ok (.aload_n 3, 1) := by decide +kernel
theorem dX11_lawInForce_62 : decode cX11_lawInForce 62 = .ok (.getfield 183, 3) := by decide +kernel
theorem dX11_lawInForce_65 : decode cX11_lawInForce 65 = .ok (.aload_n 1, 1) := by decide +kernel
theorem dX11_lawInForce_66 : decode cX11_lawInForce 66 = .ok (.getfield 183, 3) := by decide +kernel
theorem dX11_lawInForce_69 : decode cX11_lawInForce 69 = .ok (.if_icmp .lt 5, 3) := by decide +kernel
theorem dX11_lawInForce_72 : decode cX11_lawInForce 72 = .ok (.aload_n 3, 1) := by decide +kernel
theorem dX11_lawInForce_73 : decode cX11_lawInForce 73 = .ok (.astore_n 1, 1) := by decide +kernel
theorem dX11_lawInForce_74 : decode cX11_lawInForce 74 = .ok (.iinc 2 1, 3) := by decide +kernel
theorem dX11_lawInForce_77 : decode cX11_lawInForce 77 = .ok (.goto (-73), 3) := by decide +kernel
theorem dX11_lawInForce_80 : decode cX11_lawInForce 80 = .ok (.aload_n 1, 1) := by decide +kernel
theorem dX11_lawInForce_81 : decode cX11_lawInForce 81 = .ok (.areturn, 1) := by decide +kernel
def wX11_lawInForce_74 (k4 : Nat → (Option Nat) → Int32 → kx_S → Prop) (Q : Option Nat → kx_S → Prop) (l0 : Nat) (l1 : Option Nat) (l2 : Int32) (σ : kx_S) : Prop := ∀ v1 : Int32, v1 = l2 + 1 → k4 l0 l1 v1 σ
def wX11_lawInForce_72 (k74 : Nat → (Option Nat) → Int32 → kx_S → Prop) (Q : Option Nat → kx_S → Prop) (l0 : Nat) (l2 : Int32) (l3 : Nat) (σ : kx_S) : Prop := k74 l0 (some l3) l2 σ
def wX11_lawInForce_50 (k4 : Nat → (Option Nat) → Int32 → kx_S → Prop) (Q : Option Nat → kx_S → Prop) (l0 : Nat) (l1 : Option Nat) (l2 : Int32) (l3 : Nat) (s0 : Int32) (σ : kx_S) : Prop := ((s0 = 0 → wX11_lawInForce_74 k4 Q l0 l1 l2 σ) ∧
  (¬ (s0 = 0) → ((l1 = none → wX11_lawInForce_72 (wX11_lawInForce_74 k4 Q) Q l0 l2 l3 σ) ∧
    (∀ a4, l1 = some a4 → xt σ l3 = 6 ∧ xt σ a4 = 6 ∧ (((xi σ 96 l3) < (xi σ 96 a4) → wX11_lawInForce_74 k4 Q l0 (some a4) l2 σ) ∧
      (¬ ((xi σ 96 l3) < (xi σ 96 a4)) → wX11_lawInForce_72 (wX11_lawInForce_74 k4 Q) Q l0 l2 l3 σ))))))
def wX11_lawInForce_4 (Q : Option Nat → kx_S → Prop) : Nat → Nat → (Option Nat) → Int32 → kx_S → Prop
  | 0, _, _, _, _ => False
  | n + 1, l0, l1, l2, σ => xt σ l0 = 13 ∧ ∃ a9, xr σ 210 l0 = some a9 ∧ xt σ a9 = 1 ∧ wJx4a65c_size_8abf5 a9 σ (fun r12 σ11 => ((r12 ≤ l2 → Q l1 σ11) ∧
    (¬ (r12 ≤ l2) → xt σ11 l0 = 13 ∧ ∃ a16, xr σ11 210 l0 = some a16 ∧ xt σ11 a16 = 1 ∧ wJx4a65c_get_915e3 a16 l2 σ11 (fun q19 σ18 => ∃ a21, q19 = some a21 ∧ xt σ18 a21 = 6 ∧ xt σ18 l0 = 13 ∧ ((((xi σ18 217 l0) / 24) < (xi σ18 96 a21) → wX11_lawInForce_50 (wX11_lawInForce_4 Q n) Q l0 l1 l2 a21 0 σ18) ∧
      (¬ (((xi σ18 217 l0) / 24) < (xi σ18 96 a21)) → wX11_lawInForce_50 (wX11_lawInForce_4 Q n) Q l0 l1 l2 a21 1 σ18))))))
def wX11_lawInForce (l0 : Nat) (σ : kx_S) (Q : Option Nat → kx_S → Prop) : Prop := ∃ j, wX11_lawInForce_4 Q j l0 none 0 σ
set_option maxRecDepth 100000 in
set_option maxHeartbeats 4000000 in
theorem tX11_lawInForce_74 (l : Launch) (G : kx_G) (σ0 : kx_S) {p : Program} {e : Env} {s : State} {m : MethodId} {args : Array Value} {below : List Frame} {meth : Method} {c : Code} (F : CallFix p m c cX11_lawInForce 5 s args kt_ RX11) (hr : meth.sig.returnType = (some (.object "LogRiver$Law"))) (hlocks : meth.locks = false) (Q : Option Nat → kx_S → Prop) (k4 : Nat → (Option Nat) → Int32 → kx_S → Prop) (hk4 : ∀ (l0 : Nat) (l1 : Option Nat) (l2 : Int32) (σ : kx_S) (H : Heap) (locs : List Loc) (ls : Array Slot), k4 l0 l1 l2 σ → kx_X G (xc σ0) s H locs σ → lv_has ls 5 [(0, .ref l0), (1, va_rf l1), (2, .int l2)] → kx_W p l e (3) (64) (xc σ0) s m args below meth c H locs σ (MQ below (kx_Q G σ0 (kx_rq Q)) args s (kx_N - xc σ0) (600 * (kx_N - xc σ0)) (kx_A G)) (F0 m 4 ls [])) : ∀ (l0 : Nat) (l1 : Option Nat) (l2 : Int32) (σ : kx_S) (H : Heap) (locs : List Loc) (ls : Array Slot), wX11_lawInForce_74 k4 Q l0 l1 l2 σ → kx_X G (xc σ0) s H locs σ → lv_has ls 5 [(0, .ref l0), (1, va_rf l1), (2, .int l2)] → kx_W p l e (3) (64) (xc σ0) s m args below meth c H locs σ (MQ below (kx_Q G σ0 (kx_rq Q)) args s (kx_N - xc σ0) (600 * (kx_N - xc σ0)) (kx_A G)) (F0 m 74 ls []) := by
  intro l0 l1 l2 σ H locs ls h C hl
  obtain ⟨v1, ev1⟩ : ∃ z9 : Int32, z9 = l2 + 1 := ⟨_, rfl⟩
  replace h := h v1 ev1
  refine lv_iinc (v := v1) (lv' := [(2, .int v1), (0, .ref l0), (1, va_rf l1)]) F.1 F.2.1 dX11_lawInForce_74 hl (k := 2) rfl (by rw [ev1]; rfl) (by decide) (by cases l1 <;> rfl) (fun ls hl => ?_)
  refine lv_goto (tgt := 4) F.1 F.2.1 dX11_lawInForce_77 (by decide) ?_
  exact hk4 l0 l1 v1 σ H locs ls h C (lv_sub hl [1, 2, 0] rfl)
set_option maxRecDepth 100000 in
set_option maxHeartbeats 4000000 in
theorem tX11_lawInForce_72 (l : Launch) (G : kx_G) (σ0 : kx_S) {p : Program} {e : Env} {s : State} {m : MethodId} {args : Array Value} {below : List Frame} {meth : Method} {c : Code} (F : CallFix p m c cX11_lawInForce 5 s args kt_ RX11) (hr : meth.sig.returnType = (some (.object "LogRiver$Law"))) (hlocks : meth.locks = false) (Q : Option Nat → kx_S → Prop) (k74 : Nat → (Option Nat) → Int32 → kx_S → Prop) (hk74 : ∀ (l0 : Nat) (l1 : Option Nat) (l2 : Int32) (σ : kx_S) (H : Heap) (locs : List Loc) (ls : Array Slot), k74 l0 l1 l2 σ → kx_X G (xc σ0) s H locs σ → lv_has ls 5 [(0, .ref l0), (1, va_rf l1), (2, .int l2)] → kx_W p l e (3) (64) (xc σ0) s m args below meth c H locs σ (MQ below (kx_Q G σ0 (kx_rq Q)) args s (kx_N - xc σ0) (600 * (kx_N - xc σ0)) (kx_A G)) (F0 m 74 ls [])) : ∀ (l0 : Nat) (l2 : Int32) (l3 : Nat) (σ : kx_S) (H : Heap) (locs : List Loc) (ls : Array Slot), wX11_lawInForce_72 k74 Q l0 l2 l3 σ → kx_X G (xc σ0) s H locs σ → lv_has ls 5 [(0, .ref l0), (2, .int l2), (3, .ref l3)] → kx_W p l e (3) (64) (xc σ0) s m args below meth c H locs σ (MQ below (kx_Q G σ0 (kx_rq Q)) args s (kx_N - xc σ0) (600 * (kx_N - xc σ0)) (kx_A G)) (F0 m 72 ls []) := by
  intro l0 l2 l3 σ H locs ls h C hl
  refine lv_aload_n F.1 F.2.1 dX11_lawInForce_72 rfl (lv_at hl 2 rfl) ?_
  refine lv_astore_n (lv' := [(1, .ref l3), (0, .ref l0), (2, .int l2), (3, .ref l3)]) F.1 F.2.1 dX11_lawInForce_73 rfl hl (by decide) rfl (fun ls hl => ?_)
  exact hk74 l0 (some l3) l2 σ H locs ls h C (lv_sub hl [1, 0, 2] rfl)
set_option maxRecDepth 100000 in
set_option maxHeartbeats 4000000 in
theorem tX11_lawInForce_50 (l : Launch) (G : kx_G) (σ0 : kx_S) {p : Program} {e : Env} {s : State} {m : MethodId} {args : Array Value} {below : List Frame} {meth : Method} {c : Code} (F : CallFix p m c cX11_lawInForce 5 s args kt_ RX11) (hr : meth.sig.returnType = (some (.object "LogRiver$Law"))) (hlocks : meth.locks = false) (Q : Option Nat → kx_S → Prop) (k4 : Nat → (Option Nat) → Int32 → kx_S → Prop) (hk4 : ∀ (l0 : Nat) (l1 : Option Nat) (l2 : Int32) (σ : kx_S) (H : Heap) (locs : List Loc) (ls : Array Slot), k4 l0 l1 l2 σ → kx_X G (xc σ0) s H locs σ → lv_has ls 5 [(0, .ref l0), (1, va_rf l1), (2, .int l2)] → kx_W p l e (3) (64) (xc σ0) s m args below meth c H locs σ (MQ below (kx_Q G σ0 (kx_rq Q)) args s (kx_N - xc σ0) (600 * (kx_N - xc σ0)) (kx_A G)) (F0 m 4 ls [])) : ∀ (l0 : Nat) (l1 : Option Nat) (l2 : Int32) (l3 : Nat) (s0 : Int32) (σ : kx_S) (H : Heap) (locs : List Loc) (ls : Array Slot), wX11_lawInForce_50 k4 Q l0 l1 l2 l3 s0 σ → kx_X G (xc σ0) s H locs σ → lv_has ls 5 [(0, .ref l0), (1, va_rf l1), (2, .int l2), (3, .ref l3)] → kx_W p l e (3) (64) (xc σ0) s m args below meth c H locs σ (MQ below (kx_Q G σ0 (kx_rq Q)) args s (kx_N - xc σ0) (600 * (kx_N - xc σ0)) (kx_A G)) (F0 m 50 ls [.int s0]) := by
  intro l0 l1 l2 l3 s0 σ H locs ls h C hl
  refine lv_istore (lv' := [(4, .int s0), (0, .ref l0), (1, va_rf l1), (2, .int l2), (3, .ref l3)]) F.1 F.2.1 dX11_lawInForce_50 hl (by decide) rfl (fun ls hl => ?_)
  refine lv_iload F.1 F.2.1 dX11_lawInForce_52 (lv_at hl 0 rfl) ?_
  refine lv_if_eq (tgt := 74) F.1 F.2.1 dX11_lawInForce_54 (by decide) (fun c2 => ?_) (fun c2 => ?_)
  · replace h := h.1 c2
    exact tX11_lawInForce_74 l G σ0 F hr hlocks Q k4 hk4 l0 l1 l2 σ H locs ls h C (lv_sub hl [1, 2, 3] rfl)
  · replace h := h.2 c2
    refine xq_aload_n F.1 F.2.1 dX11_lawInForce_57 rfl (lv_at hl 2 rfl) ?_
    refine xq_ifnull (tgt := 72) F.1 F.2.1 dX11_lawInForce_58 (by decide) (fun c3 => ?_) (fun a4 c3 => ?_)
    · replace h := h.1 c3
      exact tX11_lawInForce_72 l G σ0 F hr hlocks Q (wX11_lawInForce_74 k4 Q) (tX11_lawInForce_74 l G σ0 F hr hlocks Q k4 hk4) l0 l2 l3 σ H locs ls h C (lv_sub hl [1, 3, 4] rfl)
    · replace h := h.2 a4 c3
      revert h
      revert hl
      revert C
      subst c3
      intro C
      intro hl
      intro h
      have hl : lv_has ls 5 [(4, .int s0), (0, .ref l0), (1, .ref a4), (2, .int l2), (3, .ref l3)] := hl
      refine lv_aload_n F.1 F.2.1 dX11_lawInForce_61 rfl (lv_at hl 4 rfl) ?_
      obtain ⟨ht5, h⟩ := h
      refine xg_X4_day F C ht5 ux_588 (fun _ h9 => h9) dX11_lawInForce_62 ?_
      refine lv_aload_n F.1 F.2.1 dX11_lawInForce_65 rfl (lv_at hl 2 rfl) ?_
      obtain ⟨ht6, h⟩ := h
      refine xg_X4_day F C ht6 ux_588 (fun _ h9 => h9) dX11_lawInForce_66 ?_
      refine lv_icmp_lt (tgt := 74) F.1 F.2.1 dX11_lawInForce_69 (by decide) (fun c7 => ?_) (fun c7 => ?_)
      · replace h := h.1 c7
        exact tX11_lawInForce_74 l G σ0 F hr hlocks Q k4 hk4 l0 (some a4) l2 σ H locs ls h C (lv_sub hl [1, 2, 3] rfl)
      · replace h := h.2 c7
        exact tX11_lawInForce_72 l G σ0 F hr hlocks Q (wX11_lawInForce_74 k4 Q) (tX11_lawInForce_74 l G σ0 F hr hlocks Q k4 hk4) l0 l2 l3 σ H locs ls h C (lv_sub hl [1, 3, 4] rfl)
set_option maxRecDepth 100000 in
set_option maxHeartbeats 4000000 in
theorem tX11_lawInForce_4 (l : Launch) (G : kx_G) (σ0 : kx_S) {p : Program} {e : Env} {s : State} {m : MethodId} {args : Array Value} {below : List Frame} {meth : Method} {c : Code} (F : CallFix p m c cX11_lawInForce 5 s args kt_ RX11) (hr : meth.sig.returnType = (some (.object "LogRiver$Law"))) (hlocks : meth.locks = false) (Q : Option Nat → kx_S → Prop) : ∀ (n : Nat) (l0 : Nat) (l1 : Option Nat) (l2 : Int32) (σ : kx_S) (H : Heap) (locs : List Loc) (ls : Array Slot), wX11_lawInForce_4 Q n l0 l1 l2 σ → kx_X G (xc σ0) s H locs σ → lv_has ls 5 [(0, .ref l0), (1, va_rf l1), (2, .int l2)] → kx_W p l e (3) (64) (xc σ0) s m args below meth c H locs σ (MQ below (kx_Q G σ0 (kx_rq Q)) args s (kx_N - xc σ0) (600 * (kx_N - xc σ0)) (kx_A G)) (F0 m 4 ls []) := by
  intro n
  induction n with
  | zero => intro l0 l1 l2 σ H locs ls h; exact h.elim
  | succ n ih =>
    intro l0 l1 l2 σ H locs ls h C hl
    refine lv_iload_n F.1 F.2.1 dX11_lawInForce_4 rfl (lv_at hl 2 rfl) ?_
    refine lv_aload_n F.1 F.2.1 dX11_lawInForce_5 rfl (lv_at hl 0 rfl) ?_
    obtain ⟨ht8, h⟩ := h
    refine xg_X11_laws F C ht8 ux_481 (fun _ h9 => h9) dX11_lawInForce_6 ?_
    obtain ⟨a9, ea10, h⟩ := h
    refine xq_nn ea10 ?_
    obtain ⟨ht13, h⟩ := h
    refine xk_Jx4a65c_size_8abf5 F C a9 ht13 h ux_500 (Nat.le_of_ble_eq_true rfl) (Nat.le_of_ble_eq_true rfl) hl.1 (by simp [Value.category]) dX11_lawInForce_9 (fun r12 σ11 H locs h C => ?_)
    refine lv_icmp_ge (tgt := 80) F.1 F.2.1 dX11_lawInForce_14 (by decide) (fun c14 => ?_) (fun c14 => ?_)
    · replace h := h.1 c14
      refine xq_aload_n F.1 F.2.1 dX11_lawInForce_80 rfl (lv_at hl 1 rfl) ?_
      exact kx_qret (v := l1) F C hr (Or.inl ⟨_, rfl⟩) hlocks h dX11_lawInForce_81
    · replace h := h.2 c14
      refine lv_aload_n F.1 F.2.1 dX11_lawInForce_17 rfl (lv_at hl 0 rfl) ?_
      obtain ⟨ht15, h⟩ := h
      refine xg_X11_laws F C ht15 ux_481 (fun _ h9 => h9) dX11_lawInForce_18 ?_
      obtain ⟨a16, ea17, h⟩ := h
      refine xq_nn ea17 ?_
      refine lv_iload_n F.1 F.2.1 dX11_lawInForce_21 rfl (lv_at hl 2 rfl) ?_
      obtain ⟨ht20, h⟩ := h
      refine xk_Jx4a65c_get_915e3 F C a16 l2 ht20 h ux_502 (Nat.le_of_ble_eq_true rfl) (Nat.le_of_ble_eq_true rfl) hl.1 (by simp [Value.category]) dX11_lawInForce_22 (fun q19 σ18 H locs h C => ?_)
      obtain ⟨a21, ea22, h⟩ := h
      refine xq_nn ea22 ?_
      obtain ⟨ht23, h⟩ := h
      refine kx_cast F C (by rw [ht23]; decide) (kx_e6 ht23) rfl ux_576 dX11_lawInForce_27 ?_
      refine lv_astore_n (lv' := [(3, .ref a21), (0, .ref l0), (1, va_rf l1), (2, .int l2)]) F.1 F.2.1 dX11_lawInForce_30 rfl hl (by decide) rfl (fun ls hl => ?_)
      refine lv_aload_n F.1 F.2.1 dX11_lawInForce_31 rfl (lv_at hl 0 rfl) ?_
      refine xg_X4_day F C ht23 ux_588 (fun _ h9 => h9) dX11_lawInForce_32 ?_
      refine lv_aload_n F.1 F.2.1 dX11_lawInForce_35 rfl (lv_at hl 1 rfl) ?_
      obtain ⟨ht24, h⟩ := h
      refine xg_X11_hour F C ht24 ux_556 (fun _ h9 => h9) dX11_lawInForce_36 ?_
      refine lv_bipush (v := 24) F.1 F.2.1 dX11_lawInForce_39 (by decide) ?_
      refine lv_idiv (x := xi σ18 217 l0) (y := 24) F.1 F.2.1 dX11_lawInForce_41 (by decide) ?_
      refine lv_icmp_gt (tgt := 49) F.1 F.2.1 dX11_lawInForce_42 (by decide) (fun c25 => ?_) (fun c25 => ?_)
      · replace h := h.1 c25
        refine lv_iconst (v := 0) F.1 F.2.1 dX11_lawInForce_49 (by decide) ?_
        exact tX11_lawInForce_50 l G σ0 F hr hlocks Q (wX11_lawInForce_4 Q n) (fun l0 l1 l2 σ9 H locs ls h C hl => ih l0 l1 l2 σ9 H locs ls h C hl) l0 l1 l2 a21 0 σ18 H locs ls h C (lv_sub hl [1, 2, 3, 0] rfl)
      · replace h := h.2 c25
        refine lv_iconst (v := 1) F.1 F.2.1 dX11_lawInForce_45 (by decide) ?_
        refine lv_goto (tgt := 50) F.1 F.2.1 dX11_lawInForce_46 (by decide) ?_
        exact tX11_lawInForce_50 l G σ0 F hr hlocks Q (wX11_lawInForce_4 Q n) (fun l0 l1 l2 σ9 H locs ls h C hl => ih l0 l1 l2 σ9 H locs ls h C hl) l0 l1 l2 a21 1 σ18 H locs ls h C (lv_sub hl [1, 2, 3, 0] rfl)
set_option maxRecDepth 100000 in
set_option maxHeartbeats 4000000 in
theorem hx_X11_lawInForce (l : Launch) (G : kx_G) (l0 : Nat) (σ : kx_S) (Q : Option Nat → kx_S → Prop) (h : wX11_lawInForce l0 σ Q) : kx_M l G yX11_lawInForce cX11_lawInForce 5 (some (.object "LogRiver$Law")) (3) (64) [.ref l0] σ (kx_rq Q) := by
  refine kx_enter (by decide) rfl (Nat.le_of_ble_eq_true rfl) ?_
  intro p e s m below meth c ls F hr hlocks C hname hl
  have hl : lv_has ls 5 [(0, .ref l0)] := hl
  obtain ⟨H, eH⟩ : ∃ z9, z9 = s.heap := ⟨_, rfl⟩
  obtain ⟨locs, eL⟩ : ∃ z9 : List Loc, z9 = [] := ⟨_, rfl⟩
  rw [← eH, ← eL] at C
  rw [← eH, ← eL]
  obtain ⟨σ0, e0⟩ : ∃ z9, z9 = σ := ⟨_, rfl⟩
  have C : kx_X G (xc σ0) s H locs σ := by rw [e0]; exact C
  suffices hgo : kx_W p l e (3) (64) (xc σ0) s m ([.ref l0] : List Value).toArray below meth c H locs σ (MQ below (kx_Q G σ0 (kx_rq Q)) ([.ref l0] : List Value).toArray s (kx_N - xc σ0) (600 * (kx_N - xc σ0)) (kx_A G)) (F0 m 0 ls []) by rw [e0] at hgo; exact hgo
  clear e0
  refine lv_null F.1 F.2.1 dX11_lawInForce_0 ?_
  refine xq_top0 ?_
  refine xq_astore_n (lv' := [(1, va_rf none), (0, .ref l0)]) F.1 F.2.1 dX11_lawInForce_1 rfl hl (by decide) rfl (fun ls hl => ?_)
  refine lv_iconst (v := 0) F.1 F.2.1 dX11_lawInForce_2 (by decide) ?_
  refine lv_istore_n (lv' := [(2, .int 0), (1, va_rf none), (0, .ref l0)]) F.1 F.2.1 dX11_lawInForce_3 rfl hl (by decide) rfl (fun ls hl => ?_)
  obtain ⟨n26, h⟩ := h
  exact tX11_lawInForce_4 l G σ0 F hr hlocks Q n26 l0 none 0 σ H locs ls h C (lv_sub hl [2, 1, 0] rfl)
section
variable {p : Program} {l : Launch} {e : Env} {fr lo c0 : Nat} {s : State} {m : MethodId} {args : Array Value} {below : List Frame} {meth : Method} {c : Code} {H : Heap} {locs : List Loc} {Q : State → Prop}
variable {cc : ByteArray} {pc nL index : Nat} {ls : Array Slot} {rest : List Value} {G : kx_G} {σ : kx_S} {own : String}
theorem xk_X11_lawInForce {P : Option Nat → kx_S → Prop} (F : CallFix p m c cc nL s args kt_ own) (C : kx_X G c0 s H locs σ) (l0 : Nat) (ha : xt σ l0 = 13) (h : wX11_lawInForce l0 σ P) (hw : Cond.methodLink own index yX11_lawInForce ∈ kt_) (h1 : (3) + 1 ≤ fr) (h2 : 8 + (5 + 11) + (64) ≤ lo) (hsz : ls.size = nL) (hW : (rest.map fun v => v.category).sum ≤ 8) (hdg : decode cc pc = .ok (.invokevirtual index, 3)) (kk : ∀ (r : Option Nat) (u : kx_S) (H1 : Heap) (locs1 : List Loc), P r u → kx_X G c0 s H1 locs1 u → kx_W p l e fr lo c0 s m args below meth c H1 locs1 u Q (F0 m (pc + 3) ls (va_rf r :: rest))) : kx_W p l e fr lo c0 s m args below meth c H locs σ Q (F0 m pc ls (.ref l0 :: rest)) :=
  kx_cV (n := 0) (As := []) (Cn := RX11) F C (hx_X11_lawInForce l G l0 σ P h) (kt_V hw ux_590 ux_591 ux_117 ux_589) (by decide +kernel) ⟨h1, h2⟩ (kx_recv C (by rw [ha]; decide) (kx_e13 ha) rfl) rfl hsz hW hdg (fun v u H1 locs1 hP9 C9 => by obtain ⟨r, hv, hp⟩ := hP9; subst hv; exact kk r u H1 locs1 hp C9)
end
theorem dX11_cut_0 : decode cX11_cut 0 = .ok (.aload_n 0, 1) := by decide +kernel
theorem dX11_cut_1 : decode cX11_cut 1 = .ok (.getfield 16, 3) := by decide +kernel
theorem dX11_cut_4 : decode cX11_cut 4 = .ok (.invokeinterface 59 1, 5) := by decide +kernel
theorem dX11_cut_9 : decode cX11_cut 9 = .ok (.sipush 400, 3) := by decide +kernel
theorem dX11_cut_12 : decode cX11_cut 12 = .ok (.if_icmp .ge 13, 3) := by decide +kernel
theorem dX11_cut_15 : decode cX11_cut 15 = .ok (.iload_n 1, 1) := by decide +kernel
theorem dX11_cut_16 : decode cX11_cut 16 = .ok (.iconst 0, 1) := by decide +kernel
theorem dX11_cut_17 : decode cX11_cut 17 = .ok (.bipush 15, 2) := by decide +kernel
theorem dX11_cut_19 : decode cX11_cut 19 = .ok (.invokestatic 65, 3) := by decide +kernel
theorem dX11_cut_22 : decode cX11_cut 22 = .ok (.ifCond .ne 5, 3) := by decide +kernel
theorem dX11_cut_25 : decode cX11_cut 25 = .ok (.iconst (-1), 1) := by decide +kernel
theorem dX11_cut_26 : decode cX11_cut 26 = .ok (.ireturn, 1) := by decide +kernel
theorem dX11_cut_27 : decode cX11_cut 27 = .ok (.iload_n 2, 1) := by decide +kernel
theorem dX11_cut_28 : decode cX11_cut 28 = .ok (.iconst 1, 1) := by decide +kernel
theorem dX11_cut_29 : decode cX11_cut 29 = .ok (.bipush 9, 2) := by decide +kernel
theorem dX11_cut_31 : decode cX11_cut 31 = .ok (.invokestatic 65, 3) := by decide +kernel
theorem dX11_cut_34 : decode cX11_cut 34 = .ok (.ifCond .eq 13, 3) := by decide +kernel
theorem dX11_cut_37 : decode cX11_cut 37 = .ok (.iload_n 3, 1) := by decide +kernel
theorem dX11_cut_38 : decode cX11_cut 38 = .ok (.iconst 0, 1) := by decide +kernel
theorem dX11_cut_39 : decode cX11_cut 39 = .ok (.ldc 186, 2) := by decide +kernel
theorem dX11_cut_41 : decode cX11_cut 41 = .ok (.invokestatic 65, 3) := by decide +kernel
theorem dX11_cut_44 : decode cX11_cut 44 = .ok (.ifCond .ne 5, 3) := by decide +kernel
theorem dX11_cut_47 : decode cX11_cut 47 = .ok (.iconst (-1), 1) := by decide +kernel
theorem dX11_cut_48 : decode cX11_cut 48 = .ok (.ireturn, 1) := by decide +kernel
theorem dX11_cut_49 : decode cX11_cut 49 = .ok (.new 187, 3) := by decide +kernel
theorem dX11_cut_52 : decode cX11_cut 52 = .ok (.dup, 1) := by decide +kernel
theorem dX11_cut_53 : decode cX11_cut 53 = .ok (.aload_n 0, 1) := by decide +kernel
theorem dX11_cut_54 : decode cX11_cut 54 = .ok (.getfield 16, 3) := by decide +kernel
theorem dX11_cut_57 : decode cX11_cut 57 = .ok (.invokeinterface 59 1, 5) := by decide +kernel
theorem dX11_cut_62 : decode cX11_cut 62 = .ok (.iload_n 1, 1) := by decide +kernel
theorem dX11_cut_63 : decode cX11_cut 63 = .ok (.iload_n 2, 1) := by decide +kernel
theorem dX11_cut_64 : decode cX11_cut 64 = .ok (.iload_n 3, 1) := by decide +kernel
theorem dX11_cut_65 : decode cX11_cut 65 = .ok (.invokespecial 189, 3) := by decide +kernel
theorem dX11_cut_68 : decode cX11_cut 68 = .ok (.astore 4, 2) := by decide +kernel
theorem dX11_cut_70 : decode cX11_cut 70 = .ok (.aload_n 0, 1) := by decide +kernel
theorem dX11_cut_71 : decode cX11_cut 71 = .ok (.getfield 16, 3) := by decide +kernel
theorem dX11_cut_74 : decode cX11_cut 74 = .ok (.aload 4, 2) := by decide +kernel
theorem dX11_cut_76 : decode cX11_cut 76 = .ok (.invokeinterface 86 2, 5) := by decide +kernel
theorem dX11_cut_81 : decode cX11_cut 81 = .ok (.pop, 1) := by decide +kernel
theorem dX11_cut_82 : decode cX11_cut 82 = .ok (.aload 4, 2) := by decide +kernel
theorem dX11_cut_84 : decode cX11_cut 84 = .ok (.getfield 192, 3) := by decide +kernel
theorem dX11_cut_87 : decode cX11_cut 87 = .ok (.ireturn, 1) := by decide +kernel
def wX11_cut (l0 : Nat) (l1 : Int32) (l2 : Int32) (l3 : Int32) (σ : kx_S) (Q : Int32 → kx_S → Prop) : Prop := xt σ l0 = 13 ∧ ∃ a2, xr σ 209 l0 = some a2 ∧ xt σ a2 = 1 ∧ wJx4a65c_size_8abf5 a2 σ (fun r5 σ4 => ((400 ≤ r5 → Q (-1) σ4) ∧
  (¬ (400 ≤ r5) → wX11_isWithin l1 0 15 σ4 (fun r9 σ8 => ((¬ r9 = 0 → wX11_isWithin l2 1 9 σ8 (fun r12 σ11 => ((r12 = 0 → Q (-1) σ11) ∧
      (¬ (r12 = 0) → wX11_isWithin l3 0 1000000 σ11 (fun r15 σ14 => ((¬ r15 = 0 → xc σ14 < kx_N ∧ ∀ p18, xt σ14 p18 = 0 → p18 ≠ xz σ14 → ∀ σ21, σ21 = xnew σ14 p18 8 → xt σ21 l0 = 13 ∧ ∃ a24, xr σ21 209 l0 = some a24 ∧ xt σ21 a24 = 1 ∧ wJx4a65c_size_8abf5 a24 σ21 (fun r27 σ26 => wX6_init p18 r27 l1 l2 l3 σ26 (fun σ29 => xt σ29 l0 = 13 ∧ ∃ a31, xr σ29 209 l0 = some a31 ∧ xt σ29 a31 = 1 ∧ wJx4a65c_add_9ea2d a31 p18 σ29 (fun r34 σ33 => xt σ33 p18 = 8 ∧ Q (xi σ33 128 p18) σ33)))) ∧
        (r15 = 0 → Q (-1) σ14))))))) ∧
    (r9 = 0 → Q (-1) σ8))))))
set_option maxRecDepth 100000 in
set_option maxHeartbeats 4000000 in
theorem hx_X11_cut (l : Launch) (G : kx_G) (l0 : Nat) (l1 : Int32) (l2 : Int32) (l3 : Int32) (σ : kx_S) (Q : Int32 → kx_S → Prop) (h : wX11_cut l0 l1 l2 l3 σ Q) : kx_M l G yX11_cut cX11_cut 5 (some .int) (7) (231) [.ref l0, .int l1, .int l2, .int l3] σ (kx_ri Q) := by
  refine kx_enter (by decide) rfl (Nat.le_of_ble_eq_true rfl) ?_
  intro p e s m below meth c ls F hr hlocks C hname hl
  have hl : lv_has ls 5 [(0, .ref l0), (1, .int l1), (2, .int l2), (3, .int l3)] := hl
  obtain ⟨H, eH⟩ : ∃ z9, z9 = s.heap := ⟨_, rfl⟩
  obtain ⟨locs, eL⟩ : ∃ z9 : List Loc, z9 = [] := ⟨_, rfl⟩
  rw [← eH, ← eL] at C
  rw [← eH, ← eL]
  obtain ⟨σ0, e0⟩ : ∃ z9, z9 = σ := ⟨_, rfl⟩
  have C : kx_X G (xc σ0) s H locs σ := by rw [e0]; exact C
  suffices hgo : kx_W p l e (7) (231) (xc σ0) s m ([.ref l0, .int l1, .int l2, .int l3] : List Value).toArray below meth c H locs σ (MQ below (kx_Q G σ0 (kx_ri Q)) ([.ref l0, .int l1, .int l2, .int l3] : List Value).toArray s (kx_N - xc σ0) (600 * (kx_N - xc σ0)) (kx_A G)) (F0 m 0 ls []) by rw [e0] at hgo; exact hgo
  clear e0
  refine lv_aload_n F.1 F.2.1 dX11_cut_0 rfl (lv_at hl 0 rfl) ?_
  obtain ⟨ht1, h⟩ := h
  refine xg_X11_logs F C ht1 ux_480 (fun _ h9 => h9) dX11_cut_1 ?_
  obtain ⟨a2, ea3, h⟩ := h
  refine xq_nn ea3 ?_
  obtain ⟨ht6, h⟩ := h
  refine xk_Jx4a65c_size_8abf5 F C a2 ht6 h ux_500 (Nat.le_of_ble_eq_true rfl) (Nat.le_of_ble_eq_true rfl) hl.1 (by simp [Value.category]) dX11_cut_4 (fun r5 σ4 H locs h C => ?_)
  refine lv_sipush (v := 400) F.1 F.2.1 dX11_cut_9 (by decide) ?_
  refine lv_icmp_ge (tgt := 25) F.1 F.2.1 dX11_cut_12 (by decide) (fun c7 => ?_) (fun c7 => ?_)
  · replace h := h.1 c7
    refine lv_iconst (v := (-1)) F.1 F.2.1 dX11_cut_25 (by decide) ?_
    exact kx_iret F C hr hlocks h dX11_cut_26
  · replace h := h.2 c7
    refine lv_iload_n F.1 F.2.1 dX11_cut_15 rfl (lv_at hl 1 rfl) ?_
    refine lv_iconst (v := 0) F.1 F.2.1 dX11_cut_16 (by decide) ?_
    refine lv_bipush (v := 15) F.1 F.2.1 dX11_cut_17 (by decide) ?_
    refine xk_X11_isWithin F C l1 0 15 h ux_501 (Nat.le_of_ble_eq_true rfl) (Nat.le_of_ble_eq_true rfl) hl.1 (by simp [Value.category]) dX11_cut_19 (fun r9 σ8 H locs h C => ?_)
    refine lv_if_ne (tgt := 27) F.1 F.2.1 dX11_cut_22 (by decide) (fun c10 => ?_) (fun c10 => ?_)
    · replace h := h.1 c10
      refine lv_iload_n F.1 F.2.1 dX11_cut_27 rfl (lv_at hl 2 rfl) ?_
      refine lv_iconst (v := 1) F.1 F.2.1 dX11_cut_28 (by decide) ?_
      refine lv_bipush (v := 9) F.1 F.2.1 dX11_cut_29 (by decide) ?_
      refine xk_X11_isWithin F C l2 1 9 h ux_501 (Nat.le_of_ble_eq_true rfl) (Nat.le_of_ble_eq_true rfl) hl.1 (by simp [Value.category]) dX11_cut_31 (fun r12 σ11 H locs h C => ?_)
      refine lv_if_eq (tgt := 47) F.1 F.2.1 dX11_cut_34 (by decide) (fun c13 => ?_) (fun c13 => ?_)
      · replace h := h.1 c13
        refine lv_iconst (v := (-1)) F.1 F.2.1 dX11_cut_47 (by decide) ?_
        exact kx_iret F C hr hlocks h dX11_cut_48
      · replace h := h.2 c13
        refine lv_iload_n F.1 F.2.1 dX11_cut_37 rfl (lv_at hl 3 rfl) ?_
        refine lv_iconst (v := 0) F.1 F.2.1 dX11_cut_38 (by decide) ?_
        refine lv_ldc (v := 1000000) F.1 F.2.1 F.2.2.2.1 (F.2.2.2.2 _ ux_592) dX11_cut_39 ?_
        refine xk_X11_isWithin F C l3 0 1000000 h ux_501 (Nat.le_of_ble_eq_true rfl) (Nat.le_of_ble_eq_true rfl) hl.1 (by simp [Value.category]) dX11_cut_41 (fun r15 σ14 H locs h C => ?_)
        refine lv_if_ne (tgt := 49) F.1 F.2.1 dX11_cut_44 (by decide) (fun c16 => ?_) (fun c16 => ?_)
        · replace h := h.1 c16
          obtain ⟨hn17, h⟩ := h
          refine xw_X6 F C hn17 ux_509 dX11_cut_49 (fun p18 H z19 z20 C => ?_)
          replace h := h p18 z19 (fun h9 => z20 (h9.trans (show xz σ14 = _ from C.2.1.1)))
          generalize eσ21 : xnew σ14 p18 8 = σ21 at C ⊢
          replace h := h σ21 eσ21.symm
          have ht22 : xt σ21 p18 = 8 := by rw [← eσ21]; exact va_up_self _ _ _
          refine lv_dup F.1 F.2.1 dX11_cut_52 rfl ?_
          refine lv_aload_n F.1 F.2.1 dX11_cut_53 rfl (lv_at hl 0 rfl) ?_
          obtain ⟨ht23, h⟩ := h
          refine xg_X11_logs F C ht23 ux_480 (fun _ h9 => h9) dX11_cut_54 ?_
          obtain ⟨a24, ea25, h⟩ := h
          refine xq_nn ea25 ?_
          obtain ⟨ht28, h⟩ := h
          refine xk_Jx4a65c_size_8abf5 F C a24 ht28 h ux_500 (Nat.le_of_ble_eq_true rfl) (Nat.le_of_ble_eq_true rfl) hl.1 (by simp [Value.category]) dX11_cut_57 (fun r27 σ26 H locs h C => ?_)
          refine lv_iload_n F.1 F.2.1 dX11_cut_62 rfl (lv_at hl 1 rfl) ?_
          refine lv_iload_n F.1 F.2.1 dX11_cut_63 rfl (lv_at hl 2 rfl) ?_
          refine lv_iload_n F.1 F.2.1 dX11_cut_64 rfl (lv_at hl 3 rfl) ?_
          refine xk_X6_init F C p18 r27 l1 l2 l3 h ux_593 (Nat.le_of_ble_eq_true rfl) (Nat.le_of_ble_eq_true rfl) hl.1 (by simp [Value.category]) dX11_cut_65 (fun σ29 H locs h C => ?_)
          refine lv_astore (lv' := [(4, .ref p18), (0, .ref l0), (1, .int l1), (2, .int l2), (3, .int l3)]) F.1 F.2.1 dX11_cut_68 hl (by decide) rfl (fun ls hl => ?_)
          refine lv_aload_n F.1 F.2.1 dX11_cut_70 rfl (lv_at hl 1 rfl) ?_
          obtain ⟨ht30, h⟩ := h
          refine xg_X11_logs F C ht30 ux_480 (fun _ h9 => h9) dX11_cut_71 ?_
          obtain ⟨a31, ea32, h⟩ := h
          refine xq_nn ea32 ?_
          refine lv_aload F.1 F.2.1 dX11_cut_74 (lv_at hl 0 rfl) ?_
          obtain ⟨ht35, h⟩ := h
          refine xk_Jx4a65c_add_9ea2d F C a31 p18 ht35 h ux_519 (Nat.le_of_ble_eq_true rfl) (Nat.le_of_ble_eq_true rfl) hl.1 (by simp [Value.category]) dX11_cut_76 (fun r34 σ33 H locs h C => ?_)
          refine lv_pop F.1 F.2.1 dX11_cut_81 rfl ?_
          refine lv_aload F.1 F.2.1 dX11_cut_82 (lv_at hl 0 rfl) ?_
          obtain ⟨ht36, h⟩ := h
          refine xg_X6_number F C ht36 ux_516 (fun _ h9 => h9) dX11_cut_84 ?_
          exact kx_iret F C hr hlocks h dX11_cut_87
        · replace h := h.2 c16
          refine lv_iconst (v := (-1)) F.1 F.2.1 dX11_cut_47 (by decide) ?_
          exact kx_iret F C hr hlocks h dX11_cut_48
    · replace h := h.2 c10
      refine lv_iconst (v := (-1)) F.1 F.2.1 dX11_cut_25 (by decide) ?_
      exact kx_iret F C hr hlocks h dX11_cut_26
section
variable {p : Program} {l : Launch} {e : Env} {fr lo c0 : Nat} {s : State} {m : MethodId} {args : Array Value} {below : List Frame} {meth : Method} {c : Code} {H : Heap} {locs : List Loc} {Q : State → Prop}
variable {cc : ByteArray} {pc nL index : Nat} {ls : Array Slot} {rest : List Value} {G : kx_G} {σ : kx_S} {own : String}
theorem xk_X11_cut {P : Int32 → kx_S → Prop} (F : CallFix p m c cc nL s args kt_ own) (C : kx_X G c0 s H locs σ) (l0 : Nat) (l1 : Int32) (l2 : Int32) (l3 : Int32) (ha : xt σ l0 = 13) (h : wX11_cut l0 l1 l2 l3 σ P) (hw : Cond.methodLink own index yX11_cut ∈ kt_) (h1 : (7) + 1 ≤ fr) (h2 : 8 + (5 + 11) + (231) ≤ lo) (hsz : ls.size = nL) (hW : (rest.map fun v => v.category).sum ≤ 8) (hdg : decode cc pc = .ok (.invokevirtual index, 3)) (kk : ∀ (r : Int32) (u : kx_S) (H1 : Heap) (locs1 : List Loc), P r u → kx_X G c0 s H1 locs1 u → kx_W p l e fr lo c0 s m args below meth c H1 locs1 u Q (F0 m (pc + 3) ls (.int r :: rest))) : kx_W p l e fr lo c0 s m args below meth c H locs σ Q (F0 m pc ls (.int l3 :: .int l2 :: .int l1 :: .ref l0 :: rest)) :=
  kx_cV (n := 3) (As := [.int l1, .int l2, .int l3]) (Cn := RX11) F C (hx_X11_cut l G l0 l1 l2 l3 σ P h) (kt_V hw ux_595 ux_596 ux_117 ux_594) (by decide +kernel) ⟨h1, h2⟩ (kx_recv C (by rw [ha]; decide) (kx_e13 ha) rfl) rfl hsz hW hdg (fun v u H1 locs1 hP9 C9 => by obtain ⟨r, hv, hp⟩ := hP9; subst hv; exact kk r u H1 locs1 hp C9)
end
theorem dX11_let_0 : decode cX11_let 0 = .ok (.aload_n 0, 1) := by decide +kernel
theorem dX11_let_1 : decode cX11_let 1 = .ok (.iload_n 1, 1) := by decide +kernel
theorem dX11_let_2 : decode cX11_let 2 = .ok (.invokevirtual 193, 3) := by decide +kernel
theorem dX11_let_5 : decode cX11_let 5 = .ok (.astore 4, 2) := by decide +kernel
theorem dX11_let_7 : decode cX11_let 7 = .ok (.aload_n 0, 1) := by decide +kernel
theorem dX11_let_8 : decode cX11_let 8 = .ok (.iload_n 2, 1) := by decide +kernel
theorem dX11_let_9 : decode cX11_let 9 = .ok (.invokevirtual 93, 3) := by decide +kernel
theorem dX11_let_12 : decode cX11_let 12 = .ok (.astore 5, 2) := by decide +kernel
theorem dX11_let_14 : decode cX11_let 14 = .ok (.aload 5, 2) := by decide +kernel
theorem dX11_let_16 : decode cX11_let 16 = .ok (.iload_n 3, 1) := by decide +kernel
theorem dX11_let_17 : decode cX11_let 17 = .ok (.invokestatic 197, 3) := by decide +kernel
theorem dX11_let_20 : decode cX11_let 20 = .ok (.aload 4, 2) := by decide +kernel
theorem dX11_let_22 : decode cX11_let 22 = .ok (.getfield 200, 3) := by decide +kernel
theorem dX11_let_25 : decode cX11_let 25 = .ok (.ifCond .eq 5, 3) := by decide +kernel
theorem dX11_let_28 : decode cX11_let 28 = .ok (.iconst 1, 1) := by decide +kernel
theorem dX11_let_29 : decode cX11_let 29 = .ok (.ireturn, 1) := by decide +kernel
theorem dX11_let_30 : decode cX11_let 30 = .ok (.aload_n 0, 1) := by decide +kernel
theorem dX11_let_31 : decode cX11_let 31 = .ok (.getfield 47, 3) := by decide +kernel
theorem dX11_let_34 : decode cX11_let 34 = .ok (.aload_n 0, 1) := by decide +kernel
theorem dX11_let_35 : decode cX11_let 35 = .ok (.invokevirtual 203, 3) := by decide +kernel
theorem dX11_let_38 : decode cX11_let 38 = .ok (.aload 4, 2) := by decide +kernel
theorem dX11_let_40 : decode cX11_let 40 = .ok (.iload_n 2, 1) := by decide +kernel
theorem dX11_let_41 : decode cX11_let 41 = .ok (.aload_n 0, 1) := by decide +kernel
theorem dX11_let_42 : decode cX11_let 42 = .ok (.getfield 136, 3) := by decide +kernel
theorem dX11_let_45 : decode cX11_let 45 = .ok (.invokevirtual 207, 3) := by decide +kernel
theorem dX11_let_48 : decode cX11_let 48 = .ok (.aload_n 0, 1) := by decide +kernel
theorem dX11_let_49 : decode cX11_let 49 = .ok (.getfield 47, 3) := by decide +kernel
theorem dX11_let_52 : decode cX11_let 52 = .ok (.getfield 211, 3) := by decide +kernel
theorem dX11_let_55 : decode cX11_let 55 = .ok (.ifCond .eq 5, 3) := by decide +kernel
theorem dX11_let_58 : decode cX11_let 58 = .ok (.iconst 2, 1) := by decide +kernel
theorem dX11_let_59 : decode cX11_let 59 = .ok (.ireturn, 1) := by decide +kernel
theorem dX11_let_60 : decode cX11_let 60 = .ok (.aload 5, 2) := by decide +kernel
theorem dX11_let_62 : decode cX11_let 62 = .ok (.aload 4, 2) := by decide +kernel
theorem dX11_let_64 : decode cX11_let 64 = .ok (.iload_n 3, 1) := by decide +kernel
theorem dX11_let_65 : decode cX11_let 65 = .ok (.invokevirtual 214, 3) := by decide +kernel
theorem dX11_let_68 : decode cX11_let 68 = .ok (.ifCond .eq 7, 3) := by decide +kernel
theorem dX11_let_71 : decode cX11_let 71 = .ok (.iconst 0, 1) := by decide +kernel
theorem dX11_let_72 : decode cX11_let 72 = .ok (.goto 4, 3) := by decide +kernel
theorem dX11_let_75 : decode cX11_let 75 = .ok (.iconst 3, 1) := by decide +kernel
theorem dX11_let_76 : decode cX11_let 76 = .ok (.ireturn, 1) := by decide +kernel
def wX11_let (l0 : Nat) (l1 : Int32) (l2 : Int32) (l3 : Int32) (σ : kx_S) (Q : Int32 → kx_S → Prop) (QX : String → kx_S → Prop) : Prop := xt σ l0 = 13 ∧ wX11_logAt l0 l1 σ (fun b2 σ1 => xt σ1 l0 = 13 ∧ wX11_reachAt l0 l2 σ1 (fun b5 σ4 => wX11_checkCell b5 l3 σ4 (fun σ7 => xt σ7 b2 = 8 ∧ (((xi σ7 132 b2) = 0 → xt σ7 l0 = 13 ∧ ∃ a11, xr σ7 215 l0 = some a11 ∧ wX11_lawInForce l0 σ7 (fun q14 σ13 => xt σ13 l0 = 13 ∧ xt σ13 a11 = 5 ∧ wX3_weigh a11 q14 b2 l2 (xi σ13 217 l0) σ13 (fun σ16 => xt σ16 l0 = 13 ∧ ∃ a19, xr σ16 215 l0 = some a19 ∧ xt σ16 a19 = 5 ∧ (((xi σ16 83 a19) = 0 → xt σ16 b5 = 10 ∧ wX8_takes b5 b2 l3 σ16 (fun r24 σ23 => ((r24 = 0 → Q 3 σ23) ∧
      (¬ (r24 = 0) → Q 0 σ23)))) ∧
    (¬ ((xi σ16 83 a19) = 0) → Q 2 σ16))))) ∧
  (¬ ((xi σ7 132 b2) = 0) → Q 1 σ7))) QX) QX) QX
set_option maxRecDepth 100000 in
set_option maxHeartbeats 4000000 in
theorem hx_X11_let (l : Launch) (hlt : l.stackTraces = false) (G : kx_G) (l0 : Nat) (l1 : Int32) (l2 : Int32) (l3 : Int32) (σ : kx_S) (Q : Int32 → kx_S → Prop) (QX : String → kx_S → Prop) (h : wX11_let l0 l1 l2 l3 σ Q QX) : kx_MX l G yX11_let cX11_let 6 (some .int) (8) (253) [.ref l0, .int l1, .int l2, .int l3] σ (kx_ri Q) QX := by
  refine kx_enterX (by decide) rfl (Nat.le_of_ble_eq_true rfl) ?_
  intro p e s m below meth c ls F hr hlocks C hout hl
  have hl : lv_has ls 6 [(0, .ref l0), (1, .int l1), (2, .int l2), (3, .int l3)] := hl
  obtain ⟨H, eH⟩ : ∃ z9, z9 = s.heap := ⟨_, rfl⟩
  obtain ⟨locs, eL⟩ : ∃ z9 : List Loc, z9 = [] := ⟨_, rfl⟩
  rw [← eH, ← eL] at C
  rw [← eH, ← eL]
  obtain ⟨σ0, e0⟩ : ∃ z9, z9 = σ := ⟨_, rfl⟩
  have C : kx_X G (xc σ0) s H locs σ := by rw [e0]; exact C
  suffices hgo : kx_W p l e (8) (253) (xc σ0) s m ([.ref l0, .int l1, .int l2, .int l3] : List Value).toArray below meth c H locs σ (vx_MQ below (kx_Q G σ0 (kx_ri Q)) (kx_XC G σ0 QX) ([.ref l0, .int l1, .int l2, .int l3] : List Value).toArray s (kx_N - xc σ0) (600 * (kx_N - xc σ0)) (kx_A G)) (F0 m 0 ls []) by rw [e0] at hgo; exact hgo
  clear e0
  refine lv_aload_n F.1 F.2.1 dX11_let_0 rfl (lv_at hl 0 rfl) ?_
  refine lv_iload_n F.1 F.2.1 dX11_let_1 rfl (lv_at hl 1 rfl) ?_
  obtain ⟨ht3, h⟩ := h
  refine xk_X11_logAt hlt F C l0 l1 ht3 h ux_597 (Nat.le_of_ble_eq_true rfl) (Nat.le_of_ble_eq_true rfl) hl.1 (by simp [Value.category]) dX11_let_2 (fun E9 ce9 q9 σ1 H locs h C hce hcv hcl => kx_out C h hce hcv hcl hout hlocks) (fun b2 σ1 H locs h C => ?_)
  refine lv_astore (lv' := [(4, .ref b2), (0, .ref l0), (1, .int l1), (2, .int l2), (3, .int l3)]) F.1 F.2.1 dX11_let_5 hl (by decide) rfl (fun ls hl => ?_)
  refine lv_aload_n F.1 F.2.1 dX11_let_7 rfl (lv_at hl 1 rfl) ?_
  refine lv_iload_n F.1 F.2.1 dX11_let_8 rfl (lv_at hl 3 rfl) ?_
  obtain ⟨ht6, h⟩ := h
  refine xk_X11_reachAt hlt F C l0 l2 ht6 h ux_527 (Nat.le_of_ble_eq_true rfl) (Nat.le_of_ble_eq_true rfl) hl.1 (by simp [Value.category]) dX11_let_9 (fun E9 ce9 q9 σ4 H locs h C hce hcv hcl => kx_out C h hce hcv hcl hout hlocks) (fun b5 σ4 H locs h C => ?_)
  refine lv_astore (lv' := [(5, .ref b5), (4, .ref b2), (0, .ref l0), (1, .int l1), (2, .int l2), (3, .int l3)]) F.1 F.2.1 dX11_let_12 hl (by decide) rfl (fun ls hl => ?_)
  refine lv_aload F.1 F.2.1 dX11_let_14 (lv_at hl 0 rfl) ?_
  refine lv_iload_n F.1 F.2.1 dX11_let_16 rfl (lv_at hl 5 rfl) ?_
  refine xk_X11_checkCell hlt F C b5 l3 h ux_598 (Nat.le_of_ble_eq_true rfl) (Nat.le_of_ble_eq_true rfl) hl.1 (by simp [Value.category]) dX11_let_17 (fun E9 ce9 q9 σ7 H locs h C hce hcv hcl => kx_out C h hce hcv hcl hout hlocks) (fun σ7 H locs h C => ?_)
  refine lv_aload F.1 F.2.1 dX11_let_20 (lv_at hl 1 rfl) ?_
  obtain ⟨ht8, h⟩ := h
  refine xg_X6_place F C ht8 ux_599 (fun _ h9 => h9) dX11_let_22 ?_
  refine lv_if_eq (tgt := 30) F.1 F.2.1 dX11_let_25 (by decide) (fun c9 => ?_) (fun c9 => ?_)
  · replace h := h.1 c9
    refine lv_aload_n F.1 F.2.1 dX11_let_30 rfl (lv_at hl 2 rfl) ?_
    obtain ⟨ht10, h⟩ := h
    refine xg_X11_judge F C ht10 ux_492 (fun _ h9 => h9) dX11_let_31 ?_
    obtain ⟨a11, ea12, h⟩ := h
    refine xq_nn ea12 ?_
    refine lv_aload_n F.1 F.2.1 dX11_let_34 rfl (lv_at hl 2 rfl) ?_
    refine xk_X11_lawInForce F C l0 ht10 h ux_600 (Nat.le_of_ble_eq_true rfl) (Nat.le_of_ble_eq_true rfl) hl.1 (by simp [Value.category]) dX11_let_35 (fun q14 σ13 H locs h C => ?_)
    refine lv_aload F.1 F.2.1 dX11_let_38 (lv_at hl 1 rfl) ?_
    refine lv_iload_n F.1 F.2.1 dX11_let_40 rfl (lv_at hl 4 rfl) ?_
    refine lv_aload_n F.1 F.2.1 dX11_let_41 rfl (lv_at hl 2 rfl) ?_
    obtain ⟨ht15, h⟩ := h
    refine xg_X11_hour F C ht15 ux_556 (fun _ h9 => h9) dX11_let_42 ?_
    obtain ⟨ht17, h⟩ := h
    refine xk_X3_weigh F C a11 q14 b2 l2 (xi σ13 217 l0) ht17 h ux_601 (Nat.le_of_ble_eq_true rfl) (Nat.le_of_ble_eq_true rfl) hl.1 (by simp [Value.category]) dX11_let_45 (fun σ16 H locs h C => ?_)
    refine lv_aload_n F.1 F.2.1 dX11_let_48 rfl (lv_at hl 2 rfl) ?_
    obtain ⟨ht18, h⟩ := h
    refine xg_X11_judge F C ht18 ux_492 (fun _ h9 => h9) dX11_let_49 ?_
    obtain ⟨a19, ea20, h⟩ := h
    refine xq_nn ea20 ?_
    obtain ⟨ht21, h⟩ := h
    refine xg_X3_barred F C ht21 ux_602 (fun _ h9 => h9) dX11_let_52 ?_
    refine lv_if_eq (tgt := 60) F.1 F.2.1 dX11_let_55 (by decide) (fun c22 => ?_) (fun c22 => ?_)
    · replace h := h.1 c22
      refine lv_aload F.1 F.2.1 dX11_let_60 (lv_at hl 0 rfl) ?_
      refine lv_aload F.1 F.2.1 dX11_let_62 (lv_at hl 1 rfl) ?_
      refine lv_iload_n F.1 F.2.1 dX11_let_64 rfl (lv_at hl 5 rfl) ?_
      obtain ⟨ht25, h⟩ := h
      refine xk_X8_takes F C b5 b2 l3 ht25 h ux_603 (Nat.le_of_ble_eq_true rfl) (Nat.le_of_ble_eq_true rfl) hl.1 (by simp [Value.category]) dX11_let_65 (fun r24 σ23 H locs h C => ?_)
      refine lv_if_eq (tgt := 75) F.1 F.2.1 dX11_let_68 (by decide) (fun c26 => ?_) (fun c26 => ?_)
      · replace h := h.1 c26
        refine lv_iconst (v := 3) F.1 F.2.1 dX11_let_75 (by decide) ?_
        refine vx_ret ?_
        exact kx_iret F C hr hlocks h dX11_let_76
      · replace h := h.2 c26
        refine lv_iconst (v := 0) F.1 F.2.1 dX11_let_71 (by decide) ?_
        refine lv_goto (tgt := 76) F.1 F.2.1 dX11_let_72 (by decide) ?_
        refine vx_ret ?_
        exact kx_iret F C hr hlocks h dX11_let_76
    · replace h := h.2 c22
      refine lv_iconst (v := 2) F.1 F.2.1 dX11_let_58 (by decide) ?_
      refine vx_ret ?_
      exact kx_iret F C hr hlocks h dX11_let_59
  · replace h := h.2 c9
    refine lv_iconst (v := 1) F.1 F.2.1 dX11_let_28 (by decide) ?_
    refine vx_ret ?_
    exact kx_iret F C hr hlocks h dX11_let_29
section
variable {p : Program} {l : Launch} {e : Env} {fr lo c0 : Nat} {s : State} {m : MethodId} {args : Array Value} {below : List Frame} {meth : Method} {c : Code} {H : Heap} {locs : List Loc} {Q : State → Prop}
variable {cc : ByteArray} {pc nL index : Nat} {ls : Array Slot} {rest : List Value} {G : kx_G} {σ : kx_S} {own : String}
theorem xk_X11_let {P : Int32 → kx_S → Prop} {PX : String → kx_S → Prop} (hlt : l.stackTraces = false) (F : CallFix p m c cc nL s args kt_ own) (C : kx_X G c0 s H locs σ) (l0 : Nat) (l1 : Int32) (l2 : Int32) (l3 : Int32) (ha : xt σ l0 = 13) (h : wX11_let l0 l1 l2 l3 σ P PX) (hw : Cond.methodLink own index yX11_let ∈ kt_) (h1 : (8) + 1 ≤ fr) (h2 : 8 + (6 + 11) + (253) ≤ lo) (hsz : ls.size = nL) (hW : (rest.map fun v => v.category).sum ≤ 8) (hdg : decode cc pc = .ok (.invokevirtual index, 3)) (kx : ∀ (E : String) (ce : Cell) (q9 : Addr) (u : kx_S) (H1 : Heap) (locs1 : List Loc), PX E u → kx_X G c0 s H1 locs1 u → H1[q9]? = some ce → ce.vm = .none → s.vm.findClass E = some ce.cls → vx_W p l e (kx_rm fr lo c0) s m args below meth c H1 locs1 (xc u - c0) (600 * (xc u - c0)) Q (F0 m pc ls rest) q9) (kk : ∀ (r : Int32) (u : kx_S) (H1 : Heap) (locs1 : List Loc), P r u → kx_X G c0 s H1 locs1 u → kx_W p l e fr lo c0 s m args below meth c H1 locs1 u Q (F0 m (pc + 3) ls (.int r :: rest))) : kx_W p l e fr lo c0 s m args below meth c H locs σ Q (F0 m pc ls (.int l3 :: .int l2 :: .int l1 :: .ref l0 :: rest)) :=
  kx_cVX (n := 3) (As := [.int l1, .int l2, .int l3]) (Cn := RX11) F C (hx_X11_let l hlt G l0 l1 l2 l3 σ P PX h) (kt_V hw ux_605 ux_606 ux_117 ux_604) (by decide +kernel) ⟨h1, h2⟩ (kx_recv C (by rw [ha]; decide) (kx_e13 ha) rfl) rfl hsz hW hdg kx (fun v u H1 locs1 hP9 C9 => by obtain ⟨r, hv, hp⟩ := hP9; subst hv; exact kk r u H1 locs1 hp C9)
end
theorem dX11_order_0 : decode cX11_order 0 = .ok (.aload_n 0, 1) := by decide +kernel
theorem dX11_order_1 : decode cX11_order 1 = .ok (.iload_n 1, 1) := by decide +kernel
theorem dX11_order_2 : decode cX11_order 2 = .ok (.invokevirtual 93, 3) := by decide +kernel
theorem dX11_order_5 : decode cX11_order 5 = .ok (.astore 5, 2) := by decide +kernel
theorem dX11_order_7 : decode cX11_order 7 = .ok (.aload 5, 2) := by decide +kernel
theorem dX11_order_9 : decode cX11_order 9 = .ok (.getfield 111, 3) := by decide +kernel
theorem dX11_order_12 : decode cX11_order 12 = .ok (.ifnull 17, 3) := by decide +kernel
theorem dX11_order_15 : decode cX11_order 15 = .ok (.aload_n 0, 1) := by decide +kernel
theorem dX11_order_16 : decode cX11_order 16 = .ok (.getfield 25, 3) := by decide +kernel
theorem dX11_order_19 : decode cX11_order 19 = .ok (.invokeinterface 59 1, 5) := by decide +kernel
theorem dX11_order_24 : decode cX11_order 24 = .ok (.bipush 60, 2) := by decide +kernel
theorem dX11_order_26 : decode cX11_order 26 = .ok (.if_icmp .lt 5, 3) := by decide +kernel
theorem dX11_order_29 : decode cX11_order 29 = .ok (.iconst (-1), 1) := by decide +kernel
theorem dX11_order_30 : decode cX11_order 30 = .ok (.ireturn, 1) := by decide +kernel
theorem dX11_order_31 : decode cX11_order 31 = .ok (.iload_n 2, 1) := by decide +kernel
theorem dX11_order_32 : decode cX11_order 32 = .ok (.iconst 0, 1) := by decide +kernel
theorem dX11_order_33 : decode cX11_order 33 = .ok (.bipush 15, 2) := by decide +kernel
theorem dX11_order_35 : decode cX11_order 35 = .ok (.invokestatic 65, 3) := by decide +kernel
theorem dX11_order_38 : decode cX11_order 38 = .ok (.ifCond .eq 24, 3) := by decide +kernel
theorem dX11_order_41 : decode cX11_order 41 = .ok (.iload_n 3, 1) := by decide +kernel
theorem dX11_order_42 : decode cX11_order 42 = .ok (.iconst 1, 1) := by decide +kernel
theorem dX11_order_43 : decode cX11_order 43 = .ok (.bipush 9, 2) := by decide +kernel
theorem dX11_order_45 : decode cX11_order 45 = .ok (.invokestatic 65, 3) := by decide +kernel
theorem dX11_order_48 : decode cX11_order 48 = .ok (.ifCond .eq 14, 3) := by decide +kernel
theorem dX11_order_51 : decode cX11_order 51 = .ok (.iload 4, 2) := by decide +kernel
theorem dX11_order_53 : decode cX11_order 53 = .ok (.iconst 1, 1) := by decide +kernel
theorem dX11_order_54 : decode cX11_order 54 = .ok (.bipush 100, 2) := by decide +kernel
theorem dX11_order_56 : decode cX11_order 56 = .ok (.invokestatic 65, 3) := by decide +kernel
theorem dX11_order_59 : decode cX11_order 59 = .ok (.ifCond .ne 5, 3) := by decide +kernel
theorem dX11_order_62 : decode cX11_order 62 = .ok (.iconst (-1), 1) := by decide +kernel
theorem dX11_order_63 : decode cX11_order 63 = .ok (.ireturn, 1) := by decide +kernel
theorem dX11_order_64 : decode cX11_order 64 = .ok (.new 218, 3) := by decide +kernel
theorem dX11_order_67 : decode cX11_order 67 = .ok (.dup, 1) := by decide +kernel
theorem dX11_order_68 : decode cX11_order 68 = .ok (.iload_n 2, 1) := by decide +kernel
theorem dX11_order_69 : decode cX11_order 69 = .ok (.iload_n 3, 1) := by decide +kernel
theorem dX11_order_70 : decode cX11_order 70 = .ok (.iload 4, 2) := by decide +kernel
theorem dX11_order_72 : decode cX11_order 72 = .ok (.invokespecial 220, 3) := by decide +kernel
theorem dX11_order_75 : decode cX11_order 75 = .ok (.astore 6, 2) := by decide +kernel
theorem dX11_order_77 : decode cX11_order 77 = .ok (.aload_n 0, 1) := by decide +kernel
theorem dX11_order_78 : decode cX11_order 78 = .ok (.getfield 25, 3) := by decide +kernel
theorem dX11_order_81 : decode cX11_order 81 = .ok (.aload 6, 2) := by decide +kernel
theorem dX11_order_83 : decode cX11_order 83 = .ok (.invokeinterface 86 2, 5) := by decide +kernel
theorem dX11_order_88 : decode cX11_order 88 = .ok (.pop, 1) := by decide +kernel
theorem dX11_order_89 : decode cX11_order 89 = .ok (.aload 5, 2) := by decide +kernel
theorem dX11_order_91 : decode cX11_order 91 = .ok (.getfield 111, 3) := by decide +kernel
theorem dX11_order_94 : decode cX11_order 94 = .ok (.getfield 223, 3) := by decide +kernel
theorem dX11_order_97 : decode cX11_order 97 = .ok (.aload 6, 2) := by decide +kernel
theorem dX11_order_99 : decode cX11_order 99 = .ok (.invokeinterface 86 2, 5) := by decide +kernel
theorem dX11_order_104 : decode cX11_order 104 = .ok (.pop, 1) := by decide +kernel
theorem dX11_order_105 : decode cX11_order 105 = .ok (.aload_n 0, 1) := by decide +kernel
theorem dX11_order_106 : decode cX11_order 106 = .ok (.getfield 25, 3) := by decide +kernel
theorem dX11_order_109 : decode cX11_order 109 = .ok (.invokeinterface 59 1, 5) := by decide +kernel
theorem dX11_order_114 : decode cX11_order 114 = .ok (.iconst 1, 1) := by decide +kernel
theorem dX11_order_115 : decode cX11_order 115 = .ok (.isub, 1) := by decide +kernel
theorem dX11_order_116 : decode cX11_order 116 = .ok (.ireturn, 1) := by decide +kernel
def wX11_order (l0 : Nat) (l1 : Int32) (l2 : Int32) (l3 : Int32) (l4 : Int32) (σ : kx_S) (Q : Int32 → kx_S → Prop) (QX : String → kx_S → Prop) : Prop := xt σ l0 = 13 ∧ wX11_reachAt l0 l1 σ (fun b2 σ1 => xt σ1 b2 = 10 ∧ ((xr σ1 172 b2 = none → Q (-1) σ1) ∧
  (∀ a6, xr σ1 172 b2 = some a6 → xt σ1 l0 = 13 ∧ ∃ a8, xr σ1 212 l0 = some a8 ∧ xt σ1 a8 = 1 ∧ wJx4a65c_size_8abf5 a8 σ1 (fun r11 σ10 => ((r11 < 60 → wX11_isWithin l2 0 15 σ10 (fun r15 σ14 => ((r15 = 0 → Q (-1) σ14) ∧
      (¬ (r15 = 0) → wX11_isWithin l3 1 9 σ14 (fun r18 σ17 => ((r18 = 0 → Q (-1) σ17) ∧
        (¬ (r18 = 0) → wX11_isWithin l4 1 100 σ17 (fun r21 σ20 => ((¬ r21 = 0 → xc σ20 < kx_N ∧ ∀ p24, xt σ20 p24 = 0 → p24 ≠ xz σ20 → ∀ σ27, σ27 = xnew σ20 p24 9 → wX7_init p24 l2 l3 l4 σ27 (fun σ29 => xt σ29 l0 = 13 ∧ ∃ a31, xr σ29 212 l0 = some a31 ∧ xt σ29 a31 = 1 ∧ wJx4a65c_add_9ea2d a31 p24 σ29 (fun r34 σ33 => xt σ33 b2 = 10 ∧ ∃ a37, xr σ33 172 b2 = some a37 ∧ xt σ33 a37 = 2 ∧ ∃ a40, xr σ33 33 a37 = some a40 ∧ xt σ33 a40 = 1 ∧ wJx4a65c_add_9ea2d a40 p24 σ33 (fun r43 σ42 => xt σ42 l0 = 13 ∧ ∃ a46, xr σ42 212 l0 = some a46 ∧ xt σ42 a46 = 1 ∧ wJx4a65c_size_8abf5 a46 σ42 (fun r49 σ48 => Q (r49 - 1) σ48))))) ∧
          (r21 = 0 → Q (-1) σ20)))))))))) ∧
    (¬ (r11 < 60) → Q (-1) σ10)))))) QX
set_option maxRecDepth 100000 in
set_option maxHeartbeats 4000000 in
theorem hx_X11_order (l : Launch) (hlt : l.stackTraces = false) (G : kx_G) (l0 : Nat) (l1 : Int32) (l2 : Int32) (l3 : Int32) (l4 : Int32) (σ : kx_S) (Q : Int32 → kx_S → Prop) (QX : String → kx_S → Prop) (h : wX11_order l0 l1 l2 l3 l4 σ Q QX) : kx_MX l G yX11_order cX11_order 7 (some .int) (7) (231) [.ref l0, .int l1, .int l2, .int l3, .int l4] σ (kx_ri Q) QX := by
  refine kx_enterX (by decide) rfl (Nat.le_of_ble_eq_true rfl) ?_
  intro p e s m below meth c ls F hr hlocks C hout hl
  have hl : lv_has ls 7 [(0, .ref l0), (1, .int l1), (2, .int l2), (3, .int l3), (4, .int l4)] := hl
  obtain ⟨H, eH⟩ : ∃ z9, z9 = s.heap := ⟨_, rfl⟩
  obtain ⟨locs, eL⟩ : ∃ z9 : List Loc, z9 = [] := ⟨_, rfl⟩
  rw [← eH, ← eL] at C
  rw [← eH, ← eL]
  obtain ⟨σ0, e0⟩ : ∃ z9, z9 = σ := ⟨_, rfl⟩
  have C : kx_X G (xc σ0) s H locs σ := by rw [e0]; exact C
  suffices hgo : kx_W p l e (7) (231) (xc σ0) s m ([.ref l0, .int l1, .int l2, .int l3, .int l4] : List Value).toArray below meth c H locs σ (vx_MQ below (kx_Q G σ0 (kx_ri Q)) (kx_XC G σ0 QX) ([.ref l0, .int l1, .int l2, .int l3, .int l4] : List Value).toArray s (kx_N - xc σ0) (600 * (kx_N - xc σ0)) (kx_A G)) (F0 m 0 ls []) by rw [e0] at hgo; exact hgo
  clear e0
  refine lv_aload_n F.1 F.2.1 dX11_order_0 rfl (lv_at hl 0 rfl) ?_
  refine lv_iload_n F.1 F.2.1 dX11_order_1 rfl (lv_at hl 1 rfl) ?_
  obtain ⟨ht3, h⟩ := h
  refine xk_X11_reachAt hlt F C l0 l1 ht3 h ux_527 (Nat.le_of_ble_eq_true rfl) (Nat.le_of_ble_eq_true rfl) hl.1 (by simp [Value.category]) dX11_order_2 (fun E9 ce9 q9 σ1 H locs h C hce hcv hcl => kx_out C h hce hcv hcl hout hlocks) (fun b2 σ1 H locs h C => ?_)
  refine lv_astore (lv' := [(5, .ref b2), (0, .ref l0), (1, .int l1), (2, .int l2), (3, .int l3), (4, .int l4)]) F.1 F.2.1 dX11_order_5 hl (by decide) rfl (fun ls hl => ?_)
  refine lv_aload F.1 F.2.1 dX11_order_7 (lv_at hl 0 rfl) ?_
  obtain ⟨ht4, h⟩ := h
  refine xg_X8_boom F C ht4 ux_542 (fun _ h9 => h9) dX11_order_9 ?_
  refine xq_ifnull (tgt := 29) F.1 F.2.1 dX11_order_12 (by decide) (fun c5 => ?_) (fun a6 c5 => ?_)
  · replace h := h.1 c5
    refine lv_iconst (v := (-1)) F.1 F.2.1 dX11_order_29 (by decide) ?_
    refine vx_ret ?_
    exact kx_iret F C hr hlocks h dX11_order_30
  · replace h := h.2 a6 c5
    refine lv_aload_n F.1 F.2.1 dX11_order_15 rfl (lv_at hl 1 rfl) ?_
    obtain ⟨ht7, h⟩ := h
    refine xg_X11_orders F C ht7 ux_483 (fun _ h9 => h9) dX11_order_16 ?_
    obtain ⟨a8, ea9, h⟩ := h
    refine xq_nn ea9 ?_
    obtain ⟨ht12, h⟩ := h
    refine xk_Jx4a65c_size_8abf5 F C a8 ht12 h ux_500 (Nat.le_of_ble_eq_true rfl) (Nat.le_of_ble_eq_true rfl) hl.1 (by simp [Value.category]) dX11_order_19 (fun r11 σ10 H locs h C => ?_)
    refine lv_bipush (v := 60) F.1 F.2.1 dX11_order_24 (by decide) ?_
    refine lv_icmp_lt (tgt := 31) F.1 F.2.1 dX11_order_26 (by decide) (fun c13 => ?_) (fun c13 => ?_)
    · replace h := h.1 c13
      refine lv_iload_n F.1 F.2.1 dX11_order_31 rfl (lv_at hl 3 rfl) ?_
      refine lv_iconst (v := 0) F.1 F.2.1 dX11_order_32 (by decide) ?_
      refine lv_bipush (v := 15) F.1 F.2.1 dX11_order_33 (by decide) ?_
      refine xk_X11_isWithin F C l2 0 15 h ux_501 (Nat.le_of_ble_eq_true rfl) (Nat.le_of_ble_eq_true rfl) hl.1 (by simp [Value.category]) dX11_order_35 (fun r15 σ14 H locs h C => ?_)
      refine lv_if_eq (tgt := 62) F.1 F.2.1 dX11_order_38 (by decide) (fun c16 => ?_) (fun c16 => ?_)
      · replace h := h.1 c16
        refine lv_iconst (v := (-1)) F.1 F.2.1 dX11_order_62 (by decide) ?_
        refine vx_ret ?_
        exact kx_iret F C hr hlocks h dX11_order_63
      · replace h := h.2 c16
        refine lv_iload_n F.1 F.2.1 dX11_order_41 rfl (lv_at hl 4 rfl) ?_
        refine lv_iconst (v := 1) F.1 F.2.1 dX11_order_42 (by decide) ?_
        refine lv_bipush (v := 9) F.1 F.2.1 dX11_order_43 (by decide) ?_
        refine xk_X11_isWithin F C l3 1 9 h ux_501 (Nat.le_of_ble_eq_true rfl) (Nat.le_of_ble_eq_true rfl) hl.1 (by simp [Value.category]) dX11_order_45 (fun r18 σ17 H locs h C => ?_)
        refine lv_if_eq (tgt := 62) F.1 F.2.1 dX11_order_48 (by decide) (fun c19 => ?_) (fun c19 => ?_)
        · replace h := h.1 c19
          refine lv_iconst (v := (-1)) F.1 F.2.1 dX11_order_62 (by decide) ?_
          refine vx_ret ?_
          exact kx_iret F C hr hlocks h dX11_order_63
        · replace h := h.2 c19
          refine lv_iload F.1 F.2.1 dX11_order_51 (lv_at hl 5 rfl) ?_
          refine lv_iconst (v := 1) F.1 F.2.1 dX11_order_53 (by decide) ?_
          refine lv_bipush (v := 100) F.1 F.2.1 dX11_order_54 (by decide) ?_
          refine xk_X11_isWithin F C l4 1 100 h ux_501 (Nat.le_of_ble_eq_true rfl) (Nat.le_of_ble_eq_true rfl) hl.1 (by simp [Value.category]) dX11_order_56 (fun r21 σ20 H locs h C => ?_)
          refine lv_if_ne (tgt := 64) F.1 F.2.1 dX11_order_59 (by decide) (fun c22 => ?_) (fun c22 => ?_)
          · replace h := h.1 c22
            obtain ⟨hn23, h⟩ := h
            refine xw_X7 F C hn23 ux_607 dX11_order_64 (fun p24 H z25 z26 C => ?_)
            replace h := h p24 z25 (fun h9 => z26 (h9.trans (show xz σ20 = _ from C.2.1.1)))
            generalize eσ27 : xnew σ20 p24 9 = σ27 at C ⊢
            replace h := h σ27 eσ27.symm
            have ht28 : xt σ27 p24 = 9 := by rw [← eσ27]; exact va_up_self _ _ _
            refine lv_dup F.1 F.2.1 dX11_order_67 rfl ?_
            refine lv_iload_n F.1 F.2.1 dX11_order_68 rfl (lv_at hl 3 rfl) ?_
            refine lv_iload_n F.1 F.2.1 dX11_order_69 rfl (lv_at hl 4 rfl) ?_
            refine lv_iload F.1 F.2.1 dX11_order_70 (lv_at hl 5 rfl) ?_
            refine xk_X7_init F C p24 l2 l3 l4 h ux_608 (Nat.le_of_ble_eq_true rfl) (Nat.le_of_ble_eq_true rfl) hl.1 (by simp [Value.category]) dX11_order_72 (fun σ29 H locs h C => ?_)
            refine lv_astore (lv' := [(6, .ref p24), (5, .ref b2), (0, .ref l0), (1, .int l1), (2, .int l2), (3, .int l3), (4, .int l4)]) F.1 F.2.1 dX11_order_75 hl (by decide) rfl (fun ls hl => ?_)
            refine lv_aload_n F.1 F.2.1 dX11_order_77 rfl (lv_at hl 2 rfl) ?_
            obtain ⟨ht30, h⟩ := h
            refine xg_X11_orders F C ht30 ux_483 (fun _ h9 => h9) dX11_order_78 ?_
            obtain ⟨a31, ea32, h⟩ := h
            refine xq_nn ea32 ?_
            refine lv_aload F.1 F.2.1 dX11_order_81 (lv_at hl 0 rfl) ?_
            obtain ⟨ht35, h⟩ := h
            refine xk_Jx4a65c_add_9ea2d F C a31 p24 ht35 h ux_519 (Nat.le_of_ble_eq_true rfl) (Nat.le_of_ble_eq_true rfl) hl.1 (by simp [Value.category]) dX11_order_83 (fun r34 σ33 H locs h C => ?_)
            refine lv_pop F.1 F.2.1 dX11_order_88 rfl ?_
            refine lv_aload F.1 F.2.1 dX11_order_89 (lv_at hl 1 rfl) ?_
            obtain ⟨ht36, h⟩ := h
            refine xg_X8_boom F C ht36 ux_542 (fun _ h9 => h9) dX11_order_91 ?_
            obtain ⟨a37, ea38, h⟩ := h
            refine xq_nn ea38 ?_
            obtain ⟨ht39, h⟩ := h
            refine xg_X0_orders F C ht39 ux_609 (fun _ h9 => h9) dX11_order_94 ?_
            obtain ⟨a40, ea41, h⟩ := h
            refine xq_nn ea41 ?_
            refine lv_aload F.1 F.2.1 dX11_order_97 (lv_at hl 0 rfl) ?_
            obtain ⟨ht44, h⟩ := h
            refine xk_Jx4a65c_add_9ea2d F C a40 p24 ht44 h ux_519 (Nat.le_of_ble_eq_true rfl) (Nat.le_of_ble_eq_true rfl) hl.1 (by simp [Value.category]) dX11_order_99 (fun r43 σ42 H locs h C => ?_)
            refine lv_pop F.1 F.2.1 dX11_order_104 rfl ?_
            refine lv_aload_n F.1 F.2.1 dX11_order_105 rfl (lv_at hl 2 rfl) ?_
            obtain ⟨ht45, h⟩ := h
            refine xg_X11_orders F C ht45 ux_483 (fun _ h9 => h9) dX11_order_106 ?_
            obtain ⟨a46, ea47, h⟩ := h
            refine xq_nn ea47 ?_
            obtain ⟨ht50, h⟩ := h
            refine xk_Jx4a65c_size_8abf5 F C a46 ht50 h ux_500 (Nat.le_of_ble_eq_true rfl) (Nat.le_of_ble_eq_true rfl) hl.1 (by simp [Value.category]) dX11_order_109 (fun r49 σ48 H locs h C => ?_)
            refine lv_iconst (v := 1) F.1 F.2.1 dX11_order_114 (by decide) ?_
            refine lv_isub (x := r49) (y := 1) F.1 F.2.1 dX11_order_115 ?_
            refine vx_ret ?_
            exact kx_iret F C hr hlocks h dX11_order_116
          · replace h := h.2 c22
            refine lv_iconst (v := (-1)) F.1 F.2.1 dX11_order_62 (by decide) ?_
            refine vx_ret ?_
            exact kx_iret F C hr hlocks h dX11_order_63
    · replace h := h.2 c13
      refine lv_iconst (v := (-1)) F.1 F.2.1 dX11_order_29 (by decide) ?_
      refine vx_ret ?_
      exact kx_iret F C hr hlocks h dX11_order_30
section
variable {p : Program} {l : Launch} {e : Env} {fr lo c0 : Nat} {s : State} {m : MethodId} {args : Array Value} {below : List Frame} {meth : Method} {c : Code} {H : Heap} {locs : List Loc} {Q : State → Prop}
variable {cc : ByteArray} {pc nL index : Nat} {ls : Array Slot} {rest : List Value} {G : kx_G} {σ : kx_S} {own : String}
theorem xk_X11_order {P : Int32 → kx_S → Prop} {PX : String → kx_S → Prop} (hlt : l.stackTraces = false) (F : CallFix p m c cc nL s args kt_ own) (C : kx_X G c0 s H locs σ) (l0 : Nat) (l1 : Int32) (l2 : Int32) (l3 : Int32) (l4 : Int32) (ha : xt σ l0 = 13) (h : wX11_order l0 l1 l2 l3 l4 σ P PX) (hw : Cond.methodLink own index yX11_order ∈ kt_) (h1 : (7) + 1 ≤ fr) (h2 : 8 + (7 + 11) + (231) ≤ lo) (hsz : ls.size = nL) (hW : (rest.map fun v => v.category).sum ≤ 8) (hdg : decode cc pc = .ok (.invokevirtual index, 3)) (kx : ∀ (E : String) (ce : Cell) (q9 : Addr) (u : kx_S) (H1 : Heap) (locs1 : List Loc), PX E u → kx_X G c0 s H1 locs1 u → H1[q9]? = some ce → ce.vm = .none → s.vm.findClass E = some ce.cls → vx_W p l e (kx_rm fr lo c0) s m args below meth c H1 locs1 (xc u - c0) (600 * (xc u - c0)) Q (F0 m pc ls rest) q9) (kk : ∀ (r : Int32) (u : kx_S) (H1 : Heap) (locs1 : List Loc), P r u → kx_X G c0 s H1 locs1 u → kx_W p l e fr lo c0 s m args below meth c H1 locs1 u Q (F0 m (pc + 3) ls (.int r :: rest))) : kx_W p l e fr lo c0 s m args below meth c H locs σ Q (F0 m pc ls (.int l4 :: .int l3 :: .int l2 :: .int l1 :: .ref l0 :: rest)) :=
  kx_cVX (n := 4) (As := [.int l1, .int l2, .int l3, .int l4]) (Cn := RX11) F C (hx_X11_order l hlt G l0 l1 l2 l3 l4 σ P PX h) (kt_V hw ux_611 ux_612 ux_117 ux_610) (by decide +kernel) ⟨h1, h2⟩ (kx_recv C (by rw [ha]; decide) (kx_e13 ha) rfl) rfl hsz hW hdg kx (fun v u H1 locs1 hP9 C9 => by obtain ⟨r, hv, hp⟩ := hP9; subst hv; exact kk r u H1 locs1 hp C9)
end

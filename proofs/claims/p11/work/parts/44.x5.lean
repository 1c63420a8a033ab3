theorem ux_613 : Cond.fieldLink RX11 247 "LogRiver$Reach" "flow" "I" ∈ kt_ := kt_m (kt_t2 _ (List.mem_of_getElem? (i := 21) (by decide +kernel))) (by decide +kernel)
theorem ux_614 : Cond.fieldLink RX11 250 "LogRiver" "melted" "J" ∈ kt_ := kt_m (kt_t1 _ (List.mem_of_getElem? (i := 167) (by decide +kernel))) (by decide +kernel)
theorem ux_615 : Cond.methodLink RX11 254 yX8_passWater ∈ kt_ := kt_m (kt_t4 _ (List.mem_of_getElem? (i := 156) (by decide +kernel))) (by decide +kernel)
theorem ux_616 : Cond.fieldLink RX11 257 "LogRiver$Reach" "below" "LLogRiver$Reach;" ∈ kt_ := kt_m (kt_t2 _ (List.mem_of_getElem? (i := 6) (by decide +kernel))) (by decide +kernel)
theorem ux_617 : Cond.fieldLink RX11 263 "LogRiver$Reach" "out" "I" ∈ kt_ := kt_m (kt_t2 _ (List.mem_of_getElem? (i := 23) (by decide +kernel))) (by decide +kernel)
theorem ux_618 : Cond.fieldLink RX11 260 "LogRiver" "wentToSea" "J" ∈ kt_ := kt_m (kt_t1 _ (List.mem_of_getElem? (i := 168) (by decide +kernel))) (by decide +kernel)
theorem ux_619 : Cond.code yX11_runWater cX11_runWater 3 none ∈ kt_ := kt_m (kt_t4 _ (List.mem_of_getElem? (i := 155) (by decide +kernel))) (by decide +kernel)
theorem ux_620 : Cond.instanceMethod yX11_runWater ∈ kt_ := kt_m (kt_t4 _ (List.mem_of_getElem? (i := 154) (by decide +kernel))) (by decide +kernel)
theorem ux_621 : Cond.selects RX11 yX11_runWater yX11_runWater ∈ kt_ := kt_m (kt_s2 _ (List.mem_of_getElem? (i := 9) (by decide +kernel))) (by decide +kernel)
theorem ux_622 : Cond.methodLink RX11 310 yX6_goToSea ∈ kt_ := kt_m (kt_t4 _ (List.mem_of_getElem? (i := 188) (by decide +kernel))) (by decide +kernel)
theorem ux_623 : Cond.fieldLink RX11 295 "LogRiver$Log" "mark" "I" ∈ kt_ := kt_m (kt_t2 _ (List.mem_of_getElem? (i := 175) (by decide +kernel))) (by decide +kernel)
theorem ux_624 : Cond.methodLink RX11 298 yX0_catches ∈ kt_ := kt_m (kt_t4 _ (List.mem_of_getElem? (i := 180) (by decide +kernel))) (by decide +kernel)
theorem ux_625 : Cond.fieldLink RX11 301 "LogRiver$Boom" "heap" "Ljava/util/List;" ∈ kt_ := kt_m (kt_t3 _ (List.mem_of_getElem? (i := 85) (by decide +kernel))) (by decide +kernel)
theorem ux_626 : Cond.fieldLink RX11 304 "LogRiver$Judge" "toll" "J" ∈ kt_ := kt_m (kt_t1 _ (List.mem_of_getElem? (i := 143) (by decide +kernel))) (by decide +kernel)
theorem ux_627 : Cond.methodLink RX11 307 yX6_lieInHeap ∈ kt_ := kt_m (kt_t4 _ (List.mem_of_getElem? (i := 184) (by decide +kernel))) (by decide +kernel)
theorem ux_628 : Cond.code yX11_leaves cX11_leaves 3 (some .boolean) ∈ kt_ := kt_m (kt_t4 _ (List.mem_of_getElem? (i := 179) (by decide +kernel))) (by decide +kernel)
theorem ux_629 : Cond.instanceMethod yX11_leaves ∈ kt_ := kt_m (kt_t4 _ (List.mem_of_getElem? (i := 178) (by decide +kernel))) (by decide +kernel)
theorem ux_630 : Cond.selects RX11 yX11_leaves yX11_leaves ∈ kt_ := kt_m (kt_s2 _ (List.mem_of_getElem? (i := 13) (by decide +kernel))) (by decide +kernel)
theorem ux_631 : Cond.methodLink RX11 287 yX8_canTake ∈ kt_ := kt_m (kt_t4 _ (List.mem_of_getElem? (i := 175) (by decide +kernel))) (by decide +kernel)
theorem ux_632 : Cond.methodLink RX11 291 yX11_leaves ∈ kt_ := kt_m (kt_t4 _ (List.mem_of_getElem? (i := 176) (by decide +kernel))) (by decide +kernel)
theorem ux_633 : Cond.code yX11_movesOn cX11_movesOn 7 (some .boolean) ∈ kt_ := kt_m (kt_t4 _ (List.mem_of_getElem? (i := 174) (by decide +kernel))) (by decide +kernel)
theorem ux_634 : Cond.instanceMethod yX11_movesOn ∈ kt_ := kt_m (kt_t4 _ (List.mem_of_getElem? (i := 173) (by decide +kernel))) (by decide +kernel)
theorem ux_635 : Cond.selects RX11 yX11_movesOn yX11_movesOn ∈ kt_ := kt_m (kt_s2 _ (List.mem_of_getElem? (i := 12) (by decide +kernel))) (by decide +kernel)
theorem ux_636 : Cond.fieldLink RX11 279 "LogRiver$Cell" "logs" "Ljava/util/List;" ∈ kt_ := kt_m (kt_t2 _ (List.mem_of_getElem? (i := 65) (by decide +kernel))) (by decide +kernel)
theorem ux_637 : Cond.methodLink RX11 280 yX11_movesOn ∈ kt_ := kt_m (kt_t4 _ (List.mem_of_getElem? (i := 171) (by decide +kernel))) (by decide +kernel)
theorem ux_638 : Cond.methodLink RX11 284 ⟨"java/util/List", "remove", "(I)Ljava/lang/Object;"⟩ ∈ kt_ := kt_m (kt_t4 _ (List.mem_of_getElem? (i := 193) (by decide +kernel))) (by decide +kernel)
theorem ux_639 : Cond.fieldLink RX11 276 "LogRiver$Cell" "jammed" "Z" ∈ kt_ := kt_m (kt_t2 _ (List.mem_of_getElem? (i := 67) (by decide +kernel))) (by decide +kernel)
theorem ux_640 : Cond.code yX11_moveLogsOfCell cX11_moveLogsOfCell 7 none ∈ kt_ := kt_m (kt_t4 _ (List.mem_of_getElem? (i := 170) (by decide +kernel))) (by decide +kernel)
theorem ux_641 : Cond.instanceMethod yX11_moveLogsOfCell ∈ kt_ := kt_m (kt_t4 _ (List.mem_of_getElem? (i := 169) (by decide +kernel))) (by decide +kernel)
theorem ux_642 : Cond.selects RX11 yX11_moveLogsOfCell yX11_moveLogsOfCell ∈ kt_ := kt_m (kt_s2 _ (List.mem_of_getElem? (i := 11) (by decide +kernel))) (by decide +kernel)
theorem ux_643 : Cond.methodLink RX11 272 yX11_moveLogsOfCell ∈ kt_ := kt_m (kt_t4 _ (List.mem_of_getElem? (i := 167) (by decide +kernel))) (by decide +kernel)
theorem ux_644 : Cond.methodLink RX11 266 Lib.Math.min.name ∈ kt_ := kt_m (kt_t4 _ (List.mem_of_getElem? (i := 166) (by decide +kernel))) (by decide +kernel)
theorem ux_645 : Cond.code yX11_moveLogs cX11_moveLogs 5 none ∈ kt_ := kt_m (kt_t4 _ (List.mem_of_getElem? (i := 165) (by decide +kernel))) (by decide +kernel)
theorem ux_646 : Cond.instanceMethod yX11_moveLogs ∈ kt_ := kt_m (kt_t4 _ (List.mem_of_getElem? (i := 164) (by decide +kernel))) (by decide +kernel)
theorem ux_647 : Cond.selects RX11 yX11_moveLogs yX11_moveLogs ∈ kt_ := kt_m (kt_s2 _ (List.mem_of_getElem? (i := 10) (by decide +kernel))) (by decide +kernel)
theorem ux_648 : Cond.fieldLink RX11 313 "LogRiver$Reach" "jam" "I" ∈ kt_ := kt_m (kt_t2 _ (List.mem_of_getElem? (i := 8) (by decide +kernel))) (by decide +kernel)
theorem ux_649 : Cond.methodLink RX11 316 yX8_jamFullCells ∈ kt_ := kt_m (kt_t4 _ (List.mem_of_getElem? (i := 210) (by decide +kernel))) (by decide +kernel)
theorem ux_650 : Cond.code yX11_jamCells cX11_jamCells 3 none ∈ kt_ := kt_m (kt_t4 _ (List.mem_of_getElem? (i := 209) (by decide +kernel))) (by decide +kernel)
theorem ux_651 : Cond.instanceMethod yX11_jamCells ∈ kt_ := kt_m (kt_t4 _ (List.mem_of_getElem? (i := 208) (by decide +kernel))) (by decide +kernel)
theorem ux_652 : Cond.selects RX11 yX11_jamCells yX11_jamCells ∈ kt_ := kt_m (kt_s2 _ (List.mem_of_getElem? (i := 15) (by decide +kernel))) (by decide +kernel)
theorem ux_653 : Cond.fieldLink RX11 319 "LogRiver$Crew" "readyAt" "I" ∈ kt_ := kt_m (kt_t3 _ (List.mem_of_getElem? (i := 128) (by decide +kernel))) (by decide +kernel)
theorem ux_654 : Cond.methodLink RX11 322 yX8_freesLowestJam ∈ kt_ := kt_m (kt_t4 _ (List.mem_of_getElem? (i := 218) (by decide +kernel))) (by decide +kernel)
theorem ux_655 : Cond.methodLink RX11 326 yX2_rest ∈ kt_ := kt_m (kt_t4 _ (List.mem_of_getElem? (i := 222) (by decide +kernel))) (by decide +kernel)
theorem ux_656 : Cond.code yX11_freeJams cX11_freeJams 3 none ∈ kt_ := kt_m (kt_t4 _ (List.mem_of_getElem? (i := 217) (by decide +kernel))) (by decide +kernel)
theorem ux_657 : Cond.instanceMethod yX11_freeJams ∈ kt_ := kt_m (kt_t4 _ (List.mem_of_getElem? (i := 216) (by decide +kernel))) (by decide +kernel)
theorem ux_658 : Cond.selects RX11 yX11_freeJams yX11_freeJams ∈ kt_ := kt_m (kt_s3 _ (List.mem_of_getElem? (i := 0) (by decide +kernel))) (by decide +kernel)
theorem ux_659 : Cond.methodLink RX11 329 yX8_makeJamsKnown ∈ kt_ := kt_m (kt_t4 _ (List.mem_of_getElem? (i := 230) (by decide +kernel))) (by decide +kernel)
theorem ux_660 : Cond.code yX11_makeJamsKnown cX11_makeJamsKnown 2 none ∈ kt_ := kt_m (kt_t4 _ (List.mem_of_getElem? (i := 229) (by decide +kernel))) (by decide +kernel)
theorem ux_661 : Cond.instanceMethod yX11_makeJamsKnown ∈ kt_ := kt_m (kt_t4 _ (List.mem_of_getElem? (i := 228) (by decide +kernel))) (by decide +kernel)
theorem ux_662 : Cond.selects RX11 yX11_makeJamsKnown yX11_makeJamsKnown ∈ kt_ := kt_m (kt_s3 _ (List.mem_of_getElem? (i := 1) (by decide +kernel))) (by decide +kernel)
theorem ux_663 : Cond.methodLink RX11 330 yX1_ageLogs ∈ kt_ := kt_m (kt_t4 _ (List.mem_of_getElem? (i := 238) (by decide +kernel))) (by decide +kernel)
theorem ux_664 : Cond.code yX11_ageLogs cX11_ageLogs 4 none ∈ kt_ := kt_m (kt_t4 _ (List.mem_of_getElem? (i := 237) (by decide +kernel))) (by decide +kernel)
theorem ux_665 : Cond.instanceMethod yX11_ageLogs ∈ kt_ := kt_m (kt_t4 _ (List.mem_of_getElem? (i := 236) (by decide +kernel))) (by decide +kernel)
theorem ux_666 : Cond.selects RX11 yX11_ageLogs yX11_ageLogs ∈ kt_ := kt_m (kt_s3 _ (List.mem_of_getElem? (i := 2) (by decide +kernel))) (by decide +kernel)
theorem ux_667 : Cond.fieldLink RX11 342 "LogRiver" "boards" "I" ∈ kt_ := kt_m (kt_t1 _ (List.mem_of_getElem? (i := 165) (by decide +kernel))) (by decide +kernel)
theorem ux_668 : Cond.methodLink RX11 345 yX6_becomeBoards ∈ kt_ := kt_m (kt_t5 _ (List.mem_of_getElem? (i := 29) (by decide +kernel))) (by decide +kernel)
theorem ux_669 : Cond.fieldLink RX11 348 "LogRiver$Log" "size" "I" ∈ kt_ := kt_m (kt_t2 _ (List.mem_of_getElem? (i := 180) (by decide +kernel))) (by decide +kernel)
theorem ux_670 : Cond.fieldLink RX11 335 "LogRiver$Order" "wanted" "I" ∈ kt_ := kt_m (kt_t5 _ (List.mem_of_getElem? (i := 50) (by decide +kernel))) (by decide +kernel)
theorem ux_671 : Cond.methodLink RX11 338 yX0_takeFirstFor ∈ kt_ := kt_m (kt_t5 _ (List.mem_of_getElem? (i := 18) (by decide +kernel))) (by decide +kernel)
theorem ux_672 : Cond.code yX11_sawFor cX11_sawFor 6 (some .int) ∈ kt_ := kt_m (kt_t5 _ (List.mem_of_getElem? (i := 17) (by decide +kernel))) (by decide +kernel)
theorem ux_673 : Cond.instanceMethod yX11_sawFor ∈ kt_ := kt_m (kt_t5 _ (List.mem_of_getElem? (i := 16) (by decide +kernel))) (by decide +kernel)
theorem ux_674 : Cond.selects RX11 yX11_sawFor yX11_sawFor ∈ kt_ := kt_m (kt_s3 _ (List.mem_of_getElem? (i := 4) (by decide +kernel))) (by decide +kernel)
theorem ux_675 : Cond.methodLink RX11 331 yX11_sawFor ∈ kt_ := kt_m (kt_t5 _ (List.mem_of_getElem? (i := 14) (by decide +kernel))) (by decide +kernel)
theorem ux_676 : Cond.code yX11_runMills cX11_runMills 5 none ∈ kt_ := kt_m (kt_t5 _ (List.mem_of_getElem? (i := 12) (by decide +kernel))) (by decide +kernel)
theorem ux_677 : Cond.instanceMethod yX11_runMills ∈ kt_ := kt_m (kt_t5 _ (List.mem_of_getElem? (i := 11) (by decide +kernel))) (by decide +kernel)
theorem ux_678 : Cond.selects RX11 yX11_runMills yX11_runMills ∈ kt_ := kt_m (kt_s3 _ (List.mem_of_getElem? (i := 3) (by decide +kernel))) (by decide +kernel)
theorem ux_679 : Cond.methodLink RX11 226 yX11_runWater ∈ kt_ := kt_m (kt_t4 _ (List.mem_of_getElem? (i := 152) (by decide +kernel))) (by decide +kernel)
theorem ux_680 : Cond.methodLink RX11 229 yX11_moveLogs ∈ kt_ := kt_m (kt_t4 _ (List.mem_of_getElem? (i := 162) (by decide +kernel))) (by decide +kernel)
theorem ux_681 : Cond.methodLink RX11 232 yX11_jamCells ∈ kt_ := kt_m (kt_t4 _ (List.mem_of_getElem? (i := 206) (by decide +kernel))) (by decide +kernel)
theorem ux_682 : Cond.methodLink RX11 235 yX11_freeJams ∈ kt_ := kt_m (kt_t4 _ (List.mem_of_getElem? (i := 214) (by decide +kernel))) (by decide +kernel)
theorem ux_683 : Cond.methodLink RX11 238 yX11_makeJamsKnown ∈ kt_ := kt_m (kt_t4 _ (List.mem_of_getElem? (i := 226) (by decide +kernel))) (by decide +kernel)
theorem ux_684 : Cond.methodLink RX11 241 yX11_ageLogs ∈ kt_ := kt_m (kt_t4 _ (List.mem_of_getElem? (i := 234) (by decide +kernel))) (by decide +kernel)
theorem ux_685 : Cond.methodLink RX11 244 yX11_runMills ∈ kt_ := kt_m (kt_t5 _ (List.mem_of_getElem? (i := 9) (by decide +kernel))) (by decide +kernel)
theorem ux_686 : Cond.code yX11_hours cX11_hours 3 (some .int) ∈ kt_ := kt_m (kt_t4 _ (List.mem_of_getElem? (i := 150) (by decide +kernel))) (by decide +kernel)
theorem ux_687 : Cond.instanceMethod yX11_hours ∈ kt_ := kt_m (kt_t4 _ (List.mem_of_getElem? (i := 148) (by decide +kernel))) (by decide +kernel)
theorem ux_688 : Cond.selects RX11 yX11_hours yX11_hours ∈ kt_ := kt_m (kt_t4 _ (List.mem_of_getElem? (i := 149) (by decide +kernel))) (by decide +kernel)
theorem ux_689 : Cond.code yX11_wants cX11_wants 2 (some .int) ∈ kt_ := kt_m (kt_t5 _ (List.mem_of_getElem? (i := 64) (by decide +kernel))) (by decide +kernel)
theorem ux_690 : Cond.instanceMethod yX11_wants ∈ kt_ := kt_m (kt_t5 _ (List.mem_of_getElem? (i := 62) (by decide +kernel))) (by decide +kernel)
theorem ux_691 : Cond.selects RX11 yX11_wants yX11_wants ∈ kt_ := kt_m (kt_t5 _ (List.mem_of_getElem? (i := 63) (by decide +kernel))) (by decide +kernel)
theorem ux_692 : Cond.fieldLink RX11 355 "LogRiver$Log" "stump" "I" ∈ kt_ := kt_m (kt_t2 _ (List.mem_of_getElem? (i := 183) (by decide +kernel))) (by decide +kernel)
theorem ux_693 : Cond.fieldLink RX11 358 "LogRiver$Log" "reach" "I" ∈ kt_ := kt_m (kt_t2 _ (List.mem_of_getElem? (i := 188) (by decide +kernel))) (by decide +kernel)
theorem ux_694 : Cond.fieldLink RX11 360 "LogRiver$Log" "cell" "I" ∈ kt_ := kt_m (kt_t2 _ (List.mem_of_getElem? (i := 190) (by decide +kernel))) (by decide +kernel)
theorem ux_695 : Cond.fieldLink RX11 363 "LogRiver$Log" "age" "I" ∈ kt_ := kt_m (kt_t2 _ (List.mem_of_getElem? (i := 193) (by decide +kernel))) (by decide +kernel)
theorem ux_696 : Cond.fieldLink RX11 366 "LogRiver$Log" "firstBoard" "I" ∈ kt_ := kt_m (kt_t2 _ (List.mem_of_getElem? (i := 195) (by decide +kernel))) (by decide +kernel)
theorem ux_697 : Cond.code yX11_log cX11_log 4 (some .int) ∈ kt_ := kt_m (kt_t5 _ (List.mem_of_getElem? (i := 72) (by decide +kernel))) (by decide +kernel)
theorem ux_698 : Cond.instanceMethod yX11_log ∈ kt_ := kt_m (kt_t5 _ (List.mem_of_getElem? (i := 70) (by decide +kernel))) (by decide +kernel)
theorem ux_699 : Cond.selects RX11 yX11_log yX11_log ∈ kt_ := kt_m (kt_t5 _ (List.mem_of_getElem? (i := 71) (by decide +kernel))) (by decide +kernel)
theorem ux_700 : Cond.fieldLink RX11 371 "LogRiver$Cell" "known" "Z" ∈ kt_ := kt_m (kt_t2 _ (List.mem_of_getElem? (i := 69) (by decide +kernel))) (by decide +kernel)
theorem ux_701 : Cond.code yX11_cell cX11_cell 6 (some .int) ∈ kt_ := kt_m (kt_t5 _ (List.mem_of_getElem? (i := 80) (by decide +kernel))) (by decide +kernel)
theorem ux_702 : Cond.instanceMethod yX11_cell ∈ kt_ := kt_m (kt_t5 _ (List.mem_of_getElem? (i := 78) (by decide +kernel))) (by decide +kernel)
theorem ux_703 : Cond.selects RX11 yX11_cell yX11_cell ∈ kt_ := kt_m (kt_t5 _ (List.mem_of_getElem? (i := 79) (by decide +kernel))) (by decide +kernel)
theorem ux_704 : Cond.methodLink RX11 376 yX11_numberAt ∈ kt_ := kt_m (kt_t5 _ (List.mem_of_getElem? (i := 89) (by decide +kernel))) (by decide +kernel)
theorem ux_705 : Cond.code yX11_inCell cX11_inCell 5 (some .int) ∈ kt_ := kt_m (kt_t5 _ (List.mem_of_getElem? (i := 88) (by decide +kernel))) (by decide +kernel)
theorem ux_706 : Cond.instanceMethod yX11_inCell ∈ kt_ := kt_m (kt_t5 _ (List.mem_of_getElem? (i := 86) (by decide +kernel))) (by decide +kernel)
theorem ux_707 : Cond.selects RX11 yX11_inCell yX11_inCell ∈ kt_ := kt_m (kt_t5 _ (List.mem_of_getElem? (i := 87) (by decide +kernel))) (by decide +kernel)
theorem ux_708 : Cond.code yX11_heap cX11_heap 4 (some .int) ∈ kt_ := kt_m (kt_t5 _ (List.mem_of_getElem? (i := 98) (by decide +kernel))) (by decide +kernel)
theorem ux_709 : Cond.instanceMethod yX11_heap ∈ kt_ := kt_m (kt_t5 _ (List.mem_of_getElem? (i := 96) (by decide +kernel))) (by decide +kernel)
theorem ux_710 : Cond.selects RX11 yX11_heap yX11_heap ∈ kt_ := kt_m (kt_t5 _ (List.mem_of_getElem? (i := 97) (by decide +kernel))) (by decide +kernel)
theorem ux_711 : Cond.fieldLink RX11 380 "LogRiver$Reach" "store" "I" ∈ kt_ := kt_m (kt_t2 _ (List.mem_of_getElem? (i := 17) (by decide +kernel))) (by decide +kernel)
theorem ux_712 : Cond.code yX11_water cX11_water 4 (some .int) ∈ kt_ := kt_m (kt_t5 _ (List.mem_of_getElem? (i := 105) (by decide +kernel))) (by decide +kernel)
theorem ux_713 : Cond.instanceMethod yX11_water ∈ kt_ := kt_m (kt_t5 _ (List.mem_of_getElem? (i := 103) (by decide +kernel))) (by decide +kernel)
theorem ux_714 : Cond.selects RX11 yX11_water yX11_water ∈ kt_ := kt_m (kt_t5 _ (List.mem_of_getElem? (i := 104) (by decide +kernel))) (by decide +kernel)
theorem ux_715 : Cond.code yX11_waters cX11_waters 2 (some .long) ∈ kt_ := kt_m (kt_t5 _ (List.mem_of_getElem? (i := 113) (by decide +kernel))) (by decide +kernel)
theorem ux_716 : Cond.instanceMethod yX11_waters ∈ kt_ := kt_m (kt_t5 _ (List.mem_of_getElem? (i := 111) (by decide +kernel))) (by decide +kernel)
theorem ux_717 : Cond.selects RX11 yX11_waters yX11_waters ∈ kt_ := kt_m (kt_t5 _ (List.mem_of_getElem? (i := 112) (by decide +kernel))) (by decide +kernel)
theorem ux_718 : Cond.code yX11_board cX11_board 4 (some .int) ∈ kt_ := kt_m (kt_t5 _ (List.mem_of_getElem? (i := 121) (by decide +kernel))) (by decide +kernel)
theorem ux_719 : Cond.instanceMethod yX11_board ∈ kt_ := kt_m (kt_t5 _ (List.mem_of_getElem? (i := 119) (by decide +kernel))) (by decide +kernel)
theorem ux_720 : Cond.selects RX11 yX11_board yX11_board ∈ kt_ := kt_m (kt_t5 _ (List.mem_of_getElem? (i := 120) (by decide +kernel))) (by decide +kernel)
theorem ux_721 : Cond.code yX11_paid cX11_paid 2 (some .long) ∈ kt_ := kt_m (kt_t5 _ (List.mem_of_getElem? (i := 129) (by decide +kernel))) (by decide +kernel)
theorem ux_722 : Cond.instanceMethod yX11_paid ∈ kt_ := kt_m (kt_t5 _ (List.mem_of_getElem? (i := 127) (by decide +kernel))) (by decide +kernel)
theorem ux_723 : Cond.selects RX11 yX11_paid yX11_paid ∈ kt_ := kt_m (kt_t5 _ (List.mem_of_getElem? (i := 128) (by decide +kernel))) (by decide +kernel)
theorem ux_724 : Cond.code yX11_countJams cX11_countJams 7 (some .int) ∈ kt_ := kt_m (kt_t5 _ (List.mem_of_getElem? (i := 141) (by decide +kernel))) (by decide +kernel)
theorem ux_725 : Cond.instanceMethod yX11_countJams ∈ kt_ := kt_m (kt_t5 _ (List.mem_of_getElem? (i := 140) (by decide +kernel))) (by decide +kernel)
theorem ux_726 : Cond.selects RX11 yX11_countJams yX11_countJams ∈ kt_ := kt_m (kt_s3 _ (List.mem_of_getElem? (i := 5) (by decide +kernel))) (by decide +kernel)
theorem ux_727 : Cond.methodLink RX11 391 yX11_countJams ∈ kt_ := kt_m (kt_t5 _ (List.mem_of_getElem? (i := 138) (by decide +kernel))) (by decide +kernel)
theorem ux_728 : Cond.code yX11_count cX11_count 2 (some .int) ∈ kt_ := kt_m (kt_t5 _ (List.mem_of_getElem? (i := 137) (by decide +kernel))) (by decide +kernel)
theorem ux_729 : Cond.instanceMethod yX11_count ∈ kt_ := kt_m (kt_t5 _ (List.mem_of_getElem? (i := 135) (by decide +kernel))) (by decide +kernel)
theorem ux_730 : Cond.selects RX11 yX11_count yX11_count ∈ kt_ := kt_m (kt_t5 _ (List.mem_of_getElem? (i := 136) (by decide +kernel))) (by decide +kernel)
theorem dX11_runWater_0 : decode cX11_runWater 0 = .ok (.iconst 0, 1) := by decide +kernel
theorem dX11_runWater_1 : decode cX11_runWater 1 = .ok (.istore_n 1, 1) := by decide +kernel
theorem dX11_runWater_2 : decode cX11_runWater 2 = .ok (.iload_n 1, 1) := by decide +kernel
theorem dX11_runWater_3 : decode cX11_runWater 3 = .ok (.aload_n 0, 1) := by decide +kernel
theorem dX11_runWater_4 : decode cX11_runWater 4 = .ok (.getfield 10, 3) := by decide +kernel
theorem dX11_runWater_7 : decode cX11_runWater 7 = .ok (.invokeinterface 59 1, 5) := by decide +kernel
theorem dX11_runWater_12 : decode cX11_runWater 12 = .ok (.if_icmp .ge 45, 3) := by decide +kernel
theorem dX11_runWater_15 : decode cX11_runWater 15 = .ok (.aload_n 0, 1) := by decide +kernel
theorem dX11_runWater_16 : decode cX11_runWater 16 = .ok (.getfield 10, 3) := by decide +kernel
theorem dX11_runWater_19 : decode cX11_runWater 19 = .ok (.iload_n 1, 1) := by decide +kernel
theorem dX11_runWater_20 : decode cX11_runWater 20 = .ok (.invokeinterface 69 2, 5) := by decide +kernel
theorem dX11_runWater_25 : decode cX11_runWater 25 = .ok (.checkcast 73, 3) := by decide +kernel
theorem dX11_runWater_28 : decode cX11_runWater 28 = .ok (.astore_n 2, 1) := by decide +kernel
theorem dX11_runWater_29 : decode cX11_runWater 29 = .ok (.aload_n 2, 1) := by decide +kernel
theorem dX11_runWater_30 : decode cX11_runWater 30 = .ok (.aload_n 2, 1) := by decide +kernel
theorem dX11_runWater_31 : decode cX11_runWater 31 = .ok (.getfield 108, 3) := by decide +kernel
theorem dX11_runWater_34 : decode cX11_runWater 34 = .ok (.putfield 247, 3) := by decide +kernel
theorem dX11_runWater_37 : decode cX11_runWater 37 = .ok (.aload_n 0, 1) := by decide +kernel
theorem dX11_runWater_38 : decode cX11_runWater 38 = .ok (.dup, 1) := by decide +kernel
theorem dX11_runWater_39 : decode cX11_runWater 39 = .ok (.getfield 250, 3) := by decide +kernel
theorem dX11_runWater_42 : decode cX11_runWater 42 = .ok (.aload_n 2, 1) := by decide +kernel
theorem dX11_runWater_43 : decode cX11_runWater 43 = .ok (.getfield 108, 3) := by decide +kernel
theorem dX11_runWater_46 : decode cX11_runWater 46 = .ok (.i2l, 1) := by decide +kernel
theorem dX11_runWater_47 : decode cX11_runWater 47 = .ok (.ladd, 1) := by decide +kernel
theorem dX11_runWater_48 : decode cX11_runWater 48 = .ok (.putfield 250, 3) := by decide +kernel
theorem dX11_runWater_51 : decode cX11_runWater 51 = .ok (.iinc 1 1, 3) := by decide +kernel
theorem dX11_runWater_54 : decode cX11_runWater 54 = .ok (.goto (-52), 3) := by decide +kernel
theorem dX11_runWater_57 : decode cX11_runWater 57 = .ok (.aload_n 0, 1) := by decide +kernel
theorem dX11_runWater_58 : decode cX11_runWater 58 = .ok (.getfield 10, 3) := by decide +kernel
theorem dX11_runWater_61 : decode cX11_runWater 61 = .ok (.invokeinterface 59 1, 5) := by decide +kernel
theorem dX11_runWater_66 : decode cX11_runWater 66 = .ok (.iconst 1, 1) := by decide +kernel
theorem dX11_runWater_67 : decode cX11_runWater 67 = .ok (.isub, 1) := by decide +kernel
theorem dX11_runWater_68 : decode cX11_runWater 68 = .ok (.istore_n 1, 1) := by decide +kernel
theorem dX11_runWater_69 : decode cX11_runWater 69 = .ok (.iload_n 1, 1) := by decide +kernel
theorem dX11_runWater_70 : decode cX11_runWater 70 = .ok (.ifCond .lt 67, 3) := by decide +kernel
theorem dX11_runWater_73 : decode cX11_runWater 73 = .ok (.aload_n 0, 1) := by decide +kernel
theorem dX11_runWater_74 : decode cX11_runWater 74 = .ok (.getfield 10, 3) := by decide +kernel
theorem dX11_runWater_77 : decode cX11_runWater 77 = .ok (.iload_n 1, 1) := by decide +kernel
theorem dX11_runWater_78 : decode cX11_runWater 78 = .ok (.invokeinterface 69 2, 5) := by decide +kernel
theorem dX11_runWater_83 : decode cX11_runWater 83 = .ok (.checkcast 73, 3) := by decide +kernel
theorem dX11_runWater_86 : decode cX11_runWater 86 = .ok (.astore_n 2, 1) := by decide +kernel
theorem dX11_runWater_87 : decode cX11_runWater 87 = .ok (.aload_n 2, 1) := by decide +kernel
theorem dX11_runWater_88 : decode cX11_runWater 88 = .ok (.invokevirtual 254, 3) := by decide +kernel
theorem dX11_runWater_91 : decode cX11_runWater 91 = .ok (.aload_n 2, 1) := by decide +kernel
theorem dX11_runWater_92 : decode cX11_runWater 92 = .ok (.getfield 257, 3) := by decide +kernel
theorem dX11_runWater_95 : decode cX11_runWater 95 = .ok (.ifnonnull 20, 3) := by decide +kernel
theorem dX11_runWater_98 : decode cX11_runWater 98 = .ok (.aload_n 0, 1) := by decide +kernel
theorem dX11_runWater_99 : decode cX11_runWater 99 = .ok (.dup, 1) := by decide +kernel
theorem dX11_runWater_100 : decode cX11_runWater 100 = .ok (.getfield 260, 3) := by decide +kernel
theorem dX11_runWater_103 : decode cX11_runWater 103 = .ok (.aload_n 2, 1) := by decide +kernel
theorem dX11_runWater_104 : decode cX11_runWater 104 = .ok (.getfield 263, 3) := by decide +kernel
theorem dX11_runWater_107 : decode cX11_runWater 107 = .ok (.i2l, 1) := by decide +kernel
theorem dX11_runWater_108 : decode cX11_runWater 108 = .ok (.ladd, 1) := by decide +kernel
theorem dX11_runWater_109 : decode cX11_runWater 109 = .ok (.putfield 260, 3) := by decide +kernel
theorem dX11_runWater_112 : decode cX11_runWater 112 = .ok (.goto 19, 3) := by decide +kernel
theorem dX11_runWater_115 : decode cX11_runWater 115 = .ok (.aload_n 2, 1) := by decide +kernel
theorem dX11_runWater_116 : decode cX11_runWater 116 = .ok (.getfield 257, 3) := by decide +kernel
theorem dX11_runWater_119 : decode cX11_runWater 119 = .ok (.dup, 1) := by decide +kernel
theorem dX11_runWater_120 : decode cX11_runWater 120 = .ok (.getfield 247, 3) := by decide +kernel
theorem dX11_runWater_123 : decode cX11_runWater 123 = .ok (.aload_n 2, 1) := by decide +kernel
theorem dX11_runWater_124 : decode cX11_runWater 124 = .ok (.getfield 263, 3) := by decide +kernel
theorem dX11_runWater_127 : decode cX11_runWater 127 = .ok (.iadd, 1) := by decide +kernel
theorem dX11_runWater_128 : decode cX11_runWater 128 = .ok (.putfield 247, 3) := by decide +kernel
theorem dX11_runWater_131 : decode cX11_runWater 131 = .ok (.iinc 1 (-1), 3) := by decide +kernel
theorem dX11_runWater_134 : decode cX11_runWater 134 = .ok (.goto (-65), 3) := by decide +kernel
theorem dX11_runWater_137 : decode cX11_runWater 137 = .ok (.return_, 1) := by decide +kernel
def wX11_runWater_131 (k69 : Nat → Int32 → kx_S → Prop) (Q : kx_S → Prop) (l0 : Nat) (l1 : Int32) (σ : kx_S) : Prop := ∀ v1 : Int32, v1 = l1 + (-1) → k69 l0 v1 σ
def wX11_runWater_2 (k57 : Nat → kx_S → Prop) (Q : kx_S → Prop) : Nat → Nat → Int32 → kx_S → Prop
  | 0, _, _, _ => False
  | n + 1, l0, l1, σ => xt σ l0 = 13 ∧ ∃ a3, xr σ 208 l0 = some a3 ∧ xt σ a3 = 1 ∧ wJx4a65c_size_8abf5 a3 σ (fun r6 σ5 => ((r6 ≤ l1 → k57 l0 σ5) ∧
    (¬ (r6 ≤ l1) → xt σ5 l0 = 13 ∧ ∃ a10, xr σ5 208 l0 = some a10 ∧ xt σ5 a10 = 1 ∧ wJx4a65c_get_915e3 a10 l1 σ5 (fun q13 σ12 => ∃ a15, q13 = some a15 ∧ xt σ12 a15 = 10 ∧ ∀ σ18, σ18 = xsi σ12 169 a15 (xi σ12 164 a15) → xt σ18 l0 = 13 ∧ ∀ σ21, σ21 = xsl σ18 220 l0 ((xl σ18 220 l0) + ((xi σ18 164 a15).toInt64)) → ∀ v24 : Int32, v24 = l1 + 1 → wX11_runWater_2 k57 Q n l0 v24 σ21))))
def wX11_runWater_69 (Q : kx_S → Prop) : Nat → Nat → Int32 → kx_S → Prop
  | 0, _, _, _ => False
  | n + 1, l0, l1, σ => ((l1 < 0 → Q σ) ∧
    (¬ (l1 < 0) → xt σ l0 = 13 ∧ ∃ a27, xr σ 208 l0 = some a27 ∧ xt σ a27 = 1 ∧ wJx4a65c_get_915e3 a27 l1 σ (fun q30 σ29 => ∃ a32, q30 = some a32 ∧ xt σ29 a32 = 10 ∧ wX8_passWater a32 σ29 (fun σ35 => xt σ35 a32 = 10 ∧ ((∀ a38, xr σ35 161 a32 = some a38 → ∃ a39, xr σ35 161 a32 = some a39 ∧ xt σ35 a39 = 10 ∧ ∀ σ42, σ42 = xsi σ35 169 a39 ((xi σ35 169 a39) + (xi σ35 170 a32)) → wX11_runWater_131 (wX11_runWater_69 Q n) Q l0 l1 σ42) ∧
      (xr σ35 161 a32 = none → xt σ35 l0 = 13 ∧ ∀ σ46, σ46 = xsl σ35 221 l0 ((xl σ35 221 l0) + ((xi σ35 170 a32).toInt64)) → wX11_runWater_131 (wX11_runWater_69 Q n) Q l0 l1 σ46))))))
def wX11_runWater_57 (Q : kx_S → Prop) (l0 : Nat) (σ : kx_S) : Prop := xt σ l0 = 13 ∧ ∃ a50, xr σ 208 l0 = some a50 ∧ xt σ a50 = 1 ∧ wJx4a65c_size_8abf5 a50 σ (fun r53 σ52 => ∀ v55, v55 = r53 - 1 → ∃ j, wX11_runWater_69 Q j l0 v55 σ52)
def wX11_runWater (l0 : Nat) (σ : kx_S) (Q : kx_S → Prop) : Prop := ∃ j, wX11_runWater_2 (wX11_runWater_57 Q) Q j l0 0 σ
set_option maxRecDepth 100000 in
set_option maxHeartbeats 4000000 in
theorem tX11_runWater_131 (l : Launch) (G : kx_G) (σ0 : kx_S) {p : Program} {e : Env} {s : State} {m : MethodId} {args : Array Value} {below : List Frame} {meth : Method} {c : Code} (F : CallFix p m c cX11_runWater 3 s args kt_ RX11) (hr : meth.sig.returnType = none) (hlocks : meth.locks = false) (Q : kx_S → Prop) (k69 : Nat → Int32 → kx_S → Prop) (hk69 : ∀ (l0 : Nat) (l1 : Int32) (σ : kx_S) (H : Heap) (locs : List Loc) (ls : Array Slot), k69 l0 l1 σ → kx_X G (xc σ0) s H locs σ → lv_has ls 3 [(0, .ref l0), (1, .int l1)] → kx_W p l e (3) (64) (xc σ0) s m args below meth c H locs σ (MQ below (kx_Q G σ0 (kx_rv Q)) args s (kx_N - xc σ0) (600 * (kx_N - xc σ0)) (kx_A G)) (F0 m 69 ls [])) : ∀ (l0 : Nat) (l1 : Int32) (σ : kx_S) (H : Heap) (locs : List Loc) (ls : Array Slot), wX11_runWater_131 k69 Q l0 l1 σ → kx_X G (xc σ0) s H locs σ → lv_has ls 3 [(0, .ref l0), (1, .int l1)] → kx_W p l e (3) (64) (xc σ0) s m args below meth c H locs σ (MQ below (kx_Q G σ0 (kx_rv Q)) args s (kx_N - xc σ0) (600 * (kx_N - xc σ0)) (kx_A G)) (F0 m 131 ls []) := by
  intro l0 l1 σ H locs ls h C hl
  obtain ⟨v1, ev1⟩ : ∃ z9 : Int32, z9 = l1 + (-1) := ⟨_, rfl⟩
  replace h := h v1 ev1
  refine lv_iinc (v := v1) (lv' := [(1, .int v1), (0, .ref l0)]) F.1 F.2.1 dX11_runWater_131 hl (k := 1) rfl (by rw [ev1]; rfl) (by decide) rfl (fun ls hl => ?_)
  refine lv_goto (tgt := 69) F.1 F.2.1 dX11_runWater_134 (by decide) ?_
  exact hk69 l0 v1 σ H locs ls h C (lv_sub hl [1, 0] rfl)
set_option maxRecDepth 100000 in
set_option maxHeartbeats 4000000 in
theorem tX11_runWater_2 (l : Launch) (G : kx_G) (σ0 : kx_S) {p : Program} {e : Env} {s : State} {m : MethodId} {args : Array Value} {below : List Frame} {meth : Method} {c : Code} (F : CallFix p m c cX11_runWater 3 s args kt_ RX11) (hr : meth.sig.returnType = none) (hlocks : meth.locks = false) (Q : kx_S → Prop) (k57 : Nat → kx_S → Prop) (hk57 : ∀ (l0 : Nat) (σ : kx_S) (H : Heap) (locs : List Loc) (ls : Array Slot), k57 l0 σ → kx_X G (xc σ0) s H locs σ → lv_has ls 3 [(0, .ref l0)] → kx_W p l e (3) (64) (xc σ0) s m args below meth c H locs σ (MQ below (kx_Q G σ0 (kx_rv Q)) args s (kx_N - xc σ0) (600 * (kx_N - xc σ0)) (kx_A G)) (F0 m 57 ls [])) : ∀ (n : Nat) (l0 : Nat) (l1 : Int32) (σ : kx_S) (H : Heap) (locs : List Loc) (ls : Array Slot), wX11_runWater_2 k57 Q n l0 l1 σ → kx_X G (xc σ0) s H locs σ → lv_has ls 3 [(0, .ref l0), (1, .int l1)] → kx_W p l e (3) (64) (xc σ0) s m args below meth c H locs σ (MQ below (kx_Q G σ0 (kx_rv Q)) args s (kx_N - xc σ0) (600 * (kx_N - xc σ0)) (kx_A G)) (F0 m 2 ls []) := by
  intro n
  induction n with
  | zero => intro l0 l1 σ H locs ls h; exact h.elim
  | succ n ih =>
    intro l0 l1 σ H locs ls h C hl
    refine lv_iload_n F.1 F.2.1 dX11_runWater_2 rfl (lv_at hl 1 rfl) ?_
    refine lv_aload_n F.1 F.2.1 dX11_runWater_3 rfl (lv_at hl 0 rfl) ?_
    obtain ⟨ht2, h⟩ := h
    refine xg_X11_reaches F C ht2 ux_479 (fun _ h9 => h9) dX11_runWater_4 ?_
    obtain ⟨a3, ea4, h⟩ := h
    refine xq_nn ea4 ?_
    obtain ⟨ht7, h⟩ := h
    refine xk_Jx4a65c_size_8abf5 F C a3 ht7 h ux_500 (Nat.le_of_ble_eq_true rfl) (Nat.le_of_ble_eq_true rfl) hl.1 (by simp [Value.category]) dX11_runWater_7 (fun r6 σ5 H locs h C => ?_)
    refine lv_icmp_ge (tgt := 57) F.1 F.2.1 dX11_runWater_12 (by decide) (fun c8 => ?_) (fun c8 => ?_)
    · replace h := h.1 c8
      exact hk57 l0 σ5 H locs ls h C (lv_sub hl [0] rfl)
    · replace h := h.2 c8
      refine lv_aload_n F.1 F.2.1 dX11_runWater_15 rfl (lv_at hl 0 rfl) ?_
      obtain ⟨ht9, h⟩ := h
      refine xg_X11_reaches F C ht9 ux_479 (fun _ h9 => h9) dX11_runWater_16 ?_
      obtain ⟨a10, ea11, h⟩ := h
      refine xq_nn ea11 ?_
      refine lv_iload_n F.1 F.2.1 dX11_runWater_19 rfl (lv_at hl 1 rfl) ?_
      obtain ⟨ht14, h⟩ := h
      refine xk_Jx4a65c_get_915e3 F C a10 l1 ht14 h ux_502 (Nat.le_of_ble_eq_true rfl) (Nat.le_of_ble_eq_true rfl) hl.1 (by simp [Value.category]) dX11_runWater_20 (fun q13 σ12 H locs h C => ?_)
      obtain ⟨a15, ea16, h⟩ := h
      refine xq_nn ea16 ?_
      obtain ⟨ht17, h⟩ := h
      refine kx_cast F C (by rw [ht17]; decide) (kx_e10 ht17) rfl ux_503 dX11_runWater_25 ?_
      refine lv_astore_n (lv' := [(2, .ref a15), (0, .ref l0), (1, .int l1)]) F.1 F.2.1 dX11_runWater_28 rfl hl (by decide) rfl (fun ls hl => ?_)
      refine lv_aload_n F.1 F.2.1 dX11_runWater_29 rfl (lv_at hl 0 rfl) ?_
      refine lv_aload_n F.1 F.2.1 dX11_runWater_30 rfl (lv_at hl 0 rfl) ?_
      refine xg_X8_melt F C ht17 ux_538 (fun _ h9 => h9) dX11_runWater_31 ?_
      refine xp_X8_flow (x := xi σ12 164 a15) F C ht17 ux_613 (fun _ h9 => h9) dX11_runWater_34 (fun H locs C => ?_)
      generalize eσ18 : xsi σ12 169 a15 (xi σ12 164 a15) = σ18 at C ⊢
      replace h := h σ18 eσ18.symm
      have ht19 : xt σ18 a15 = 10 := by rw [← eσ18]; exact ht17
      refine lv_aload_n F.1 F.2.1 dX11_runWater_37 rfl (lv_at hl 1 rfl) ?_
      refine lv_dup F.1 F.2.1 dX11_runWater_38 rfl ?_
      obtain ⟨ht20, h⟩ := h
      refine xg_X11_melted F C ht20 ux_614 (fun _ h9 => h9) dX11_runWater_39 ?_
      refine lv_aload_n F.1 F.2.1 dX11_runWater_42 rfl (lv_at hl 0 rfl) ?_
      refine xg_X8_melt F C ht19 ux_538 (fun _ h9 => h9) dX11_runWater_43 ?_
      refine lv_i2l F.1 F.2.1 dX11_runWater_46 rfl ?_
      refine lv_ladd (x := xl σ18 220 l0) (y := (xi σ18 164 a15).toInt64) F.1 F.2.1 dX11_runWater_47 ?_
      refine xp_X11_melted (x := (xl σ18 220 l0) + ((xi σ18 164 a15).toInt64)) F C ht20 ux_614 (fun _ h9 => h9) dX11_runWater_48 (fun H locs C => ?_)
      generalize eσ21 : xsl σ18 220 l0 ((xl σ18 220 l0) + ((xi σ18 164 a15).toInt64)) = σ21 at C ⊢
      replace h := h σ21 eσ21.symm
      have ht22 : xt σ21 a15 = 10 := by rw [← eσ21]; exact ht19
      have ht23 : xt σ21 l0 = 13 := by rw [← eσ21]; exact ht20
      obtain ⟨v24, ev24⟩ : ∃ z9 : Int32, z9 = l1 + 1 := ⟨_, rfl⟩
      replace h := h v24 ev24
      refine lv_iinc (v := v24) (lv' := [(1, .int v24), (2, .ref a15), (0, .ref l0)]) F.1 F.2.1 dX11_runWater_51 hl (k := 2) rfl (by rw [ev24]; rfl) (by decide) rfl (fun ls hl => ?_)
      refine lv_goto (tgt := 2) F.1 F.2.1 dX11_runWater_54 (by decide) ?_
      exact ih l0 v24 σ21 H locs ls h C (lv_sub hl [2, 0] rfl)
set_option maxRecDepth 100000 in
set_option maxHeartbeats 4000000 in
theorem tX11_runWater_69 (l : Launch) (G : kx_G) (σ0 : kx_S) {p : Program} {e : Env} {s : State} {m : MethodId} {args : Array Value} {below : List Frame} {meth : Method} {c : Code} (F : CallFix p m c cX11_runWater 3 s args kt_ RX11) (hr : meth.sig.returnType = none) (hlocks : meth.locks = false) (Q : kx_S → Prop) : ∀ (n : Nat) (l0 : Nat) (l1 : Int32) (σ : kx_S) (H : Heap) (locs : List Loc) (ls : Array Slot), wX11_runWater_69 Q n l0 l1 σ → kx_X G (xc σ0) s H locs σ → lv_has ls 3 [(0, .ref l0), (1, .int l1)] → kx_W p l e (3) (64) (xc σ0) s m args below meth c H locs σ (MQ below (kx_Q G σ0 (kx_rv Q)) args s (kx_N - xc σ0) (600 * (kx_N - xc σ0)) (kx_A G)) (F0 m 69 ls []) := by
  intro n
  induction n with
  | zero => intro l0 l1 σ H locs ls h; exact h.elim
  | succ n ih =>
    intro l0 l1 σ H locs ls h C hl
    refine lv_iload_n F.1 F.2.1 dX11_runWater_69 rfl (lv_at hl 1 rfl) ?_
    refine lv_if_lt (tgt := 137) F.1 F.2.1 dX11_runWater_70 (by decide) (fun c25 => ?_) (fun c25 => ?_)
    · replace h := h.1 c25
      exact kx_vret F C hr hlocks h dX11_runWater_137
    · replace h := h.2 c25
      refine lv_aload_n F.1 F.2.1 dX11_runWater_73 rfl (lv_at hl 0 rfl) ?_
      obtain ⟨ht26, h⟩ := h
      refine xg_X11_reaches F C ht26 ux_479 (fun _ h9 => h9) dX11_runWater_74 ?_
      obtain ⟨a27, ea28, h⟩ := h
      refine xq_nn ea28 ?_
      refine lv_iload_n F.1 F.2.1 dX11_runWater_77 rfl (lv_at hl 1 rfl) ?_
      obtain ⟨ht31, h⟩ := h
      refine xk_Jx4a65c_get_915e3 F C a27 l1 ht31 h ux_502 (Nat.le_of_ble_eq_true rfl) (Nat.le_of_ble_eq_true rfl) hl.1 (by simp [Value.category]) dX11_runWater_78 (fun q30 σ29 H locs h C => ?_)
      obtain ⟨a32, ea33, h⟩ := h
      refine xq_nn ea33 ?_
      obtain ⟨ht34, h⟩ := h
      refine kx_cast F C (by rw [ht34]; decide) (kx_e10 ht34) rfl ux_503 dX11_runWater_83 ?_
      refine lv_astore_n (lv' := [(2, .ref a32), (0, .ref l0), (1, .int l1)]) F.1 F.2.1 dX11_runWater_86 rfl hl (by decide) rfl (fun ls hl => ?_)
      refine lv_aload_n F.1 F.2.1 dX11_runWater_87 rfl (lv_at hl 0 rfl) ?_
      refine xk_X8_passWater F C a32 ht34 h ux_615 (Nat.le_of_ble_eq_true rfl) (Nat.le_of_ble_eq_true rfl) hl.1 (by simp [Value.category]) dX11_runWater_88 (fun σ35 H locs h C => ?_)
      refine lv_aload_n F.1 F.2.1 dX11_runWater_91 rfl (lv_at hl 0 rfl) ?_
      obtain ⟨ht36, h⟩ := h
      refine xg_X8_below F C ht36 ux_616 (fun _ h9 => h9) dX11_runWater_92 ?_
      refine xq_ifnonnull (tgt := 115) F.1 F.2.1 dX11_runWater_95 (by decide) (fun a38 c37 => ?_) (fun c37 => ?_)
      · replace h := h.1 a38 c37
        refine lv_aload_n F.1 F.2.1 dX11_runWater_115 rfl (lv_at hl 0 rfl) ?_
        refine xg_X8_below F C ht36 ux_616 (fun _ h9 => h9) dX11_runWater_116 ?_
        obtain ⟨a39, ea40, h⟩ := h
        refine xq_nn ea40 ?_
        refine lv_dup F.1 F.2.1 dX11_runWater_119 rfl ?_
        obtain ⟨ht41, h⟩ := h
        refine xg_X8_flow F C ht41 ux_613 (fun _ h9 => h9) dX11_runWater_120 ?_
        refine lv_aload_n F.1 F.2.1 dX11_runWater_123 rfl (lv_at hl 0 rfl) ?_
        refine xg_X8_out F C ht36 ux_617 (fun _ h9 => h9) dX11_runWater_124 ?_
        refine lv_iadd (x := xi σ35 169 a39) (y := xi σ35 170 a32) F.1 F.2.1 dX11_runWater_127 ?_
        refine xp_X8_flow (x := (xi σ35 169 a39) + (xi σ35 170 a32)) F C ht41 ux_613 (fun _ h9 => h9) dX11_runWater_128 (fun H locs C => ?_)
        generalize eσ42 : xsi σ35 169 a39 ((xi σ35 169 a39) + (xi σ35 170 a32)) = σ42 at C ⊢
        replace h := h σ42 eσ42.symm
        have ht43 : xt σ42 a32 = 10 := by rw [← eσ42]; exact ht36
        have ht44 : xt σ42 a39 = 10 := by rw [← eσ42]; exact ht41
        exact tX11_runWater_131 l G σ0 F hr hlocks Q (wX11_runWater_69 Q n) (fun l0 l1 σ9 H locs ls h C hl => ih l0 l1 σ9 H locs ls h C hl) l0 l1 σ42 H locs ls h C (lv_sub hl [1, 2] rfl)
      · replace h := h.2 c37
        refine lv_aload_n F.1 F.2.1 dX11_runWater_98 rfl (lv_at hl 1 rfl) ?_
        refine lv_dup F.1 F.2.1 dX11_runWater_99 rfl ?_
        obtain ⟨ht45, h⟩ := h
        refine xg_X11_wentToSea F C ht45 ux_618 (fun _ h9 => h9) dX11_runWater_100 ?_
        refine lv_aload_n F.1 F.2.1 dX11_runWater_103 rfl (lv_at hl 0 rfl) ?_
        refine xg_X8_out F C ht36 ux_617 (fun _ h9 => h9) dX11_runWater_104 ?_
        refine lv_i2l F.1 F.2.1 dX11_runWater_107 rfl ?_
        refine lv_ladd (x := xl σ35 221 l0) (y := (xi σ35 170 a32).toInt64) F.1 F.2.1 dX11_runWater_108 ?_
        refine xp_X11_wentToSea (x := (xl σ35 221 l0) + ((xi σ35 170 a32).toInt64)) F C ht45 ux_618 (fun _ h9 => h9) dX11_runWater_109 (fun H locs C => ?_)
        generalize eσ46 : xsl σ35 221 l0 ((xl σ35 221 l0) + ((xi σ35 170 a32).toInt64)) = σ46 at C ⊢
        replace h := h σ46 eσ46.symm
        have ht47 : xt σ46 a32 = 10 := by rw [← eσ46]; exact ht36
        have ht48 : xt σ46 l0 = 13 := by rw [← eσ46]; exact ht45
        refine lv_goto (tgt := 131) F.1 F.2.1 dX11_runWater_112 (by decide) ?_
        exact tX11_runWater_131 l G σ0 F hr hlocks Q (wX11_runWater_69 Q n) (fun l0 l1 σ9 H locs ls h C hl => ih l0 l1 σ9 H locs ls h C hl) l0 l1 σ46 H locs ls h C (lv_sub hl [1, 2] rfl)
set_option maxRecDepth 100000 in
set_option maxHeartbeats 4000000 in
theorem tX11_runWater_57 (l : Launch) (G : kx_G) (σ0 : kx_S) {p : Program} {e : Env} {s : State} {m : MethodId} {args : Array Value} {below : List Frame} {meth : Method} {c : Code} (F : CallFix p m c cX11_runWater 3 s args kt_ RX11) (hr : meth.sig.returnType = none) (hlocks : meth.locks = false) (Q : kx_S → Prop) : ∀ (l0 : Nat) (σ : kx_S) (H : Heap) (locs : List Loc) (ls : Array Slot), wX11_runWater_57 Q l0 σ → kx_X G (xc σ0) s H locs σ → lv_has ls 3 [(0, .ref l0)] → kx_W p l e (3) (64) (xc σ0) s m args below meth c H locs σ (MQ below (kx_Q G σ0 (kx_rv Q)) args s (kx_N - xc σ0) (600 * (kx_N - xc σ0)) (kx_A G)) (F0 m 57 ls []) := by
  intro l0 σ H locs ls h C hl
  refine lv_aload_n F.1 F.2.1 dX11_runWater_57 rfl (lv_at hl 0 rfl) ?_
  obtain ⟨ht49, h⟩ := h
  refine xg_X11_reaches F C ht49 ux_479 (fun _ h9 => h9) dX11_runWater_58 ?_
  obtain ⟨a50, ea51, h⟩ := h
  refine xq_nn ea51 ?_
  obtain ⟨ht54, h⟩ := h
  refine xk_Jx4a65c_size_8abf5 F C a50 ht54 h ux_500 (Nat.le_of_ble_eq_true rfl) (Nat.le_of_ble_eq_true rfl) hl.1 (by simp [Value.category]) dX11_runWater_61 (fun r53 σ52 H locs h C => ?_)
  refine lv_iconst (v := 1) F.1 F.2.1 dX11_runWater_66 (by decide) ?_
  refine lv_isub (x := r53) (y := 1) F.1 F.2.1 dX11_runWater_67 ?_
  refine lv_topi (fun v55 ev55 => ?_)
  replace h := h v55 ev55
  refine lv_istore_n (lv' := [(1, .int v55), (0, .ref l0)]) F.1 F.2.1 dX11_runWater_68 rfl hl (by decide) rfl (fun ls hl => ?_)
  obtain ⟨n56, h⟩ := h
  exact tX11_runWater_69 l G σ0 F hr hlocks Q n56 l0 v55 σ52 H locs ls h C (lv_sub hl [1, 0] rfl)
set_option maxRecDepth 100000 in
set_option maxHeartbeats 4000000 in
theorem hx_X11_runWater (l : Launch) (G : kx_G) (l0 : Nat) (σ : kx_S) (Q : kx_S → Prop) (h : wX11_runWater l0 σ Q) : kx_M l G yX11_runWater cX11_runWater 3 none (3) (64) [.ref l0] σ (kx_rv Q) := by
  refine kx_enter (by decide) rfl (Nat.le_of_ble_eq_true rfl) ?_
  intro p e s m below meth c ls F hr hlocks C hname hl
  have hl : lv_has ls 3 [(0, .ref l0)] := hl
  obtain ⟨H, eH⟩ : ∃ z9, z9 = s.heap := ⟨_, rfl⟩
  obtain ⟨locs, eL⟩ : ∃ z9 : List Loc, z9 = [] := ⟨_, rfl⟩
  rw [← eH, ← eL] at C
  rw [← eH, ← eL]
  obtain ⟨σ0, e0⟩ : ∃ z9, z9 = σ := ⟨_, rfl⟩
  have C : kx_X G (xc σ0) s H locs σ := by rw [e0]; exact C
  suffices hgo : kx_W p l e (3) (64) (xc σ0) s m ([.ref l0] : List Value).toArray below meth c H locs σ (MQ below (kx_Q G σ0 (kx_rv Q)) ([.ref l0] : List Value).toArray s (kx_N - xc σ0) (600 * (kx_N - xc σ0)) (kx_A G)) (F0 m 0 ls []) by rw [e0] at hgo; exact hgo
  clear e0
  refine lv_iconst (v := 0) F.1 F.2.1 dX11_runWater_0 (by decide) ?_
  refine lv_istore_n (lv' := [(1, .int 0), (0, .ref l0)]) F.1 F.2.1 dX11_runWater_1 rfl hl (by decide) rfl (fun ls hl => ?_)
  obtain ⟨n57, h⟩ := h
  exact tX11_runWater_2 l G σ0 F hr hlocks Q (wX11_runWater_57 Q) (tX11_runWater_57 l G σ0 F hr hlocks Q) n57 l0 0 σ H locs ls h C (lv_sub hl [1, 0] rfl)
section
variable {p : Program} {l : Launch} {e : Env} {fr lo c0 : Nat} {s : State} {m : MethodId} {args : Array Value} {below : List Frame} {meth : Method} {c : Code} {H : Heap} {locs : List Loc} {Q : State → Prop}
variable {cc : ByteArray} {pc nL index : Nat} {ls : Array Slot} {rest : List Value} {G : kx_G} {σ : kx_S} {own : String}
theorem xk_X11_runWater {P : kx_S → Prop} (F : CallFix p m c cc nL s args kt_ own) (C : kx_X G c0 s H locs σ) (l0 : Nat) (ha : xt σ l0 = 13) (h : wX11_runWater l0 σ P) (hw : Cond.methodLink own index yX11_runWater ∈ kt_) (h1 : (3) + 1 ≤ fr) (h2 : 8 + (3 + 11) + (64) ≤ lo) (hsz : ls.size = nL) (hW : (rest.map fun v => v.category).sum ≤ 8) (hdg : decode cc pc = .ok (.invokevirtual index, 3)) (kk : ∀ (u : kx_S) (H1 : Heap) (locs1 : List Loc), P u → kx_X G c0 s H1 locs1 u → kx_W p l e fr lo c0 s m args below meth c H1 locs1 u Q (F0 m (pc + 3) ls rest)) : kx_W p l e fr lo c0 s m args below meth c H locs σ Q (F0 m pc ls (.ref l0 :: rest)) :=
  kx_cV (n := 0) (As := []) (Cn := RX11) F C (hx_X11_runWater l G l0 σ P h) (kt_V hw ux_620 ux_621 ux_117 ux_619) (by decide +kernel) ⟨h1, h2⟩ (kx_recv C (by rw [ha]; decide) (kx_e13 ha) rfl) rfl hsz hW hdg (fun v u H1 locs1 hP9 C9 => by obtain ⟨hv, hp⟩ := hP9; subst hv; exact kk u H1 locs1 hp C9)
end
theorem dX11_leaves_0 : decode cX11_leaves 0 = .ok (.aload_n 2, 1) := by decide +kernel
theorem dX11_leaves_1 : decode cX11_leaves 1 = .ok (.getfield 111, 3) := by decide +kernel
theorem dX11_leaves_4 : decode cX11_leaves 4 = .ok (.ifnull 100, 3) := by decide +kernel
theorem dX11_leaves_7 : decode cX11_leaves 7 = .ok (.aload_n 2, 1) := by decide +kernel
theorem dX11_leaves_8 : decode cX11_leaves 8 = .ok (.getfield 111, 3) := by decide +kernel
theorem dX11_leaves_11 : decode cX11_leaves 11 = .ok (.aload_n 1, 1) := by decide +kernel
theorem dX11_leaves_12 : decode cX11_leaves 12 = .ok (.getfield 295, 3) := by decide +kernel
theorem dX11_leaves_15 : decode cX11_leaves 15 = .ok (.invokevirtual 298, 3) := by decide +kernel
theorem dX11_leaves_18 : decode cX11_leaves 18 = .ok (.ifCond .eq 86, 3) := by decide +kernel
theorem dX11_leaves_21 : decode cX11_leaves 21 = .ok (.aload_n 2, 1) := by decide +kernel
theorem dX11_leaves_22 : decode cX11_leaves 22 = .ok (.getfield 111, 3) := by decide +kernel
theorem dX11_leaves_25 : decode cX11_leaves 25 = .ok (.getfield 301, 3) := by decide +kernel
theorem dX11_leaves_28 : decode cX11_leaves 28 = .ok (.invokeinterface 59 1, 5) := by decide +kernel
theorem dX11_leaves_33 : decode cX11_leaves 33 = .ok (.aload_n 2, 1) := by decide +kernel
theorem dX11_leaves_34 : decode cX11_leaves 34 = .ok (.getfield 111, 3) := by decide +kernel
theorem dX11_leaves_37 : decode cX11_leaves 37 = .ok (.getfield 122, 3) := by decide +kernel
theorem dX11_leaves_40 : decode cX11_leaves 40 = .ok (.if_icmp .lt 5, 3) := by decide +kernel
theorem dX11_leaves_43 : decode cX11_leaves 43 = .ok (.iconst 0, 1) := by decide +kernel
theorem dX11_leaves_44 : decode cX11_leaves 44 = .ok (.ireturn, 1) := by decide +kernel
theorem dX11_leaves_45 : decode cX11_leaves 45 = .ok (.aload_n 0, 1) := by decide +kernel
theorem dX11_leaves_46 : decode cX11_leaves 46 = .ok (.getfield 47, 3) := by decide +kernel
theorem dX11_leaves_49 : decode cX11_leaves 49 = .ok (.aload_n 0, 1) := by decide +kernel
theorem dX11_leaves_50 : decode cX11_leaves 50 = .ok (.invokevirtual 203, 3) := by decide +kernel
theorem dX11_leaves_53 : decode cX11_leaves 53 = .ok (.aload_n 1, 1) := by decide +kernel
theorem dX11_leaves_54 : decode cX11_leaves 54 = .ok (.aload_n 2, 1) := by decide +kernel
theorem dX11_leaves_55 : decode cX11_leaves 55 = .ok (.getfield 90, 3) := by decide +kernel
theorem dX11_leaves_58 : decode cX11_leaves 58 = .ok (.aload_n 0, 1) := by decide +kernel
theorem dX11_leaves_59 : decode cX11_leaves 59 = .ok (.getfield 136, 3) := by decide +kernel
theorem dX11_leaves_62 : decode cX11_leaves 62 = .ok (.invokevirtual 207, 3) := by decide +kernel
theorem dX11_leaves_65 : decode cX11_leaves 65 = .ok (.aload_n 0, 1) := by decide +kernel
theorem dX11_leaves_66 : decode cX11_leaves 66 = .ok (.getfield 51, 3) := by decide +kernel
theorem dX11_leaves_69 : decode cX11_leaves 69 = .ok (.aload_n 1, 1) := by decide +kernel
theorem dX11_leaves_70 : decode cX11_leaves 70 = .ok (.getfield 295, 3) := by decide +kernel
theorem dX11_leaves_73 : decode cX11_leaves 73 = .ok (.dup2, 1) := by decide +kernel
theorem dX11_leaves_74 : decode cX11_leaves 74 = .ok (.laload, 1) := by decide +kernel
theorem dX11_leaves_75 : decode cX11_leaves 75 = .ok (.aload_n 0, 1) := by decide +kernel
theorem dX11_leaves_76 : decode cX11_leaves 76 = .ok (.getfield 47, 3) := by decide +kernel
theorem dX11_leaves_79 : decode cX11_leaves 79 = .ok (.getfield 304, 3) := by decide +kernel
theorem dX11_leaves_82 : decode cX11_leaves 82 = .ok (.ladd, 1) := by decide +kernel
theorem dX11_leaves_83 : decode cX11_leaves 83 = .ok (.lastore, 1) := by decide +kernel
theorem dX11_leaves_84 : decode cX11_leaves 84 = .ok (.aload_n 1, 1) := by decide +kernel
theorem dX11_leaves_85 : decode cX11_leaves 85 = .ok (.invokevirtual 307, 3) := by decide +kernel
theorem dX11_leaves_88 : decode cX11_leaves 88 = .ok (.aload_n 2, 1) := by decide +kernel
theorem dX11_leaves_89 : decode cX11_leaves 89 = .ok (.getfield 111, 3) := by decide +kernel
theorem dX11_leaves_92 : decode cX11_leaves 92 = .ok (.getfield 301, 3) := by decide +kernel
theorem dX11_leaves_95 : decode cX11_leaves 95 = .ok (.aload_n 1, 1) := by decide +kernel
theorem dX11_leaves_96 : decode cX11_leaves 96 = .ok (.invokeinterface 86 2, 5) := by decide +kernel
theorem dX11_leaves_101 : decode cX11_leaves 101 = .ok (.pop, 1) := by decide +kernel
theorem dX11_leaves_102 : decode cX11_leaves 102 = .ok (.iconst 1, 1) := by decide +kernel
theorem dX11_leaves_103 : decode cX11_leaves 103 = .ok (.ireturn, 1) := by decide +kernel
theorem dX11_leaves_104 : decode cX11_leaves 104 = .ok (.aload_n 2, 1) := by decide +kernel
theorem dX11_leaves_105 : decode cX11_leaves 105 = .ok (.getfield 98, 3) := by decide +kernel
theorem dX11_leaves_108 : decode cX11_leaves 108 = .ok (.ifCond .eq 14, 3) := by decide +kernel
theorem dX11_leaves_111 : decode cX11_leaves 111 = .ok (.aload_n 2, 1) := by decide +kernel
theorem dX11_leaves_112 : decode cX11_leaves 112 = .ok (.getfield 263, 3) := by decide +kernel
theorem dX11_leaves_115 : decode cX11_leaves 115 = .ok (.bipush 50, 2) := by decide +kernel
theorem dX11_leaves_117 : decode cX11_leaves 117 = .ok (.if_icmp .ge 5, 3) := by decide +kernel
theorem dX11_leaves_120 : decode cX11_leaves 120 = .ok (.iconst 0, 1) := by decide +kernel
theorem dX11_leaves_121 : decode cX11_leaves 121 = .ok (.ireturn, 1) := by decide +kernel
theorem dX11_leaves_122 : decode cX11_leaves 122 = .ok (.aload_n 2, 1) := by decide +kernel
theorem dX11_leaves_123 : decode cX11_leaves 123 = .ok (.getfield 257, 3) := by decide +kernel
theorem dX11_leaves_126 : decode cX11_leaves 126 = .ok (.ifnonnull 9, 3) := by decide +kernel
theorem dX11_leaves_129 : decode cX11_leaves 129 = .ok (.aload_n 1, 1) := by decide +kernel
theorem dX11_leaves_130 : decode cX11_leaves 130 = .ok (.invokevirtual 310, 3) := by decide +kernel
theorem dX11_leaves_133 : decode cX11_leaves 133 = .ok (.iconst 1, 1) := by decide +kernel
theorem dX11_leaves_134 : decode cX11_leaves 134 = .ok (.ireturn, 1) := by decide +kernel
theorem dX11_leaves_135 : decode cX11_leaves 135 = .ok (.aload_n 2, 1) := by decide +kernel
theorem dX11_leaves_136 : decode cX11_leaves 136 = .ok (.getfield 257, 3) := by decide +kernel
theorem dX11_leaves_139 : decode cX11_leaves 139 = .ok (.aload_n 1, 1) := by decide +kernel
theorem dX11_leaves_140 : decode cX11_leaves 140 = .ok (.iconst 0, 1) := by decide +kernel
theorem dX11_leaves_141 : decode cX11_leaves 141 = .ok (.invokevirtual 214, 3) := by decide +kernel
theorem dX11_leaves_144 : decode cX11_leaves 144 = .ok (.ireturn, 1) := by decide +kernel
def wX11_leaves_122 (Q : Int32 → kx_S → Prop) (l1 : Nat) (l2 : Nat) (σ : kx_S) : Prop := xt σ l2 = 10 ∧ ((∀ a3, xr σ 161 l2 = some a3 → ∃ a4, xr σ 161 l2 = some a4 ∧ xt σ a4 = 10 ∧ wX8_takes a4 l1 0 σ (fun r7 σ6 => narrow .boolean (.int r7) = .int r7 ∧ Q r7 σ6)) ∧
  (xr σ 161 l2 = none → xt σ l1 = 8 ∧ wX6_goToSea l1 σ (fun σ9 => Q 1 σ9)))
def wX11_leaves_104 (Q : Int32 → kx_S → Prop) (l1 : Nat) (l2 : Nat) (σ : kx_S) : Prop := xt σ l2 = 10 ∧ (((xi σ 165 l2) = 0 → wX11_leaves_122 Q l1 l2 σ) ∧
  (¬ ((xi σ 165 l2) = 0) → ((50 ≤ (xi σ 170 l2) → wX11_leaves_122 Q l1 l2 σ) ∧
    (¬ (50 ≤ (xi σ 170 l2)) → Q 0 σ))))
def wX11_leaves (l0 : Nat) (l1 : Nat) (l2 : Nat) (σ : kx_S) (Q : Int32 → kx_S → Prop) : Prop := xt σ l2 = 10 ∧ ((xr σ 172 l2 = none → wX11_leaves_104 Q l1 l2 σ) ∧
  (∀ a16, xr σ 172 l2 = some a16 → ∃ a17, xr σ 172 l2 = some a17 ∧ xt σ l1 = 8 ∧ xt σ a17 = 2 ∧ wX0_catches a17 (xi σ 129 l1) σ (fun r21 σ20 => ((r21 = 0 → wX11_leaves_104 Q l1 l2 σ20) ∧
    (¬ (r21 = 0) → xt σ20 l2 = 10 ∧ ∃ a25, xr σ20 172 l2 = some a25 ∧ xt σ20 a25 = 2 ∧ ∃ a28, xr σ20 32 a25 = some a28 ∧ xt σ20 a28 = 1 ∧ wJx4a65c_size_8abf5 a28 σ20 (fun r31 σ30 => xt σ30 l2 = 10 ∧ ∃ a34, xr σ30 172 l2 = some a34 ∧ xt σ30 a34 = 2 ∧ ((r31 < (xi σ30 35 a34) → xt σ30 l0 = 13 ∧ ∃ a39, xr σ30 215 l0 = some a39 ∧ wX11_lawInForce l0 σ30 (fun q42 σ41 => xt σ41 l2 = 10 ∧ xt σ41 l0 = 13 ∧ xt σ41 a39 = 5 ∧ wX3_weigh a39 q42 l1 (xi σ41 160 l2) (xi σ41 217 l0) σ41 (fun σ45 => xt σ45 l0 = 13 ∧ ∃ a48, xr σ45 216 l0 = some a48 ∧ xt σ45 l1 = 8 ∧ xt σ45 a48 = 21 ∧ vp_in (xi σ45 129 l1) (xn σ45 a48) ∧ ∃ a53, xr σ45 215 l0 = some a53 ∧ xt σ45 a53 = 5 ∧ vp_in (xi σ45 129 l1) (xn σ45 a48) ∧ ∀ σ57, σ57 = xsal σ45 a48 (xi σ45 129 l1).toNatClampNeg ((xal σ45 a48 (xi σ45 129 l1).toNatClampNeg) + (xl σ45 84 a53)) → wX6_lieInHeap l1 σ57 (fun σ62 => xt σ62 l2 = 10 ∧ ∃ a64, xr σ62 172 l2 = some a64 ∧ xt σ62 a64 = 2 ∧ ∃ a67, xr σ62 32 a64 = some a67 ∧ xt σ62 a67 = 1 ∧ wJx4a65c_add_9ea2d a67 l1 σ62 (fun r70 σ69 => Q 1 σ69))))) ∧
      (¬ (r31 < (xi σ30 35 a34)) → Q 0 σ30))))))))
set_option maxRecDepth 100000 in
set_option maxHeartbeats 4000000 in
theorem tX11_leaves_122 (l : Launch) (G : kx_G) (σ0 : kx_S) {p : Program} {e : Env} {s : State} {m : MethodId} {args : Array Value} {below : List Frame} {meth : Method} {c : Code} (F : CallFix p m c cX11_leaves 3 s args kt_ RX11) (hr : meth.sig.returnType = (some .boolean)) (hlocks : meth.locks = false) (Q : Int32 → kx_S → Prop) : ∀ (l1 : Nat) (l2 : Nat) (σ : kx_S) (H : Heap) (locs : List Loc) (ls : Array Slot), wX11_leaves_122 Q l1 l2 σ → kx_X G (xc σ0) s H locs σ → lv_has ls 3 [(1, .ref l1), (2, .ref l2)] → kx_W p l e (8) (253) (xc σ0) s m args below meth c H locs σ (MQ below (kx_Q G σ0 (kx_ri Q)) args s (kx_N - xc σ0) (600 * (kx_N - xc σ0)) (kx_A G)) (F0 m 122 ls []) := by
  intro l1 l2 σ H locs ls h C hl
  refine lv_aload_n F.1 F.2.1 dX11_leaves_122 rfl (lv_at hl 1 rfl) ?_
  obtain ⟨ht1, h⟩ := h
  refine xg_X8_below F C ht1 ux_616 (fun _ h9 => h9) dX11_leaves_123 ?_
  refine xq_ifnonnull (tgt := 135) F.1 F.2.1 dX11_leaves_126 (by decide) (fun a3 c2 => ?_) (fun c2 => ?_)
  · replace h := h.1 a3 c2
    refine lv_aload_n F.1 F.2.1 dX11_leaves_135 rfl (lv_at hl 1 rfl) ?_
    refine xg_X8_below F C ht1 ux_616 (fun _ h9 => h9) dX11_leaves_136 ?_
    obtain ⟨a4, ea5, h⟩ := h
    refine xq_nn ea5 ?_
    refine lv_aload_n F.1 F.2.1 dX11_leaves_139 rfl (lv_at hl 0 rfl) ?_
    refine lv_iconst (v := 0) F.1 F.2.1 dX11_leaves_140 (by decide) ?_
    obtain ⟨ht8, h⟩ := h
    refine xk_X8_takes F C a4 l1 0 ht8 h ux_603 (Nat.le_of_ble_eq_true rfl) (Nat.le_of_ble_eq_true rfl) hl.1 (by simp [Value.category]) dX11_leaves_141 (fun r7 σ6 H locs h C => ?_)
    exact kx_zret F C hr hlocks h.1 h.2 dX11_leaves_144
  · replace h := h.2 c2
    refine lv_aload_n F.1 F.2.1 dX11_leaves_129 rfl (lv_at hl 0 rfl) ?_
    obtain ⟨ht10, h⟩ := h
    refine xk_X6_goToSea F C l1 ht10 h ux_622 (Nat.le_of_ble_eq_true rfl) (Nat.le_of_ble_eq_true rfl) hl.1 (by simp [Value.category]) dX11_leaves_130 (fun σ9 H locs h C => ?_)
    refine lv_iconst (v := 1) F.1 F.2.1 dX11_leaves_133 (by decide) ?_
    exact kx_zret F C hr hlocks rfl h dX11_leaves_134
set_option maxRecDepth 100000 in
set_option maxHeartbeats 4000000 in
theorem tX11_leaves_104 (l : Launch) (G : kx_G) (σ0 : kx_S) {p : Program} {e : Env} {s : State} {m : MethodId} {args : Array Value} {below : List Frame} {meth : Method} {c : Code} (F : CallFix p m c cX11_leaves 3 s args kt_ RX11) (hr : meth.sig.returnType = (some .boolean)) (hlocks : meth.locks = false) (Q : Int32 → kx_S → Prop) : ∀ (l1 : Nat) (l2 : Nat) (σ : kx_S) (H : Heap) (locs : List Loc) (ls : Array Slot), wX11_leaves_104 Q l1 l2 σ → kx_X G (xc σ0) s H locs σ → lv_has ls 3 [(1, .ref l1), (2, .ref l2)] → kx_W p l e (8) (253) (xc σ0) s m args below meth c H locs σ (MQ below (kx_Q G σ0 (kx_ri Q)) args s (kx_N - xc σ0) (600 * (kx_N - xc σ0)) (kx_A G)) (F0 m 104 ls []) := by
  intro l1 l2 σ H locs ls h C hl
  refine lv_aload_n F.1 F.2.1 dX11_leaves_104 rfl (lv_at hl 1 rfl) ?_
  obtain ⟨ht11, h⟩ := h
  refine xg_X8_dammed F C ht11 ux_529 (fun _ h9 => h9) dX11_leaves_105 ?_
  refine lv_if_eq (tgt := 122) F.1 F.2.1 dX11_leaves_108 (by decide) (fun c12 => ?_) (fun c12 => ?_)
  · replace h := h.1 c12
    exact tX11_leaves_122 l G σ0 F hr hlocks Q l1 l2 σ H locs ls h C (lv_sub hl [0, 1] rfl)
  · replace h := h.2 c12
    refine lv_aload_n F.1 F.2.1 dX11_leaves_111 rfl (lv_at hl 1 rfl) ?_
    refine xg_X8_out F C ht11 ux_617 (fun _ h9 => h9) dX11_leaves_112 ?_
    refine lv_bipush (v := 50) F.1 F.2.1 dX11_leaves_115 (by decide) ?_
    refine lv_icmp_ge (tgt := 122) F.1 F.2.1 dX11_leaves_117 (by decide) (fun c13 => ?_) (fun c13 => ?_)
    · replace h := h.1 c13
      exact tX11_leaves_122 l G σ0 F hr hlocks Q l1 l2 σ H locs ls h C (lv_sub hl [0, 1] rfl)
    · replace h := h.2 c13
      refine lv_iconst (v := 0) F.1 F.2.1 dX11_leaves_120 (by decide) ?_
      exact kx_zret F C hr hlocks rfl h dX11_leaves_121
set_option maxRecDepth 100000 in
set_option maxHeartbeats 4000000 in
theorem hx_X11_leaves (l : Launch) (G : kx_G) (l0 : Nat) (l1 : Nat) (l2 : Nat) (σ : kx_S) (Q : Int32 → kx_S → Prop) (h : wX11_leaves l0 l1 l2 σ Q) : kx_M l G yX11_leaves cX11_leaves 3 (some .boolean) (8) (253) [.ref l0, .ref l1, .ref l2] σ (kx_ri Q) := by
  refine kx_enter (by decide) rfl (Nat.le_of_ble_eq_true rfl) ?_
  intro p e s m below meth c ls F hr hlocks C hname hl
  have hl : lv_has ls 3 [(0, .ref l0), (1, .ref l1), (2, .ref l2)] := hl
  obtain ⟨H, eH⟩ : ∃ z9, z9 = s.heap := ⟨_, rfl⟩
  obtain ⟨locs, eL⟩ : ∃ z9 : List Loc, z9 = [] := ⟨_, rfl⟩
  rw [← eH, ← eL] at C
  rw [← eH, ← eL]
  obtain ⟨σ0, e0⟩ : ∃ z9, z9 = σ := ⟨_, rfl⟩
  have C : kx_X G (xc σ0) s H locs σ := by rw [e0]; exact C
  suffices hgo : kx_W p l e (8) (253) (xc σ0) s m ([.ref l0, .ref l1, .ref l2] : List Value).toArray below meth c H locs σ (MQ below (kx_Q G σ0 (kx_ri Q)) ([.ref l0, .ref l1, .ref l2] : List Value).toArray s (kx_N - xc σ0) (600 * (kx_N - xc σ0)) (kx_A G)) (F0 m 0 ls []) by rw [e0] at hgo; exact hgo
  clear e0
  refine lv_aload_n F.1 F.2.1 dX11_leaves_0 rfl (lv_at hl 2 rfl) ?_
  obtain ⟨ht14, h⟩ := h
  refine xg_X8_boom F C ht14 ux_542 (fun _ h9 => h9) dX11_leaves_1 ?_
  refine xq_ifnull (tgt := 104) F.1 F.2.1 dX11_leaves_4 (by decide) (fun c15 => ?_) (fun a16 c15 => ?_)
  · replace h := h.1 c15
    exact tX11_leaves_104 l G σ0 F hr hlocks Q l1 l2 σ H locs ls h C (lv_sub hl [1, 2] rfl)
  · replace h := h.2 a16 c15
    refine lv_aload_n F.1 F.2.1 dX11_leaves_7 rfl (lv_at hl 2 rfl) ?_
    refine xg_X8_boom F C ht14 ux_542 (fun _ h9 => h9) dX11_leaves_8 ?_
    obtain ⟨a17, ea18, h⟩ := h
    refine xq_nn ea18 ?_
    refine lv_aload_n F.1 F.2.1 dX11_leaves_11 rfl (lv_at hl 1 rfl) ?_
    obtain ⟨ht19, h⟩ := h
    refine xg_X6_mark F C ht19 ux_623 (fun _ h9 => h9) dX11_leaves_12 ?_
    obtain ⟨ht22, h⟩ := h
    refine xk_X0_catches F C a17 (xi σ 129 l1) ht22 h ux_624 (Nat.le_of_ble_eq_true rfl) (Nat.le_of_ble_eq_true rfl) hl.1 (by simp [Value.category]) dX11_leaves_15 (fun r21 σ20 H locs h C => ?_)
    refine lv_if_eq (tgt := 104) F.1 F.2.1 dX11_leaves_18 (by decide) (fun c23 => ?_) (fun c23 => ?_)
    · replace h := h.1 c23
      exact tX11_leaves_104 l G σ0 F hr hlocks Q l1 l2 σ20 H locs ls h C (lv_sub hl [1, 2] rfl)
    · replace h := h.2 c23
      refine lv_aload_n F.1 F.2.1 dX11_leaves_21 rfl (lv_at hl 2 rfl) ?_
      obtain ⟨ht24, h⟩ := h
      refine xg_X8_boom F C ht24 ux_542 (fun _ h9 => h9) dX11_leaves_22 ?_
      obtain ⟨a25, ea26, h⟩ := h
      refine xq_nn ea26 ?_
      obtain ⟨ht27, h⟩ := h
      refine xg_X0_heap F C ht27 ux_625 (fun _ h9 => h9) dX11_leaves_25 ?_
      obtain ⟨a28, ea29, h⟩ := h
      refine xq_nn ea29 ?_
      obtain ⟨ht32, h⟩ := h
      refine xk_Jx4a65c_size_8abf5 F C a28 ht32 h ux_500 (Nat.le_of_ble_eq_true rfl) (Nat.le_of_ble_eq_true rfl) hl.1 (by simp [Value.category]) dX11_leaves_28 (fun r31 σ30 H locs h C => ?_)
      refine lv_aload_n F.1 F.2.1 dX11_leaves_33 rfl (lv_at hl 2 rfl) ?_
      obtain ⟨ht33, h⟩ := h
      refine xg_X8_boom F C ht33 ux_542 (fun _ h9 => h9) dX11_leaves_34 ?_
      obtain ⟨a34, ea35, h⟩ := h
      refine xq_nn ea35 ?_
      obtain ⟨ht36, h⟩ := h
      refine xg_X0_room F C ht36 ux_545 (fun _ h9 => h9) dX11_leaves_37 ?_
      refine lv_icmp_lt (tgt := 45) F.1 F.2.1 dX11_leaves_40 (by decide) (fun c37 => ?_) (fun c37 => ?_)
      · replace h := h.1 c37
        refine lv_aload_n F.1 F.2.1 dX11_leaves_45 rfl (lv_at hl 0 rfl) ?_
        obtain ⟨ht38, h⟩ := h
        refine xg_X11_judge F C ht38 ux_492 (fun _ h9 => h9) dX11_leaves_46 ?_
        obtain ⟨a39, ea40, h⟩ := h
        refine xq_nn ea40 ?_
        refine lv_aload_n F.1 F.2.1 dX11_leaves_49 rfl (lv_at hl 0 rfl) ?_
        refine xk_X11_lawInForce F C l0 ht38 h ux_600 (Nat.le_of_ble_eq_true rfl) (Nat.le_of_ble_eq_true rfl) hl.1 (by simp [Value.category]) dX11_leaves_50 (fun q42 σ41 H locs h C => ?_)
        refine lv_aload_n F.1 F.2.1 dX11_leaves_53 rfl (lv_at hl 1 rfl) ?_
        refine lv_aload_n F.1 F.2.1 dX11_leaves_54 rfl (lv_at hl 2 rfl) ?_
        obtain ⟨ht43, h⟩ := h
        refine xg_X8_number F C ht43 ux_520 (fun _ h9 => h9) dX11_leaves_55 ?_
        refine lv_aload_n F.1 F.2.1 dX11_leaves_58 rfl (lv_at hl 0 rfl) ?_
        obtain ⟨ht44, h⟩ := h
        refine xg_X11_hour F C ht44 ux_556 (fun _ h9 => h9) dX11_leaves_59 ?_
        obtain ⟨ht46, h⟩ := h
        refine xk_X3_weigh F C a39 q42 l1 (xi σ41 160 l2) (xi σ41 217 l0) ht46 h ux_601 (Nat.le_of_ble_eq_true rfl) (Nat.le_of_ble_eq_true rfl) hl.1 (by simp [Value.category]) dX11_leaves_62 (fun σ45 H locs h C => ?_)
        refine lv_aload_n F.1 F.2.1 dX11_leaves_65 rfl (lv_at hl 0 rfl) ?_
        obtain ⟨ht47, h⟩ := h
        refine xg_X11_accounts F C ht47 ux_494 (fun _ h9 => h9) dX11_leaves_66 ?_
        obtain ⟨a48, ea49, h⟩ := h
        refine xq_nn ea49 ?_
        refine lv_aload_n F.1 F.2.1 dX11_leaves_69 rfl (lv_at hl 1 rfl) ?_
        obtain ⟨ht50, h⟩ := h
        refine xg_X6_mark F C ht50 ux_623 (fun _ h9 => h9) dX11_leaves_70 ?_
        refine lv_dup2_11 F.1 F.2.1 dX11_leaves_73 rfl rfl ?_
        obtain ⟨ht51, h⟩ := h
        obtain ⟨hn52, h⟩ := h
        refine kx_lald F C ht51 hn52 dX11_leaves_74 ?_
        refine lv_aload_n F.1 F.2.1 dX11_leaves_75 rfl (lv_at hl 0 rfl) ?_
        refine xg_X11_judge F C ht47 ux_492 (fun _ h9 => h9) dX11_leaves_76 ?_
        obtain ⟨a53, ea54, h⟩ := h
        refine xq_nn ea54 ?_
        obtain ⟨ht55, h⟩ := h
        refine xg_X3_toll F C ht55 ux_626 (fun _ h9 => h9) dX11_leaves_79 ?_
        refine lv_ladd (x := xal σ45 a48 (xi σ45 129 l1).toNatClampNeg) (y := xl σ45 84 a53) F.1 F.2.1 dX11_leaves_82 ?_
        obtain ⟨hn56, h⟩ := h
        refine kx_last F C ht51 hn56 dX11_leaves_83 (fun H locs C => ?_)
        generalize eσ57 : xsal σ45 a48 (xi σ45 129 l1).toNatClampNeg ((xal σ45 a48 (xi σ45 129 l1).toNatClampNeg) + (xl σ45 84 a53)) = σ57 at C ⊢
        replace h := h σ57 eσ57.symm
        have ht58 : xt σ57 l0 = 13 := by rw [← eσ57]; exact ht47
        have ht59 : xt σ57 l1 = 8 := by rw [← eσ57]; exact ht50
        have ht60 : xt σ57 a48 = 21 := by rw [← eσ57]; exact ht51
        have ht61 : xt σ57 a53 = 5 := by rw [← eσ57]; exact ht55
        refine lv_aload_n F.1 F.2.1 dX11_leaves_84 rfl (lv_at hl 1 rfl) ?_
        refine xk_X6_lieInHeap F C l1 ht59 h ux_627 (Nat.le_of_ble_eq_true rfl) (Nat.le_of_ble_eq_true rfl) hl.1 (by simp [Value.category]) dX11_leaves_85 (fun σ62 H locs h C => ?_)
        refine lv_aload_n F.1 F.2.1 dX11_leaves_88 rfl (lv_at hl 2 rfl) ?_
        obtain ⟨ht63, h⟩ := h
        refine xg_X8_boom F C ht63 ux_542 (fun _ h9 => h9) dX11_leaves_89 ?_
        obtain ⟨a64, ea65, h⟩ := h
        refine xq_nn ea65 ?_
        obtain ⟨ht66, h⟩ := h
        refine xg_X0_heap F C ht66 ux_625 (fun _ h9 => h9) dX11_leaves_92 ?_
        obtain ⟨a67, ea68, h⟩ := h
        refine xq_nn ea68 ?_
        refine lv_aload_n F.1 F.2.1 dX11_leaves_95 rfl (lv_at hl 1 rfl) ?_
        obtain ⟨ht71, h⟩ := h
        refine xk_Jx4a65c_add_9ea2d F C a67 l1 ht71 h ux_519 (Nat.le_of_ble_eq_true rfl) (Nat.le_of_ble_eq_true rfl) hl.1 (by simp [Value.category]) dX11_leaves_96 (fun r70 σ69 H locs h C => ?_)
        refine lv_pop F.1 F.2.1 dX11_leaves_101 rfl ?_
        refine lv_iconst (v := 1) F.1 F.2.1 dX11_leaves_102 (by decide) ?_
        exact kx_zret F C hr hlocks rfl h dX11_leaves_103
      · replace h := h.2 c37
        refine lv_iconst (v := 0) F.1 F.2.1 dX11_leaves_43 (by decide) ?_
        exact kx_zret F C hr hlocks rfl h dX11_leaves_44
section
variable {p : Program} {l : Launch} {e : Env} {fr lo c0 : Nat} {s : State} {m : MethodId} {args : Array Value} {below : List Frame} {meth : Method} {c : Code} {H : Heap} {locs : List Loc} {Q : State → Prop}
variable {cc : ByteArray} {pc nL index : Nat} {ls : Array Slot} {rest : List Value} {G : kx_G} {σ : kx_S} {own : String}
theorem xk_X11_leaves {P : Int32 → kx_S → Prop} (F : CallFix p m c cc nL s args kt_ own) (C : kx_X G c0 s H locs σ) (l0 : Nat) (l1 : Nat) (l2 : Nat) (ha : xt σ l0 = 13) (h : wX11_leaves l0 l1 l2 σ P) (hw : Cond.methodLink own index yX11_leaves ∈ kt_) (h1 : (8) + 1 ≤ fr) (h2 : 8 + (3 + 11) + (253) ≤ lo) (hsz : ls.size = nL) (hW : (rest.map fun v => v.category).sum ≤ 8) (hdg : decode cc pc = .ok (.invokevirtual index, 3)) (kk : ∀ (r : Int32) (u : kx_S) (H1 : Heap) (locs1 : List Loc), P r u → kx_X G c0 s H1 locs1 u → kx_W p l e fr lo c0 s m args below meth c H1 locs1 u Q (F0 m (pc + 3) ls (.int r :: rest))) : kx_W p l e fr lo c0 s m args below meth c H locs σ Q (F0 m pc ls (.ref l2 :: .ref l1 :: .ref l0 :: rest)) :=
  kx_cV (n := 2) (As := [.ref l1, .ref l2]) (Cn := RX11) F C (hx_X11_leaves l G l0 l1 l2 σ P h) (kt_V hw ux_629 ux_630 ux_117 ux_628) (by decide +kernel) ⟨h1, h2⟩ (kx_recv C (by rw [ha]; decide) (kx_e13 ha) rfl) rfl hsz hW hdg (fun v u H1 locs1 hP9 C9 => by obtain ⟨r, hv, hp⟩ := hP9; subst hv; exact kk r u H1 locs1 hp C9)
end
theorem dX11_movesOn_0 : decode cX11_movesOn 0 = .ok (.iload_n 3, 1) := by decide +kernel
theorem dX11_movesOn_1 : decode cX11_movesOn 1 = .ok (.istore 5, 2) := by decide +kernel
theorem dX11_movesOn_3 : decode cX11_movesOn 3 = .ok (.iload 4, 2) := by decide +kernel
theorem dX11_movesOn_5 : decode cX11_movesOn 5 = .ok (.istore 6, 2) := by decide +kernel
theorem dX11_movesOn_7 : decode cX11_movesOn 7 = .ok (.iload 6, 2) := by decide +kernel
theorem dX11_movesOn_9 : decode cX11_movesOn 9 = .ok (.ifCond .le 23, 3) := by decide +kernel
theorem dX11_movesOn_12 : decode cX11_movesOn 12 = .ok (.aload_n 2, 1) := by decide +kernel
theorem dX11_movesOn_13 : decode cX11_movesOn 13 = .ok (.iload 5, 2) := by decide +kernel
theorem dX11_movesOn_15 : decode cX11_movesOn 15 = .ok (.iconst 1, 1) := by decide +kernel
theorem dX11_movesOn_16 : decode cX11_movesOn 16 = .ok (.iadd, 1) := by decide +kernel
theorem dX11_movesOn_17 : decode cX11_movesOn 17 = .ok (.invokevirtual 287, 3) := by decide +kernel
theorem dX11_movesOn_20 : decode cX11_movesOn 20 = .ok (.ifCond .eq 12, 3) := by decide +kernel
theorem dX11_movesOn_23 : decode cX11_movesOn 23 = .ok (.iinc 5 1, 3) := by decide +kernel
theorem dX11_movesOn_26 : decode cX11_movesOn 26 = .ok (.iinc 6 (-1), 3) := by decide +kernel
theorem dX11_movesOn_29 : decode cX11_movesOn 29 = .ok (.goto (-22), 3) := by decide +kernel
theorem dX11_movesOn_32 : decode cX11_movesOn 32 = .ok (.iload 6, 2) := by decide +kernel
theorem dX11_movesOn_34 : decode cX11_movesOn 34 = .ok (.ifCond .le 30, 3) := by decide +kernel
theorem dX11_movesOn_37 : decode cX11_movesOn 37 = .ok (.iload 5, 2) := by decide +kernel
theorem dX11_movesOn_39 : decode cX11_movesOn 39 = .ok (.aload_n 2, 1) := by decide +kernel
theorem dX11_movesOn_40 : decode cX11_movesOn 40 = .ok (.getfield 78, 3) := by decide +kernel
theorem dX11_movesOn_43 : decode cX11_movesOn 43 = .ok (.invokeinterface 59 1, 5) := by decide +kernel
theorem dX11_movesOn_48 : decode cX11_movesOn 48 = .ok (.iconst 1, 1) := by decide +kernel
theorem dX11_movesOn_49 : decode cX11_movesOn 49 = .ok (.isub, 1) := by decide +kernel
theorem dX11_movesOn_50 : decode cX11_movesOn 50 = .ok (.if_icmp .ne 14, 3) := by decide +kernel
theorem dX11_movesOn_53 : decode cX11_movesOn 53 = .ok (.aload_n 0, 1) := by decide +kernel
theorem dX11_movesOn_54 : decode cX11_movesOn 54 = .ok (.aload_n 1, 1) := by decide +kernel
theorem dX11_movesOn_55 : decode cX11_movesOn 55 = .ok (.aload_n 2, 1) := by decide +kernel
theorem dX11_movesOn_56 : decode cX11_movesOn 56 = .ok (.invokevirtual 291, 3) := by decide +kernel
theorem dX11_movesOn_59 : decode cX11_movesOn 59 = .ok (.ifCond .eq 5, 3) := by decide +kernel
theorem dX11_movesOn_62 : decode cX11_movesOn 62 = .ok (.iconst 1, 1) := by decide +kernel
theorem dX11_movesOn_63 : decode cX11_movesOn 63 = .ok (.ireturn, 1) := by decide +kernel
theorem dX11_movesOn_64 : decode cX11_movesOn 64 = .ok (.iload 5, 2) := by decide +kernel
theorem dX11_movesOn_66 : decode cX11_movesOn 66 = .ok (.iload_n 3, 1) := by decide +kernel
theorem dX11_movesOn_67 : decode cX11_movesOn 67 = .ok (.if_icmp .eq 17, 3) := by decide +kernel
theorem dX11_movesOn_70 : decode cX11_movesOn 70 = .ok (.aload_n 2, 1) := by decide +kernel
theorem dX11_movesOn_71 : decode cX11_movesOn 71 = .ok (.aload_n 1, 1) := by decide +kernel
theorem dX11_movesOn_72 : decode cX11_movesOn 72 = .ok (.iload 5, 2) := by decide +kernel
theorem dX11_movesOn_74 : decode cX11_movesOn 74 = .ok (.invokevirtual 214, 3) := by decide +kernel
theorem dX11_movesOn_77 : decode cX11_movesOn 77 = .ok (.ifCond .eq 7, 3) := by decide +kernel
theorem dX11_movesOn_80 : decode cX11_movesOn 80 = .ok (.iconst 1, 1) := by decide +kernel
theorem dX11_movesOn_81 : decode cX11_movesOn 81 = .ok (.goto 4, 3) := by decide +kernel
theorem dX11_movesOn_84 : decode cX11_movesOn 84 = .ok (.iconst 0, 1) := by decide +kernel
theorem dX11_movesOn_85 : decode cX11_movesOn 85 = .ok (.ireturn, 1) := by decide +kernel
def wX11_movesOn_7 (k32 : Nat → Nat → Nat → Int32 → Int32 → Int32 → kx_S → Prop) (Q : Int32 → kx_S → Prop) : Nat → Nat → Nat → Nat → Int32 → Int32 → Int32 → kx_S → Prop
  | 0, _, _, _, _, _, _, _ => False
  | n + 1, l0, l1, l2, l3, l5, l6, σ => ((l6 ≤ 0 → k32 l0 l1 l2 l3 l5 l6 σ) ∧
    (¬ (l6 ≤ 0) → xt σ l2 = 10 ∧ wX8_canTake l2 (l5 + 1) σ (fun r3 σ2 => ((r3 = 0 → k32 l0 l1 l2 l3 l5 l6 σ2) ∧
      (¬ (r3 = 0) → ∀ v6 : Int32, v6 = l5 + 1 → ∀ v7 : Int32, v7 = l6 + (-1) → wX11_movesOn_7 k32 Q n l0 l1 l2 l3 v6 v7 σ2)))))
def wX11_movesOn_64 (Q : Int32 → kx_S → Prop) (l1 : Nat) (l2 : Nat) (l3 : Int32) (l5 : Int32) (σ : kx_S) : Prop := ((l5 = l3 → Q 0 σ) ∧
  (¬ (l5 = l3) → xt σ l2 = 10 ∧ wX8_takes l2 l1 l5 σ (fun r10 σ9 => ((r10 = 0 → Q 0 σ9) ∧
    (¬ (r10 = 0) → Q 1 σ9)))))
def wX11_movesOn_32 (Q : Int32 → kx_S → Prop) (l0 : Nat) (l1 : Nat) (l2 : Nat) (l3 : Int32) (l5 : Int32) (l6 : Int32) (σ : kx_S) : Prop := ((l6 ≤ 0 → wX11_movesOn_64 Q l1 l2 l3 l5 σ) ∧
  (¬ (l6 ≤ 0) → xt σ l2 = 10 ∧ ∃ a15, xr σ 163 l2 = some a15 ∧ xt σ a15 = 1 ∧ wJx4a65c_size_8abf5 a15 σ (fun r18 σ17 => ((¬ l5 = (r18 - 1) → wX11_movesOn_64 Q l1 l2 l3 l5 σ17) ∧
    (l5 = (r18 - 1) → xt σ17 l0 = 13 ∧ wX11_leaves l0 l1 l2 σ17 (fun r22 σ21 => ((r22 = 0 → wX11_movesOn_64 Q l1 l2 l3 l5 σ21) ∧
      (¬ (r22 = 0) → Q 1 σ21))))))))
def wX11_movesOn (l0 : Nat) (l1 : Nat) (l2 : Nat) (l3 : Int32) (l4 : Int32) (σ : kx_S) (Q : Int32 → kx_S → Prop) : Prop := ∃ j, wX11_movesOn_7 (wX11_movesOn_32 Q) Q j l0 l1 l2 l3 l3 l4 σ
set_option maxRecDepth 100000 in
set_option maxHeartbeats 4000000 in
theorem tX11_movesOn_7 (l : Launch) (G : kx_G) (σ0 : kx_S) {p : Program} {e : Env} {s : State} {m : MethodId} {args : Array Value} {below : List Frame} {meth : Method} {c : Code} (F : CallFix p m c cX11_movesOn 7 s args kt_ RX11) (hr : meth.sig.returnType = (some .boolean)) (hlocks : meth.locks = false) (Q : Int32 → kx_S → Prop) (k32 : Nat → Nat → Nat → Int32 → Int32 → Int32 → kx_S → Prop) (hk32 : ∀ (l0 : Nat) (l1 : Nat) (l2 : Nat) (l3 : Int32) (l5 : Int32) (l6 : Int32) (σ : kx_S) (H : Heap) (locs : List Loc) (ls : Array Slot), k32 l0 l1 l2 l3 l5 l6 σ → kx_X G (xc σ0) s H locs σ → lv_has ls 7 [(0, .ref l0), (1, .ref l1), (2, .ref l2), (3, .int l3), (5, .int l5), (6, .int l6)] → kx_W p l e (9) (275) (xc σ0) s m args below meth c H locs σ (MQ below (kx_Q G σ0 (kx_ri Q)) args s (kx_N - xc σ0) (600 * (kx_N - xc σ0)) (kx_A G)) (F0 m 32 ls [])) : ∀ (n : Nat) (l0 : Nat) (l1 : Nat) (l2 : Nat) (l3 : Int32) (l5 : Int32) (l6 : Int32) (σ : kx_S) (H : Heap) (locs : List Loc) (ls : Array Slot), wX11_movesOn_7 k32 Q n l0 l1 l2 l3 l5 l6 σ → kx_X G (xc σ0) s H locs σ → lv_has ls 7 [(0, .ref l0), (1, .ref l1), (2, .ref l2), (3, .int l3), (5, .int l5), (6, .int l6)] → kx_W p l e (9) (275) (xc σ0) s m args below meth c H locs σ (MQ below (kx_Q G σ0 (kx_ri Q)) args s (kx_N - xc σ0) (600 * (kx_N - xc σ0)) (kx_A G)) (F0 m 7 ls []) := by
  intro n
  induction n with
  | zero => intro l0 l1 l2 l3 l5 l6 σ H locs ls h; exact h.elim
  | succ n ih =>
    intro l0 l1 l2 l3 l5 l6 σ H locs ls h C hl
    refine lv_iload F.1 F.2.1 dX11_movesOn_7 (lv_at hl 5 rfl) ?_
    refine lv_if_le (tgt := 32) F.1 F.2.1 dX11_movesOn_9 (by decide) (fun c1 => ?_) (fun c1 => ?_)
    · replace h := h.1 c1
      exact hk32 l0 l1 l2 l3 l5 l6 σ H locs ls h C (lv_sub hl [0, 1, 2, 3, 4, 5] rfl)
    · replace h := h.2 c1
      refine lv_aload_n F.1 F.2.1 dX11_movesOn_12 rfl (lv_at hl 2 rfl) ?_
      refine lv_iload F.1 F.2.1 dX11_movesOn_13 (lv_at hl 4 rfl) ?_
      refine lv_iconst (v := 1) F.1 F.2.1 dX11_movesOn_15 (by decide) ?_
      refine lv_iadd (x := l5) (y := 1) F.1 F.2.1 dX11_movesOn_16 ?_
      obtain ⟨ht4, h⟩ := h
      refine xk_X8_canTake F C l2 (l5 + 1) ht4 h ux_631 (Nat.le_of_ble_eq_true rfl) (Nat.le_of_ble_eq_true rfl) hl.1 (by simp [Value.category]) dX11_movesOn_17 (fun r3 σ2 H locs h C => ?_)
      refine lv_if_eq (tgt := 32) F.1 F.2.1 dX11_movesOn_20 (by decide) (fun c5 => ?_) (fun c5 => ?_)
      · replace h := h.1 c5
        exact hk32 l0 l1 l2 l3 l5 l6 σ2 H locs ls h C (lv_sub hl [0, 1, 2, 3, 4, 5] rfl)
      · replace h := h.2 c5
        obtain ⟨v6, ev6⟩ : ∃ z9 : Int32, z9 = l5 + 1 := ⟨_, rfl⟩
        replace h := h v6 ev6
        refine lv_iinc (v := v6) (lv' := [(5, .int v6), (0, .ref l0), (1, .ref l1), (2, .ref l2), (3, .int l3), (6, .int l6)]) F.1 F.2.1 dX11_movesOn_23 hl (k := 4) rfl (by rw [ev6]; rfl) (by decide) rfl (fun ls hl => ?_)
        obtain ⟨v7, ev7⟩ : ∃ z9 : Int32, z9 = l6 + (-1) := ⟨_, rfl⟩
        replace h := h v7 ev7
        refine lv_iinc (v := v7) (lv' := [(6, .int v7), (5, .int v6), (0, .ref l0), (1, .ref l1), (2, .ref l2), (3, .int l3)]) F.1 F.2.1 dX11_movesOn_26 hl (k := 5) rfl (by rw [ev7]; rfl) (by decide) rfl (fun ls hl => ?_)
        refine lv_goto (tgt := 7) F.1 F.2.1 dX11_movesOn_29 (by decide) ?_
        exact ih l0 l1 l2 l3 v6 v7 σ2 H locs ls h C (lv_sub hl [2, 3, 4, 5, 1, 0] rfl)
set_option maxRecDepth 100000 in
set_option maxHeartbeats 4000000 in
theorem tX11_movesOn_64 (l : Launch) (G : kx_G) (σ0 : kx_S) {p : Program} {e : Env} {s : State} {m : MethodId} {args : Array Value} {below : List Frame} {meth : Method} {c : Code} (F : CallFix p m c cX11_movesOn 7 s args kt_ RX11) (hr : meth.sig.returnType = (some .boolean)) (hlocks : meth.locks = false) (Q : Int32 → kx_S → Prop) : ∀ (l1 : Nat) (l2 : Nat) (l3 : Int32) (l5 : Int32) (σ : kx_S) (H : Heap) (locs : List Loc) (ls : Array Slot), wX11_movesOn_64 Q l1 l2 l3 l5 σ → kx_X G (xc σ0) s H locs σ → lv_has ls 7 [(1, .ref l1), (2, .ref l2), (3, .int l3), (5, .int l5)] → kx_W p l e (9) (275) (xc σ0) s m args below meth c H locs σ (MQ below (kx_Q G σ0 (kx_ri Q)) args s (kx_N - xc σ0) (600 * (kx_N - xc σ0)) (kx_A G)) (F0 m 64 ls []) := by
  intro l1 l2 l3 l5 σ H locs ls h C hl
  refine lv_iload F.1 F.2.1 dX11_movesOn_64 (lv_at hl 3 rfl) ?_
  refine lv_iload_n F.1 F.2.1 dX11_movesOn_66 rfl (lv_at hl 2 rfl) ?_
  refine lv_icmp_eq (tgt := 84) F.1 F.2.1 dX11_movesOn_67 (by decide) (fun c8 => ?_) (fun c8 => ?_)
  · replace h := h.1 c8
    refine lv_iconst (v := 0) F.1 F.2.1 dX11_movesOn_84 (by decide) ?_
    exact kx_zret F C hr hlocks rfl h dX11_movesOn_85
  · replace h := h.2 c8
    refine lv_aload_n F.1 F.2.1 dX11_movesOn_70 rfl (lv_at hl 1 rfl) ?_
    refine lv_aload_n F.1 F.2.1 dX11_movesOn_71 rfl (lv_at hl 0 rfl) ?_
    refine lv_iload F.1 F.2.1 dX11_movesOn_72 (lv_at hl 3 rfl) ?_
    obtain ⟨ht11, h⟩ := h
    refine xk_X8_takes F C l2 l1 l5 ht11 h ux_603 (Nat.le_of_ble_eq_true rfl) (Nat.le_of_ble_eq_true rfl) hl.1 (by simp [Value.category]) dX11_movesOn_74 (fun r10 σ9 H locs h C => ?_)
    refine lv_if_eq (tgt := 84) F.1 F.2.1 dX11_movesOn_77 (by decide) (fun c12 => ?_) (fun c12 => ?_)
    · replace h := h.1 c12
      refine lv_iconst (v := 0) F.1 F.2.1 dX11_movesOn_84 (by decide) ?_
      exact kx_zret F C hr hlocks rfl h dX11_movesOn_85
    · replace h := h.2 c12
      refine lv_iconst (v := 1) F.1 F.2.1 dX11_movesOn_80 (by decide) ?_
      refine lv_goto (tgt := 85) F.1 F.2.1 dX11_movesOn_81 (by decide) ?_
      exact kx_zret F C hr hlocks rfl h dX11_movesOn_85
set_option maxRecDepth 100000 in
set_option maxHeartbeats 4000000 in
theorem tX11_movesOn_32 (l : Launch) (G : kx_G) (σ0 : kx_S) {p : Program} {e : Env} {s : State} {m : MethodId} {args : Array Value} {below : List Frame} {meth : Method} {c : Code} (F : CallFix p m c cX11_movesOn 7 s args kt_ RX11) (hr : meth.sig.returnType = (some .boolean)) (hlocks : meth.locks = false) (Q : Int32 → kx_S → Prop) : ∀ (l0 : Nat) (l1 : Nat) (l2 : Nat) (l3 : Int32) (l5 : Int32) (l6 : Int32) (σ : kx_S) (H : Heap) (locs : List Loc) (ls : Array Slot), wX11_movesOn_32 Q l0 l1 l2 l3 l5 l6 σ → kx_X G (xc σ0) s H locs σ → lv_has ls 7 [(0, .ref l0), (1, .ref l1), (2, .ref l2), (3, .int l3), (5, .int l5), (6, .int l6)] → kx_W p l e (9) (275) (xc σ0) s m args below meth c H locs σ (MQ below (kx_Q G σ0 (kx_ri Q)) args s (kx_N - xc σ0) (600 * (kx_N - xc σ0)) (kx_A G)) (F0 m 32 ls []) := by
  intro l0 l1 l2 l3 l5 l6 σ H locs ls h C hl
  refine lv_iload F.1 F.2.1 dX11_movesOn_32 (lv_at hl 5 rfl) ?_
  refine lv_if_le (tgt := 64) F.1 F.2.1 dX11_movesOn_34 (by decide) (fun c13 => ?_) (fun c13 => ?_)
  · replace h := h.1 c13
    exact tX11_movesOn_64 l G σ0 F hr hlocks Q l1 l2 l3 l5 σ H locs ls h C (lv_sub hl [1, 2, 3, 4] rfl)
  · replace h := h.2 c13
    refine lv_iload F.1 F.2.1 dX11_movesOn_37 (lv_at hl 4 rfl) ?_
    refine lv_aload_n F.1 F.2.1 dX11_movesOn_39 rfl (lv_at hl 2 rfl) ?_
    obtain ⟨ht14, h⟩ := h
    refine xg_X8_cells F C ht14 ux_513 (fun _ h9 => h9) dX11_movesOn_40 ?_
    obtain ⟨a15, ea16, h⟩ := h
    refine xq_nn ea16 ?_
    obtain ⟨ht19, h⟩ := h
    refine xk_Jx4a65c_size_8abf5 F C a15 ht19 h ux_500 (Nat.le_of_ble_eq_true rfl) (Nat.le_of_ble_eq_true rfl) hl.1 (by simp [Value.category]) dX11_movesOn_43 (fun r18 σ17 H locs h C => ?_)
    refine lv_iconst (v := 1) F.1 F.2.1 dX11_movesOn_48 (by decide) ?_
    refine lv_isub (x := r18) (y := 1) F.1 F.2.1 dX11_movesOn_49 ?_
    refine lv_icmp_ne (tgt := 64) F.1 F.2.1 dX11_movesOn_50 (by decide) (fun c20 => ?_) (fun c20 => ?_)
    · replace h := h.1 c20
      exact tX11_movesOn_64 l G σ0 F hr hlocks Q l1 l2 l3 l5 σ17 H locs ls h C (lv_sub hl [1, 2, 3, 4] rfl)
    · replace h := h.2 c20
      refine lv_aload_n F.1 F.2.1 dX11_movesOn_53 rfl (lv_at hl 0 rfl) ?_
      refine lv_aload_n F.1 F.2.1 dX11_movesOn_54 rfl (lv_at hl 1 rfl) ?_
      refine lv_aload_n F.1 F.2.1 dX11_movesOn_55 rfl (lv_at hl 2 rfl) ?_
      obtain ⟨ht23, h⟩ := h
      refine xk_X11_leaves F C l0 l1 l2 ht23 h ux_632 (Nat.le_of_ble_eq_true rfl) (Nat.le_of_ble_eq_true rfl) hl.1 (by simp [Value.category]) dX11_movesOn_56 (fun r22 σ21 H locs h C => ?_)
      refine lv_if_eq (tgt := 64) F.1 F.2.1 dX11_movesOn_59 (by decide) (fun c24 => ?_) (fun c24 => ?_)
      · replace h := h.1 c24
        exact tX11_movesOn_64 l G σ0 F hr hlocks Q l1 l2 l3 l5 σ21 H locs ls h C (lv_sub hl [1, 2, 3, 4] rfl)
      · replace h := h.2 c24
        refine lv_iconst (v := 1) F.1 F.2.1 dX11_movesOn_62 (by decide) ?_
        exact kx_zret F C hr hlocks rfl h dX11_movesOn_63
set_option maxRecDepth 100000 in
set_option maxHeartbeats 4000000 in
theorem hx_X11_movesOn (l : Launch) (G : kx_G) (l0 : Nat) (l1 : Nat) (l2 : Nat) (l3 : Int32) (l4 : Int32) (σ : kx_S) (Q : Int32 → kx_S → Prop) (h : wX11_movesOn l0 l1 l2 l3 l4 σ Q) : kx_M l G yX11_movesOn cX11_movesOn 7 (some .boolean) (9) (275) [.ref l0, .ref l1, .ref l2, .int l3, .int l4] σ (kx_ri Q) := by
  refine kx_enter (by decide) rfl (Nat.le_of_ble_eq_true rfl) ?_
  intro p e s m below meth c ls F hr hlocks C hname hl
  have hl : lv_has ls 7 [(0, .ref l0), (1, .ref l1), (2, .ref l2), (3, .int l3), (4, .int l4)] := hl
  obtain ⟨H, eH⟩ : ∃ z9, z9 = s.heap := ⟨_, rfl⟩
  obtain ⟨locs, eL⟩ : ∃ z9 : List Loc, z9 = [] := ⟨_, rfl⟩
  rw [← eH, ← eL] at C
  rw [← eH, ← eL]
  obtain ⟨σ0, e0⟩ : ∃ z9, z9 = σ := ⟨_, rfl⟩
  have C : kx_X G (xc σ0) s H locs σ := by rw [e0]; exact C
  suffices hgo : kx_W p l e (9) (275) (xc σ0) s m ([.ref l0, .ref l1, .ref l2, .int l3, .int l4] : List Value).toArray below meth c H locs σ (MQ below (kx_Q G σ0 (kx_ri Q)) ([.ref l0, .ref l1, .ref l2, .int l3, .int l4] : List Value).toArray s (kx_N - xc σ0) (600 * (kx_N - xc σ0)) (kx_A G)) (F0 m 0 ls []) by rw [e0] at hgo; exact hgo
  clear e0
  refine lv_iload_n F.1 F.2.1 dX11_movesOn_0 rfl (lv_at hl 3 rfl) ?_
  refine lv_istore (lv' := [(5, .int l3), (0, .ref l0), (1, .ref l1), (2, .ref l2), (3, .int l3), (4, .int l4)]) F.1 F.2.1 dX11_movesOn_1 hl (by decide) rfl (fun ls hl => ?_)
  refine lv_iload F.1 F.2.1 dX11_movesOn_3 (lv_at hl 5 rfl) ?_
  refine lv_istore (lv' := [(6, .int l4), (5, .int l3), (0, .ref l0), (1, .ref l1), (2, .ref l2), (3, .int l3), (4, .int l4)]) F.1 F.2.1 dX11_movesOn_5 hl (by decide) rfl (fun ls hl => ?_)
  obtain ⟨n25, h⟩ := h
  exact tX11_movesOn_7 l G σ0 F hr hlocks Q (wX11_movesOn_32 Q) (tX11_movesOn_32 l G σ0 F hr hlocks Q) n25 l0 l1 l2 l3 l3 l4 σ H locs ls h C (lv_sub hl [2, 3, 4, 5, 1, 0] rfl)
section
variable {p : Program} {l : Launch} {e : Env} {fr lo c0 : Nat} {s : State} {m : MethodId} {args : Array Value} {below : List Frame} {meth : Method} {c : Code} {H : Heap} {locs : List Loc} {Q : State → Prop}
variable {cc : ByteArray} {pc nL index : Nat} {ls : Array Slot} {rest : List Value} {G : kx_G} {σ : kx_S} {own : String}
theorem xk_X11_movesOn {P : Int32 → kx_S → Prop} (F : CallFix p m c cc nL s args kt_ own) (C : kx_X G c0 s H locs σ) (l0 : Nat) (l1 : Nat) (l2 : Nat) (l3 : Int32) (l4 : Int32) (ha : xt σ l0 = 13) (h : wX11_movesOn l0 l1 l2 l3 l4 σ P) (hw : Cond.methodLink own index yX11_movesOn ∈ kt_) (h1 : (9) + 1 ≤ fr) (h2 : 8 + (7 + 11) + (275) ≤ lo) (hsz : ls.size = nL) (hW : (rest.map fun v => v.category).sum ≤ 8) (hdg : decode cc pc = .ok (.invokevirtual index, 3)) (kk : ∀ (r : Int32) (u : kx_S) (H1 : Heap) (locs1 : List Loc), P r u → kx_X G c0 s H1 locs1 u → kx_W p l e fr lo c0 s m args below meth c H1 locs1 u Q (F0 m (pc + 3) ls (.int r :: rest))) : kx_W p l e fr lo c0 s m args below meth c H locs σ Q (F0 m pc ls (.int l4 :: .int l3 :: .ref l2 :: .ref l1 :: .ref l0 :: rest)) :=
  kx_cV (n := 4) (As := [.ref l1, .ref l2, .int l3, .int l4]) (Cn := RX11) F C (hx_X11_movesOn l G l0 l1 l2 l3 l4 σ P h) (kt_V hw ux_634 ux_635 ux_117 ux_633) (by decide +kernel) ⟨h1, h2⟩ (kx_recv C (by rw [ha]; decide) (kx_e13 ha) rfl) rfl hsz hW hdg (fun v u H1 locs1 hP9 C9 => by obtain ⟨r, hv, hp⟩ := hP9; subst hv; exact kk r u H1 locs1 hp C9)
end
theorem dX11_moveLogsOfCell_0 : decode cX11_moveLogsOfCell 0 = .ok (.aload_n 1, 1) := by decide +kernel
theorem dX11_moveLogsOfCell_1 : decode cX11_moveLogsOfCell 1 = .ok (.getfield 78, 3) := by decide +kernel
theorem dX11_moveLogsOfCell_4 : decode cX11_moveLogsOfCell 4 = .ok (.iload_n 2, 1) := by decide +kernel
theorem dX11_moveLogsOfCell_5 : decode cX11_moveLogsOfCell 5 = .ok (.invokeinterface 69 2, 5) := by decide +kernel
theorem dX11_moveLogsOfCell_10 : decode cX11_moveLogsOfCell 10 = .ok (.checkcast 81, 3) := by decide +kernel
theorem dX11_moveLogsOfCell_13 : decode cX11_moveLogsOfCell 13 = .ok (.astore 4, 2) := by decide +kernel
theorem dX11_moveLogsOfCell_15 : decode cX11_moveLogsOfCell 15 = .ok (.aload 4, 2) := by decide +kernel
theorem dX11_moveLogsOfCell_17 : decode cX11_moveLogsOfCell 17 = .ok (.getfield 276, 3) := by decide +kernel
theorem dX11_moveLogsOfCell_20 : decode cX11_moveLogsOfCell 20 = .ok (.ifCond .eq 4, 3) := by decide +kernel
theorem dX11_moveLogsOfCell_23 : decode cX11_moveLogsOfCell 23 = .ok (.return_, 1) := by decide +kernel
theorem dX11_moveLogsOfCell_24 : decode cX11_moveLogsOfCell 24 = .ok (.iconst 0, 1) := by decide +kernel
theorem dX11_moveLogsOfCell_25 : decode cX11_moveLogsOfCell 25 = .ok (.istore 5, 2) := by decide +kernel
theorem dX11_moveLogsOfCell_27 : decode cX11_moveLogsOfCell 27 = .ok (.aload 4, 2) := by decide +kernel
theorem dX11_moveLogsOfCell_29 : decode cX11_moveLogsOfCell 29 = .ok (.getfield 279, 3) := by decide +kernel
theorem dX11_moveLogsOfCell_32 : decode cX11_moveLogsOfCell 32 = .ok (.invokeinterface 59 1, 5) := by decide +kernel
theorem dX11_moveLogsOfCell_37 : decode cX11_moveLogsOfCell 37 = .ok (.istore 6, 2) := by decide +kernel
theorem dX11_moveLogsOfCell_39 : decode cX11_moveLogsOfCell 39 = .ok (.iload 6, 2) := by decide +kernel
theorem dX11_moveLogsOfCell_41 : decode cX11_moveLogsOfCell 41 = .ok (.ifCond .le 68, 3) := by decide +kernel
theorem dX11_moveLogsOfCell_44 : decode cX11_moveLogsOfCell 44 = .ok (.iload 5, 2) := by decide +kernel
theorem dX11_moveLogsOfCell_46 : decode cX11_moveLogsOfCell 46 = .ok (.aload 4, 2) := by decide +kernel
theorem dX11_moveLogsOfCell_48 : decode cX11_moveLogsOfCell 48 = .ok (.getfield 279, 3) := by decide +kernel
theorem dX11_moveLogsOfCell_51 : decode cX11_moveLogsOfCell 51 = .ok (.invokeinterface 59 1, 5) := by decide +kernel
theorem dX11_moveLogsOfCell_56 : decode cX11_moveLogsOfCell 56 = .ok (.if_icmp .ge 53, 3) := by decide +kernel
theorem dX11_moveLogsOfCell_59 : decode cX11_moveLogsOfCell 59 = .ok (.aload_n 0, 1) := by decide +kernel
theorem dX11_moveLogsOfCell_60 : decode cX11_moveLogsOfCell 60 = .ok (.aload 4, 2) := by decide +kernel
theorem dX11_moveLogsOfCell_62 : decode cX11_moveLogsOfCell 62 = .ok (.getfield 279, 3) := by decide +kernel
theorem dX11_moveLogsOfCell_65 : decode cX11_moveLogsOfCell 65 = .ok (.iload 5, 2) := by decide +kernel
theorem dX11_moveLogsOfCell_67 : decode cX11_moveLogsOfCell 67 = .ok (.invokeinterface 69 2, 5) := by decide +kernel
theorem dX11_moveLogsOfCell_72 : decode cX11_moveLogsOfCell 72 = .ok (.checkcast 187, 3) := by decide +kernel
theorem dX11_moveLogsOfCell_75 : decode cX11_moveLogsOfCell 75 = .ok (.aload_n 1, 1) := by decide +kernel
theorem dX11_moveLogsOfCell_76 : decode cX11_moveLogsOfCell 76 = .ok (.iload_n 2, 1) := by decide +kernel
theorem dX11_moveLogsOfCell_77 : decode cX11_moveLogsOfCell 77 = .ok (.iload_n 3, 1) := by decide +kernel
theorem dX11_moveLogsOfCell_78 : decode cX11_moveLogsOfCell 78 = .ok (.invokevirtual 280, 3) := by decide +kernel
theorem dX11_moveLogsOfCell_81 : decode cX11_moveLogsOfCell 81 = .ok (.ifCond .eq 19, 3) := by decide +kernel
theorem dX11_moveLogsOfCell_84 : decode cX11_moveLogsOfCell 84 = .ok (.aload 4, 2) := by decide +kernel
theorem dX11_moveLogsOfCell_86 : decode cX11_moveLogsOfCell 86 = .ok (.getfield 279, 3) := by decide +kernel
theorem dX11_moveLogsOfCell_89 : decode cX11_moveLogsOfCell 89 = .ok (.iload 5, 2) := by decide +kernel
theorem dX11_moveLogsOfCell_91 : decode cX11_moveLogsOfCell 91 = .ok (.invokeinterface 284 2, 5) := by decide +kernel
theorem dX11_moveLogsOfCell_96 : decode cX11_moveLogsOfCell 96 = .ok (.pop, 1) := by decide +kernel
theorem dX11_moveLogsOfCell_97 : decode cX11_moveLogsOfCell 97 = .ok (.goto 6, 3) := by decide +kernel
theorem dX11_moveLogsOfCell_100 : decode cX11_moveLogsOfCell 100 = .ok (.iinc 5 1, 3) := by decide +kernel
theorem dX11_moveLogsOfCell_103 : decode cX11_moveLogsOfCell 103 = .ok (.iinc 6 (-1), 3) := by decide +kernel
theorem dX11_moveLogsOfCell_106 : decode cX11_moveLogsOfCell 106 = .ok (.goto (-67), 3) := by decide +kernel
theorem dX11_moveLogsOfCell_109 : decode cX11_moveLogsOfCell 109 = .ok (.return_, 1) := by decide +kernel
def wX11_moveLogsOfCell_103 (k39 : Nat → Nat → Int32 → Int32 → Nat → Int32 → Int32 → kx_S → Prop) (Q : kx_S → Prop) (l0 : Nat) (l1 : Nat) (l2 : Int32) (l3 : Int32) (l4 : Nat) (l5 : Int32) (l6 : Int32) (σ : kx_S) : Prop := ∀ v1 : Int32, v1 = l6 + (-1) → k39 l0 l1 l2 l3 l4 l5 v1 σ
def wX11_moveLogsOfCell_39 (Q : kx_S → Prop) : Nat → Nat → Nat → Int32 → Int32 → Nat → Int32 → Int32 → kx_S → Prop
  | 0, _, _, _, _, _, _, _, _ => False
  | n + 1, l0, l1, l2, l3, l4, l5, l6, σ => ((l6 ≤ 0 → Q σ) ∧
    (¬ (l6 ≤ 0) → xt σ l4 = 3 ∧ ∃ a4, xr σ 49 l4 = some a4 ∧ xt σ a4 = 1 ∧ wJx4a65c_size_8abf5 a4 σ (fun r7 σ6 => ((r7 ≤ l5 → Q σ6) ∧
      (¬ (r7 ≤ l5) → xt σ6 l4 = 3 ∧ ∃ a11, xr σ6 49 l4 = some a11 ∧ xt σ6 a11 = 1 ∧ wJx4a65c_get_915e3 a11 l5 σ6 (fun q14 σ13 => ∃ a16, q14 = some a16 ∧ xt σ13 a16 = 8 ∧ xt σ13 l0 = 13 ∧ wX11_movesOn l0 a16 l1 l2 l3 σ13 (fun r20 σ19 => ((r20 = 0 → ∀ v23 : Int32, v23 = l5 + 1 → wX11_moveLogsOfCell_103 (wX11_moveLogsOfCell_39 Q n) Q l0 l1 l2 l3 l4 v23 l6 σ19) ∧
        (¬ (r20 = 0) → xt σ19 l4 = 3 ∧ ∃ a25, xr σ19 49 l4 = some a25 ∧ xt σ19 a25 = 1 ∧ wJx4a65c_remove_915e3 a25 l5 σ19 (fun q28 σ27 => wX11_moveLogsOfCell_103 (wX11_moveLogsOfCell_39 Q n) Q l0 l1 l2 l3 l4 l5 l6 σ27))))))))))
def wX11_moveLogsOfCell (l0 : Nat) (l1 : Nat) (l2 : Int32) (l3 : Int32) (σ : kx_S) (Q : kx_S → Prop) : Prop := xt σ l1 = 10 ∧ ∃ a31, xr σ 163 l1 = some a31 ∧ xt σ a31 = 1 ∧ wJx4a65c_get_915e3 a31 l2 σ (fun q34 σ33 => ∃ a36, q34 = some a36 ∧ xt σ33 a36 = 3 ∧ (((xi σ33 50 a36) = 0 → ∃ a40, xr σ33 49 a36 = some a40 ∧ xt σ33 a40 = 1 ∧ wJx4a65c_size_8abf5 a40 σ33 (fun r43 σ42 => ∃ j, wX11_moveLogsOfCell_39 Q j l0 l1 l2 l3 a36 0 r43 σ42)) ∧
  (¬ ((xi σ33 50 a36) = 0) → Q σ33)))
set_option maxRecDepth 100000 in
set_option maxHeartbeats 4000000 in
theorem tX11_moveLogsOfCell_103 (l : Launch) (G : kx_G) (σ0 : kx_S) {p : Program} {e : Env} {s : State} {m : MethodId} {args : Array Value} {below : List Frame} {meth : Method} {c : Code} (F : CallFix p m c cX11_moveLogsOfCell 7 s args kt_ RX11) (hr : meth.sig.returnType = none) (hlocks : meth.locks = false) (Q : kx_S → Prop) (k39 : Nat → Nat → Int32 → Int32 → Nat → Int32 → Int32 → kx_S → Prop) (hk39 : ∀ (l0 : Nat) (l1 : Nat) (l2 : Int32) (l3 : Int32) (l4 : Nat) (l5 : Int32) (l6 : Int32) (σ : kx_S) (H : Heap) (locs : List Loc) (ls : Array Slot), k39 l0 l1 l2 l3 l4 l5 l6 σ → kx_X G (xc σ0) s H locs σ → lv_has ls 7 [(0, .ref l0), (1, .ref l1), (2, .int l2), (3, .int l3), (4, .ref l4), (5, .int l5), (6, .int l6)] → kx_W p l e (10) (301) (xc σ0) s m args below meth c H locs σ (MQ below (kx_Q G σ0 (kx_rv Q)) args s (kx_N - xc σ0) (600 * (kx_N - xc σ0)) (kx_A G)) (F0 m 39 ls [])) : ∀ (l0 : Nat) (l1 : Nat) (l2 : Int32) (l3 : Int32) (l4 : Nat) (l5 : Int32) (l6 : Int32) (σ : kx_S) (H : Heap) (locs : List Loc) (ls : Array Slot), wX11_moveLogsOfCell_103 k39 Q l0 l1 l2 l3 l4 l5 l6 σ → kx_X G (xc σ0) s H locs σ → lv_has ls 7 [(0, .ref l0), (1, .ref l1), (2, .int l2), (3, .int l3), (4, .ref l4), (5, .int l5), (6, .int l6)] → kx_W p l e (10) (301) (xc σ0) s m args below meth c H locs σ (MQ below (kx_Q G σ0 (kx_rv Q)) args s (kx_N - xc σ0) (600 * (kx_N - xc σ0)) (kx_A G)) (F0 m 103 ls []) := by
  intro l0 l1 l2 l3 l4 l5 l6 σ H locs ls h C hl
  obtain ⟨v1, ev1⟩ : ∃ z9 : Int32, z9 = l6 + (-1) := ⟨_, rfl⟩
  replace h := h v1 ev1
  refine lv_iinc (v := v1) (lv' := [(6, .int v1), (0, .ref l0), (1, .ref l1), (2, .int l2), (3, .int l3), (4, .ref l4), (5, .int l5)]) F.1 F.2.1 dX11_moveLogsOfCell_103 hl (k := 6) rfl (by rw [ev1]; rfl) (by decide) rfl (fun ls hl => ?_)
  refine lv_goto (tgt := 39) F.1 F.2.1 dX11_moveLogsOfCell_106 (by decide) ?_
  exact hk39 l0 l1 l2 l3 l4 l5 v1 σ H locs ls h C (lv_sub hl [1, 2, 3, 4, 5, 6, 0] rfl)
set_option maxRecDepth 100000 in
set_option maxHeartbeats 4000000 in
theorem tX11_moveLogsOfCell_39 (l : Launch) (G : kx_G) (σ0 : kx_S) {p : Program} {e : Env} {s : State} {m : MethodId} {args : Array Value} {below : List Frame} {meth : Method} {c : Code} (F : CallFix p m c cX11_moveLogsOfCell 7 s args kt_ RX11) (hr : meth.sig.returnType = none) (hlocks : meth.locks = false) (Q : kx_S → Prop) : ∀ (n : Nat) (l0 : Nat) (l1 : Nat) (l2 : Int32) (l3 : Int32) (l4 : Nat) (l5 : Int32) (l6 : Int32) (σ : kx_S) (H : Heap) (locs : List Loc) (ls : Array Slot), wX11_moveLogsOfCell_39 Q n l0 l1 l2 l3 l4 l5 l6 σ → kx_X G (xc σ0) s H locs σ → lv_has ls 7 [(0, .ref l0), (1, .ref l1), (2, .int l2), (3, .int l3), (4, .ref l4), (5, .int l5), (6, .int l6)] → kx_W p l e (10) (301) (xc σ0) s m args below meth c H locs σ (MQ below (kx_Q G σ0 (kx_rv Q)) args s (kx_N - xc σ0) (600 * (kx_N - xc σ0)) (kx_A G)) (F0 m 39 ls []) := by
  intro n
  induction n with
  | zero => intro l0 l1 l2 l3 l4 l5 l6 σ H locs ls h; exact h.elim
  | succ n ih =>
    intro l0 l1 l2 l3 l4 l5 l6 σ H locs ls h C hl
    refine lv_iload F.1 F.2.1 dX11_moveLogsOfCell_39 (lv_at hl 6 rfl) ?_
    refine lv_if_le (tgt := 109) F.1 F.2.1 dX11_moveLogsOfCell_41 (by decide) (fun c2 => ?_) (fun c2 => ?_)
    · replace h := h.1 c2
      exact kx_vret F C hr hlocks h dX11_moveLogsOfCell_109
    · replace h := h.2 c2
      refine lv_iload F.1 F.2.1 dX11_moveLogsOfCell_44 (lv_at hl 5 rfl) ?_
      refine lv_aload F.1 F.2.1 dX11_moveLogsOfCell_46 (lv_at hl 4 rfl) ?_
      obtain ⟨ht3, h⟩ := h
      refine xg_X1_logs F C ht3 ux_636 (fun _ h9 => h9) dX11_moveLogsOfCell_48 ?_
      obtain ⟨a4, ea5, h⟩ := h
      refine xq_nn ea5 ?_
      obtain ⟨ht8, h⟩ := h
      refine xk_Jx4a65c_size_8abf5 F C a4 ht8 h ux_500 (Nat.le_of_ble_eq_true rfl) (Nat.le_of_ble_eq_true rfl) hl.1 (by simp [Value.category]) dX11_moveLogsOfCell_51 (fun r7 σ6 H locs h C => ?_)
      refine lv_icmp_ge (tgt := 109) F.1 F.2.1 dX11_moveLogsOfCell_56 (by decide) (fun c9 => ?_) (fun c9 => ?_)
      · replace h := h.1 c9
        exact kx_vret F C hr hlocks h dX11_moveLogsOfCell_109
      · replace h := h.2 c9
        refine lv_aload_n F.1 F.2.1 dX11_moveLogsOfCell_59 rfl (lv_at hl 0 rfl) ?_
        refine lv_aload F.1 F.2.1 dX11_moveLogsOfCell_60 (lv_at hl 4 rfl) ?_
        obtain ⟨ht10, h⟩ := h
        refine xg_X1_logs F C ht10 ux_636 (fun _ h9 => h9) dX11_moveLogsOfCell_62 ?_
        obtain ⟨a11, ea12, h⟩ := h
        refine xq_nn ea12 ?_
        refine lv_iload F.1 F.2.1 dX11_moveLogsOfCell_65 (lv_at hl 5 rfl) ?_
        obtain ⟨ht15, h⟩ := h
        refine xk_Jx4a65c_get_915e3 F C a11 l5 ht15 h ux_502 (Nat.le_of_ble_eq_true rfl) (Nat.le_of_ble_eq_true rfl) hl.1 (by simp [Value.category]) dX11_moveLogsOfCell_67 (fun q14 σ13 H locs h C => ?_)
        obtain ⟨a16, ea17, h⟩ := h
        refine xq_nn ea17 ?_
        obtain ⟨ht18, h⟩ := h
        refine kx_cast F C (by rw [ht18]; decide) (kx_e8 ht18) rfl ux_509 dX11_moveLogsOfCell_72 ?_
        refine lv_aload_n F.1 F.2.1 dX11_moveLogsOfCell_75 rfl (lv_at hl 1 rfl) ?_
        refine lv_iload_n F.1 F.2.1 dX11_moveLogsOfCell_76 rfl (lv_at hl 2 rfl) ?_
        refine lv_iload_n F.1 F.2.1 dX11_moveLogsOfCell_77 rfl (lv_at hl 3 rfl) ?_
        obtain ⟨ht21, h⟩ := h
        refine xk_X11_movesOn F C l0 a16 l1 l2 l3 ht21 h ux_637 (Nat.le_of_ble_eq_true rfl) (Nat.le_of_ble_eq_true rfl) hl.1 (by simp [Value.category]) dX11_moveLogsOfCell_78 (fun r20 σ19 H locs h C => ?_)
        refine lv_if_eq (tgt := 100) F.1 F.2.1 dX11_moveLogsOfCell_81 (by decide) (fun c22 => ?_) (fun c22 => ?_)
        · replace h := h.1 c22
          obtain ⟨v23, ev23⟩ : ∃ z9 : Int32, z9 = l5 + 1 := ⟨_, rfl⟩
          replace h := h v23 ev23
          refine lv_iinc (v := v23) (lv' := [(5, .int v23), (0, .ref l0), (1, .ref l1), (2, .int l2), (3, .int l3), (4, .ref l4), (6, .int l6)]) F.1 F.2.1 dX11_moveLogsOfCell_100 hl (k := 5) rfl (by rw [ev23]; rfl) (by decide) rfl (fun ls hl => ?_)
          exact tX11_moveLogsOfCell_103 l G σ0 F hr hlocks Q (wX11_moveLogsOfCell_39 Q n) (fun l0 l1 l2 l3 l4 l5 l6 σ9 H locs ls h C hl => ih l0 l1 l2 l3 l4 l5 l6 σ9 H locs ls h C hl) l0 l1 l2 l3 l4 v23 l6 σ19 H locs ls h C (lv_sub hl [1, 2, 3, 4, 5, 0, 6] rfl)
        · replace h := h.2 c22
          refine lv_aload F.1 F.2.1 dX11_moveLogsOfCell_84 (lv_at hl 4 rfl) ?_
          obtain ⟨ht24, h⟩ := h
          refine xg_X1_logs F C ht24 ux_636 (fun _ h9 => h9) dX11_moveLogsOfCell_86 ?_
          obtain ⟨a25, ea26, h⟩ := h
          refine xq_nn ea26 ?_
          refine lv_iload F.1 F.2.1 dX11_moveLogsOfCell_89 (lv_at hl 5 rfl) ?_
          obtain ⟨ht29, h⟩ := h
          refine xk_Jx4a65c_remove_915e3 F C a25 l5 ht29 h ux_638 (Nat.le_of_ble_eq_true rfl) (Nat.le_of_ble_eq_true rfl) hl.1 (by simp [Value.category]) dX11_moveLogsOfCell_91 (fun q28 σ27 H locs h C => ?_)
          refine lv_pop F.1 F.2.1 dX11_moveLogsOfCell_96 (by cases q28 <;> rfl) ?_
          refine lv_goto (tgt := 103) F.1 F.2.1 dX11_moveLogsOfCell_97 (by decide) ?_
          exact tX11_moveLogsOfCell_103 l G σ0 F hr hlocks Q (wX11_moveLogsOfCell_39 Q n) (fun l0 l1 l2 l3 l4 l5 l6 σ9 H locs ls h C hl => ih l0 l1 l2 l3 l4 l5 l6 σ9 H locs ls h C hl) l0 l1 l2 l3 l4 l5 l6 σ27 H locs ls h C (lv_sub hl [0, 1, 2, 3, 4, 5, 6] rfl)
set_option maxRecDepth 100000 in
set_option maxHeartbeats 4000000 in
theorem hx_X11_moveLogsOfCell (l : Launch) (G : kx_G) (l0 : Nat) (l1 : Nat) (l2 : Int32) (l3 : Int32) (σ : kx_S) (Q : kx_S → Prop) (h : wX11_moveLogsOfCell l0 l1 l2 l3 σ Q) : kx_M l G yX11_moveLogsOfCell cX11_moveLogsOfCell 7 none (10) (301) [.ref l0, .ref l1, .int l2, .int l3] σ (kx_rv Q) := by
  refine kx_enter (by decide) rfl (Nat.le_of_ble_eq_true rfl) ?_
  intro p e s m below meth c ls F hr hlocks C hname hl
  have hl : lv_has ls 7 [(0, .ref l0), (1, .ref l1), (2, .int l2), (3, .int l3)] := hl
  obtain ⟨H, eH⟩ : ∃ z9, z9 = s.heap := ⟨_, rfl⟩
  obtain ⟨locs, eL⟩ : ∃ z9 : List Loc, z9 = [] := ⟨_, rfl⟩
  rw [← eH, ← eL] at C
  rw [← eH, ← eL]
  obtain ⟨σ0, e0⟩ : ∃ z9, z9 = σ := ⟨_, rfl⟩
  have C : kx_X G (xc σ0) s H locs σ := by rw [e0]; exact C
  suffices hgo : kx_W p l e (10) (301) (xc σ0) s m ([.ref l0, .ref l1, .int l2, .int l3] : List Value).toArray below meth c H locs σ (MQ below (kx_Q G σ0 (kx_rv Q)) ([.ref l0, .ref l1, .int l2, .int l3] : List Value).toArray s (kx_N - xc σ0) (600 * (kx_N - xc σ0)) (kx_A G)) (F0 m 0 ls []) by rw [e0] at hgo; exact hgo
  clear e0
  refine lv_aload_n F.1 F.2.1 dX11_moveLogsOfCell_0 rfl (lv_at hl 1 rfl) ?_
  obtain ⟨ht30, h⟩ := h
  refine xg_X8_cells F C ht30 ux_513 (fun _ h9 => h9) dX11_moveLogsOfCell_1 ?_
  obtain ⟨a31, ea32, h⟩ := h
  refine xq_nn ea32 ?_
  refine lv_iload_n F.1 F.2.1 dX11_moveLogsOfCell_4 rfl (lv_at hl 2 rfl) ?_
  obtain ⟨ht35, h⟩ := h
  refine xk_Jx4a65c_get_915e3 F C a31 l2 ht35 h ux_502 (Nat.le_of_ble_eq_true rfl) (Nat.le_of_ble_eq_true rfl) hl.1 (by simp [Value.category]) dX11_moveLogsOfCell_5 (fun q34 σ33 H locs h C => ?_)
  obtain ⟨a36, ea37, h⟩ := h
  refine xq_nn ea37 ?_
  obtain ⟨ht38, h⟩ := h
  refine kx_cast F C (by rw [ht38]; decide) (kx_e3 ht38) rfl ux_521 dX11_moveLogsOfCell_10 ?_
  refine lv_astore (lv' := [(4, .ref a36), (0, .ref l0), (1, .ref l1), (2, .int l2), (3, .int l3)]) F.1 F.2.1 dX11_moveLogsOfCell_13 hl (by decide) rfl (fun ls hl => ?_)
  refine lv_aload F.1 F.2.1 dX11_moveLogsOfCell_15 (lv_at hl 0 rfl) ?_
  refine xg_X1_jammed F C ht38 ux_639 (fun _ h9 => h9) dX11_moveLogsOfCell_17 ?_
  refine lv_if_eq (tgt := 24) F.1 F.2.1 dX11_moveLogsOfCell_20 (by decide) (fun c39 => ?_) (fun c39 => ?_)
  · replace h := h.1 c39
    refine lv_iconst (v := 0) F.1 F.2.1 dX11_moveLogsOfCell_24 (by decide) ?_
    refine lv_istore (lv' := [(5, .int 0), (4, .ref a36), (0, .ref l0), (1, .ref l1), (2, .int l2), (3, .int l3)]) F.1 F.2.1 dX11_moveLogsOfCell_25 hl (by decide) rfl (fun ls hl => ?_)
    refine lv_aload F.1 F.2.1 dX11_moveLogsOfCell_27 (lv_at hl 1 rfl) ?_
    refine xg_X1_logs F C ht38 ux_636 (fun _ h9 => h9) dX11_moveLogsOfCell_29 ?_
    obtain ⟨a40, ea41, h⟩ := h
    refine xq_nn ea41 ?_
    obtain ⟨ht44, h⟩ := h
    refine xk_Jx4a65c_size_8abf5 F C a40 ht44 h ux_500 (Nat.le_of_ble_eq_true rfl) (Nat.le_of_ble_eq_true rfl) hl.1 (by simp [Value.category]) dX11_moveLogsOfCell_32 (fun r43 σ42 H locs h C => ?_)
    refine lv_istore (lv' := [(6, .int r43), (5, .int 0), (4, .ref a36), (0, .ref l0), (1, .ref l1), (2, .int l2), (3, .int l3)]) F.1 F.2.1 dX11_moveLogsOfCell_37 hl (by decide) rfl (fun ls hl => ?_)
    obtain ⟨n45, h⟩ := h
    exact tX11_moveLogsOfCell_39 l G σ0 F hr hlocks Q n45 l0 l1 l2 l3 a36 0 r43 σ42 H locs ls h C (lv_sub hl [3, 4, 5, 6, 2, 1, 0] rfl)
  · replace h := h.2 c39
    exact kx_vret F C hr hlocks h dX11_moveLogsOfCell_23
section
variable {p : Program} {l : Launch} {e : Env} {fr lo c0 : Nat} {s : State} {m : MethodId} {args : Array Value} {below : List Frame} {meth : Method} {c : Code} {H : Heap} {locs : List Loc} {Q : State → Prop}
variable {cc : ByteArray} {pc nL index : Nat} {ls : Array Slot} {rest : List Value} {G : kx_G} {σ : kx_S} {own : String}
theorem xk_X11_moveLogsOfCell {P : kx_S → Prop} (F : CallFix p m c cc nL s args kt_ own) (C : kx_X G c0 s H locs σ) (l0 : Nat) (l1 : Nat) (l2 : Int32) (l3 : Int32) (ha : xt σ l0 = 13) (h : wX11_moveLogsOfCell l0 l1 l2 l3 σ P) (hw : Cond.methodLink own index yX11_moveLogsOfCell ∈ kt_) (h1 : (10) + 1 ≤ fr) (h2 : 8 + (7 + 11) + (301) ≤ lo) (hsz : ls.size = nL) (hW : (rest.map fun v => v.category).sum ≤ 8) (hdg : decode cc pc = .ok (.invokevirtual index, 3)) (kk : ∀ (u : kx_S) (H1 : Heap) (locs1 : List Loc), P u → kx_X G c0 s H1 locs1 u → kx_W p l e fr lo c0 s m args below meth c H1 locs1 u Q (F0 m (pc + 3) ls rest)) : kx_W p l e fr lo c0 s m args below meth c H locs σ Q (F0 m pc ls (.int l3 :: .int l2 :: .ref l1 :: .ref l0 :: rest)) :=
  kx_cV (n := 3) (As := [.ref l1, .int l2, .int l3]) (Cn := RX11) F C (hx_X11_moveLogsOfCell l G l0 l1 l2 l3 σ P h) (kt_V hw ux_641 ux_642 ux_117 ux_640) (by decide +kernel) ⟨h1, h2⟩ (kx_recv C (by rw [ha]; decide) (kx_e13 ha) rfl) rfl hsz hW hdg (fun v u H1 locs1 hP9 C9 => by obtain ⟨hv, hp⟩ := hP9; subst hv; exact kk u H1 locs1 hp C9)
end
theorem dX11_moveLogs_0 : decode cX11_moveLogs 0 = .ok (.iconst 0, 1) := by decide +kernel
theorem dX11_moveLogs_1 : decode cX11_moveLogs 1 = .ok (.istore_n 1, 1) := by decide +kernel
theorem dX11_moveLogs_2 : decode cX11_moveLogs 2 = .ok (.iload_n 1, 1) := by decide +kernel
theorem dX11_moveLogs_3 : decode cX11_moveLogs 3 = .ok (.aload_n 0, 1) := by decide +kernel
theorem dX11_moveLogs_4 : decode cX11_moveLogs 4 = .ok (.getfield 10, 3) := by decide +kernel
theorem dX11_moveLogs_7 : decode cX11_moveLogs 7 = .ok (.invokeinterface 59 1, 5) := by decide +kernel
theorem dX11_moveLogs_12 : decode cX11_moveLogs 12 = .ok (.if_icmp .ge 72, 3) := by decide +kernel
theorem dX11_moveLogs_15 : decode cX11_moveLogs 15 = .ok (.aload_n 0, 1) := by decide +kernel
theorem dX11_moveLogs_16 : decode cX11_moveLogs 16 = .ok (.getfield 10, 3) := by decide +kernel
theorem dX11_moveLogs_19 : decode cX11_moveLogs 19 = .ok (.iload_n 1, 1) := by decide +kernel
theorem dX11_moveLogs_20 : decode cX11_moveLogs 20 = .ok (.invokeinterface 69 2, 5) := by decide +kernel
theorem dX11_moveLogs_25 : decode cX11_moveLogs 25 = .ok (.checkcast 73, 3) := by decide +kernel
theorem dX11_moveLogs_28 : decode cX11_moveLogs 28 = .ok (.astore_n 2, 1) := by decide +kernel
theorem dX11_moveLogs_29 : decode cX11_moveLogs 29 = .ok (.aload_n 2, 1) := by decide +kernel
theorem dX11_moveLogs_30 : decode cX11_moveLogs 30 = .ok (.getfield 247, 3) := by decide +kernel
theorem dX11_moveLogs_33 : decode cX11_moveLogs 33 = .ok (.bipush 100, 2) := by decide +kernel
theorem dX11_moveLogs_35 : decode cX11_moveLogs 35 = .ok (.idiv, 1) := by decide +kernel
theorem dX11_moveLogs_36 : decode cX11_moveLogs 36 = .ok (.bipush 6, 2) := by decide +kernel
theorem dX11_moveLogs_38 : decode cX11_moveLogs 38 = .ok (.invokestatic 266, 3) := by decide +kernel
theorem dX11_moveLogs_41 : decode cX11_moveLogs 41 = .ok (.istore_n 3, 1) := by decide +kernel
theorem dX11_moveLogs_42 : decode cX11_moveLogs 42 = .ok (.aload_n 2, 1) := by decide +kernel
theorem dX11_moveLogs_43 : decode cX11_moveLogs 43 = .ok (.getfield 78, 3) := by decide +kernel
theorem dX11_moveLogs_46 : decode cX11_moveLogs 46 = .ok (.invokeinterface 59 1, 5) := by decide +kernel
theorem dX11_moveLogs_51 : decode cX11_moveLogs 51 = .ok (.iconst 1, 1) := by decide +kernel
theorem dX11_moveLogs_52 : decode cX11_moveLogs 52 = .ok (.isub, 1) := by decide +kernel
theorem dX11_moveLogs_53 : decode cX11_moveLogs 53 = .ok (.istore 4, 2) := by decide +kernel
theorem dX11_moveLogs_55 : decode cX11_moveLogs 55 = .ok (.iload 4, 2) := by decide +kernel
theorem dX11_moveLogs_57 : decode cX11_moveLogs 57 = .ok (.ifCond .lt 21, 3) := by decide +kernel
theorem dX11_moveLogs_60 : decode cX11_moveLogs 60 = .ok (.iload_n 3, 1) := by decide +kernel
theorem dX11_moveLogs_61 : decode cX11_moveLogs 61 = .ok (.ifCond .le 17, 3) := by decide +kernel
theorem dX11_moveLogs_64 : decode cX11_moveLogs 64 = .ok (.aload_n 0, 1) := by decide +kernel
theorem dX11_moveLogs_65 : decode cX11_moveLogs 65 = .ok (.aload_n 2, 1) := by decide +kernel
theorem dX11_moveLogs_66 : decode cX11_moveLogs 66 = .ok (.iload 4, 2) := by decide +kernel
theorem dX11_moveLogs_68 : decode cX11_moveLogs 68 = .ok (.iload_n 3, 1) := by decide +kernel
theorem dX11_moveLogs_69 : decode cX11_moveLogs 69 = .ok (.invokevirtual 272, 3) := by decide +kernel
theorem dX11_moveLogs_72 : decode cX11_moveLogs 72 = .ok (.iinc 4 (-1), 3) := by decide +kernel
theorem dX11_moveLogs_75 : decode cX11_moveLogs 75 = .ok (.goto (-20), 3) := by decide +kernel
theorem dX11_moveLogs_78 : decode cX11_moveLogs 78 = .ok (.iinc 1 1, 3) := by decide +kernel
theorem dX11_moveLogs_81 : decode cX11_moveLogs 81 = .ok (.goto (-79), 3) := by decide +kernel
theorem dX11_moveLogs_84 : decode cX11_moveLogs 84 = .ok (.return_, 1) := by decide +kernel
def wX11_moveLogs_78 (k2 : Nat → Int32 → kx_S → Prop) (Q : kx_S → Prop) (l0 : Nat) (l1 : Int32) (σ : kx_S) : Prop := ∀ v1 : Int32, v1 = l1 + 1 → k2 l0 v1 σ
def wX11_moveLogs_55 (k78 : Nat → Int32 → kx_S → Prop) (Q : kx_S → Prop) : Nat → Nat → Int32 → Nat → Int32 → Int32 → kx_S → Prop
  | 0, _, _, _, _, _, _ => False
  | n + 1, l0, l1, l2, l3, l4, σ => ((l4 < 0 → k78 l0 l1 σ) ∧
    (¬ (l4 < 0) → ((l3 ≤ 0 → k78 l0 l1 σ) ∧
      (¬ (l3 ≤ 0) → xt σ l0 = 13 ∧ wX11_moveLogsOfCell l0 l2 l4 l3 σ (fun σ4 => ∀ v6 : Int32, v6 = l4 + (-1) → wX11_moveLogs_55 k78 Q n l0 l1 l2 l3 v6 σ4)))))
def wX11_moveLogs_2 (Q : kx_S → Prop) : Nat → Nat → Int32 → kx_S → Prop
  | 0, _, _, _ => False
  | n + 1, l0, l1, σ => xt σ l0 = 13 ∧ ∃ a8, xr σ 208 l0 = some a8 ∧ xt σ a8 = 1 ∧ wJx4a65c_size_8abf5 a8 σ (fun r11 σ10 => ((r11 ≤ l1 → Q σ10) ∧
    (¬ (r11 ≤ l1) → xt σ10 l0 = 13 ∧ ∃ a15, xr σ10 208 l0 = some a15 ∧ xt σ10 a15 = 1 ∧ wJx4a65c_get_915e3 a15 l1 σ10 (fun q18 σ17 => ∃ a20, q18 = some a20 ∧ xt σ17 a20 = 10 ∧ ∀ v23, v23 = (if 6 < ((xi σ17 169 a20) / 100) then 6 else ((xi σ17 169 a20) / 100)) → ∃ a24, xr σ17 163 a20 = some a24 ∧ xt σ17 a24 = 1 ∧ wJx4a65c_size_8abf5 a24 σ17 (fun r27 σ26 => ∀ v29, v29 = r27 - 1 → ∃ j, wX11_moveLogs_55 (wX11_moveLogs_78 (wX11_moveLogs_2 Q n) Q) Q j l0 l1 a20 v23 v29 σ26)))))
def wX11_moveLogs (l0 : Nat) (σ : kx_S) (Q : kx_S → Prop) : Prop := ∃ j, wX11_moveLogs_2 Q j l0 0 σ
set_option maxRecDepth 100000 in
set_option maxHeartbeats 4000000 in
theorem tX11_moveLogs_78 (l : Launch) (G : kx_G) (σ0 : kx_S) {p : Program} {e : Env} {s : State} {m : MethodId} {args : Array Value} {below : List Frame} {meth : Method} {c : Code} (F : CallFix p m c cX11_moveLogs 5 s args kt_ RX11) (hr : meth.sig.returnType = none) (hlocks : meth.locks = false) (Q : kx_S → Prop) (k2 : Nat → Int32 → kx_S → Prop) (hk2 : ∀ (l0 : Nat) (l1 : Int32) (σ : kx_S) (H : Heap) (locs : List Loc) (ls : Array Slot), k2 l0 l1 σ → kx_X G (xc σ0) s H locs σ → lv_has ls 5 [(0, .ref l0), (1, .int l1)] → kx_W p l e (11) (327) (xc σ0) s m args below meth c H locs σ (MQ below (kx_Q G σ0 (kx_rv Q)) args s (kx_N - xc σ0) (600 * (kx_N - xc σ0)) (kx_A G)) (F0 m 2 ls [])) : ∀ (l0 : Nat) (l1 : Int32) (σ : kx_S) (H : Heap) (locs : List Loc) (ls : Array Slot), wX11_moveLogs_78 k2 Q l0 l1 σ → kx_X G (xc σ0) s H locs σ → lv_has ls 5 [(0, .ref l0), (1, .int l1)] → kx_W p l e (11) (327) (xc σ0) s m args below meth c H locs σ (MQ below (kx_Q G σ0 (kx_rv Q)) args s (kx_N - xc σ0) (600 * (kx_N - xc σ0)) (kx_A G)) (F0 m 78 ls []) := by
  intro l0 l1 σ H locs ls h C hl
  obtain ⟨v1, ev1⟩ : ∃ z9 : Int32, z9 = l1 + 1 := ⟨_, rfl⟩
  replace h := h v1 ev1
  refine lv_iinc (v := v1) (lv' := [(1, .int v1), (0, .ref l0)]) F.1 F.2.1 dX11_moveLogs_78 hl (k := 1) rfl (by rw [ev1]; rfl) (by decide) rfl (fun ls hl => ?_)
  refine lv_goto (tgt := 2) F.1 F.2.1 dX11_moveLogs_81 (by decide) ?_
  exact hk2 l0 v1 σ H locs ls h C (lv_sub hl [1, 0] rfl)
set_option maxRecDepth 100000 in
set_option maxHeartbeats 4000000 in
theorem tX11_moveLogs_55 (l : Launch) (G : kx_G) (σ0 : kx_S) {p : Program} {e : Env} {s : State} {m : MethodId} {args : Array Value} {below : List Frame} {meth : Method} {c : Code} (F : CallFix p m c cX11_moveLogs 5 s args kt_ RX11) (hr : meth.sig.returnType = none) (hlocks : meth.locks = false) (Q : kx_S → Prop) (k78 : Nat → Int32 → kx_S → Prop) (hk78 : ∀ (l0 : Nat) (l1 : Int32) (σ : kx_S) (H : Heap) (locs : List Loc) (ls : Array Slot), k78 l0 l1 σ → kx_X G (xc σ0) s H locs σ → lv_has ls 5 [(0, .ref l0), (1, .int l1)] → kx_W p l e (11) (327) (xc σ0) s m args below meth c H locs σ (MQ below (kx_Q G σ0 (kx_rv Q)) args s (kx_N - xc σ0) (600 * (kx_N - xc σ0)) (kx_A G)) (F0 m 78 ls [])) : ∀ (n : Nat) (l0 : Nat) (l1 : Int32) (l2 : Nat) (l3 : Int32) (l4 : Int32) (σ : kx_S) (H : Heap) (locs : List Loc) (ls : Array Slot), wX11_moveLogs_55 k78 Q n l0 l1 l2 l3 l4 σ → kx_X G (xc σ0) s H locs σ → lv_has ls 5 [(0, .ref l0), (1, .int l1), (2, .ref l2), (3, .int l3), (4, .int l4)] → kx_W p l e (11) (327) (xc σ0) s m args below meth c H locs σ (MQ below (kx_Q G σ0 (kx_rv Q)) args s (kx_N - xc σ0) (600 * (kx_N - xc σ0)) (kx_A G)) (F0 m 55 ls []) := by
  intro n
  induction n with
  | zero => intro l0 l1 l2 l3 l4 σ H locs ls h; exact h.elim
  | succ n ih =>
    intro l0 l1 l2 l3 l4 σ H locs ls h C hl
    refine lv_iload F.1 F.2.1 dX11_moveLogs_55 (lv_at hl 4 rfl) ?_
    refine lv_if_lt (tgt := 78) F.1 F.2.1 dX11_moveLogs_57 (by decide) (fun c2 => ?_) (fun c2 => ?_)
    · replace h := h.1 c2
      exact hk78 l0 l1 σ H locs ls h C (lv_sub hl [0, 1] rfl)
    · replace h := h.2 c2
      refine lv_iload_n F.1 F.2.1 dX11_moveLogs_60 rfl (lv_at hl 3 rfl) ?_
      refine lv_if_le (tgt := 78) F.1 F.2.1 dX11_moveLogs_61 (by decide) (fun c3 => ?_) (fun c3 => ?_)
      · replace h := h.1 c3
        exact hk78 l0 l1 σ H locs ls h C (lv_sub hl [0, 1] rfl)
      · replace h := h.2 c3
        refine lv_aload_n F.1 F.2.1 dX11_moveLogs_64 rfl (lv_at hl 0 rfl) ?_
        refine lv_aload_n F.1 F.2.1 dX11_moveLogs_65 rfl (lv_at hl 2 rfl) ?_
        refine lv_iload F.1 F.2.1 dX11_moveLogs_66 (lv_at hl 4 rfl) ?_
        refine lv_iload_n F.1 F.2.1 dX11_moveLogs_68 rfl (lv_at hl 3 rfl) ?_
        obtain ⟨ht5, h⟩ := h
        refine xk_X11_moveLogsOfCell F C l0 l2 l4 l3 ht5 h ux_643 (Nat.le_of_ble_eq_true rfl) (Nat.le_of_ble_eq_true rfl) hl.1 (by simp [Value.category]) dX11_moveLogs_69 (fun σ4 H locs h C => ?_)
        obtain ⟨v6, ev6⟩ : ∃ z9 : Int32, z9 = l4 + (-1) := ⟨_, rfl⟩
        replace h := h v6 ev6
        refine lv_iinc (v := v6) (lv' := [(4, .int v6), (0, .ref l0), (1, .int l1), (2, .ref l2), (3, .int l3)]) F.1 F.2.1 dX11_moveLogs_72 hl (k := 4) rfl (by rw [ev6]; rfl) (by decide) rfl (fun ls hl => ?_)
        refine lv_goto (tgt := 55) F.1 F.2.1 dX11_moveLogs_75 (by decide) ?_
        exact ih l0 l1 l2 l3 v6 σ4 H locs ls h C (lv_sub hl [1, 2, 3, 4, 0] rfl)
set_option maxRecDepth 100000 in
set_option maxHeartbeats 4000000 in
theorem tX11_moveLogs_2 (l : Launch) (G : kx_G) (σ0 : kx_S) {p : Program} {e : Env} {s : State} {m : MethodId} {args : Array Value} {below : List Frame} {meth : Method} {c : Code} (F : CallFix p m c cX11_moveLogs 5 s args kt_ RX11) (hr : meth.sig.returnType = none) (hlocks : meth.locks = false) (Q : kx_S → Prop) : ∀ (n : Nat) (l0 : Nat) (l1 : Int32) (σ : kx_S) (H : Heap) (locs : List Loc) (ls : Array Slot), wX11_moveLogs_2 Q n l0 l1 σ → kx_X G (xc σ0) s H locs σ → lv_has ls 5 [(0, .ref l0), (1, .int l1)] → kx_W p l e (11) (327) (xc σ0) s m args below meth c H locs σ (MQ below (kx_Q G σ0 (kx_rv Q)) args s (kx_N - xc σ0) (600 * (kx_N - xc σ0)) (kx_A G)) (F0 m 2 ls []) := by
  intro n
  induction n with
  | zero => intro l0 l1 σ H locs ls h; exact h.elim
  | succ n ih =>
    intro l0 l1 σ H locs ls h C hl
    refine lv_iload_n F.1 F.2.1 dX11_moveLogs_2 rfl (lv_at hl 1 rfl) ?_
    refine lv_aload_n F.1 F.2.1 dX11_moveLogs_3 rfl (lv_at hl 0 rfl) ?_
    obtain ⟨ht7, h⟩ := h
    refine xg_X11_reaches F C ht7 ux_479 (fun _ h9 => h9) dX11_moveLogs_4 ?_
    obtain ⟨a8, ea9, h⟩ := h
    refine xq_nn ea9 ?_
    obtain ⟨ht12, h⟩ := h
    refine xk_Jx4a65c_size_8abf5 F C a8 ht12 h ux_500 (Nat.le_of_ble_eq_true rfl) (Nat.le_of_ble_eq_true rfl) hl.1 (by simp [Value.category]) dX11_moveLogs_7 (fun r11 σ10 H locs h C => ?_)
    refine lv_icmp_ge (tgt := 84) F.1 F.2.1 dX11_moveLogs_12 (by decide) (fun c13 => ?_) (fun c13 => ?_)
    · replace h := h.1 c13
      exact kx_vret F C hr hlocks h dX11_moveLogs_84
    · replace h := h.2 c13
      refine lv_aload_n F.1 F.2.1 dX11_moveLogs_15 rfl (lv_at hl 0 rfl) ?_
      obtain ⟨ht14, h⟩ := h
      refine xg_X11_reaches F C ht14 ux_479 (fun _ h9 => h9) dX11_moveLogs_16 ?_
      obtain ⟨a15, ea16, h⟩ := h
      refine xq_nn ea16 ?_
      refine lv_iload_n F.1 F.2.1 dX11_moveLogs_19 rfl (lv_at hl 1 rfl) ?_
      obtain ⟨ht19, h⟩ := h
      refine xk_Jx4a65c_get_915e3 F C a15 l1 ht19 h ux_502 (Nat.le_of_ble_eq_true rfl) (Nat.le_of_ble_eq_true rfl) hl.1 (by simp [Value.category]) dX11_moveLogs_20 (fun q18 σ17 H locs h C => ?_)
      obtain ⟨a20, ea21, h⟩ := h
      refine xq_nn ea21 ?_
      obtain ⟨ht22, h⟩ := h
      refine kx_cast F C (by rw [ht22]; decide) (kx_e10 ht22) rfl ux_503 dX11_moveLogs_25 ?_
      refine lv_astore_n (lv' := [(2, .ref a20), (0, .ref l0), (1, .int l1)]) F.1 F.2.1 dX11_moveLogs_28 rfl hl (by decide) rfl (fun ls hl => ?_)
      refine lv_aload_n F.1 F.2.1 dX11_moveLogs_29 rfl (lv_at hl 0 rfl) ?_
      refine xg_X8_flow F C ht22 ux_613 (fun _ h9 => h9) dX11_moveLogs_30 ?_
      refine lv_bipush (v := 100) F.1 F.2.1 dX11_moveLogs_33 (by decide) ?_
      refine lv_idiv (x := xi σ17 169 a20) (y := 100) F.1 F.2.1 dX11_moveLogs_35 (by decide) ?_
      refine lv_bipush (v := 6) F.1 F.2.1 dX11_moveLogs_36 (by decide) ?_
      refine kx_min F C ux_644 (Nat.le_of_ble_eq_true rfl) (by simp [Value.category]) hl.1 dX11_moveLogs_38 ?_
      refine lv_topi (fun v23 ev23 => ?_)
      replace h := h v23 ev23
      refine lv_istore_n (lv' := [(3, .int v23), (2, .ref a20), (0, .ref l0), (1, .int l1)]) F.1 F.2.1 dX11_moveLogs_41 rfl hl (by decide) rfl (fun ls hl => ?_)
      refine lv_aload_n F.1 F.2.1 dX11_moveLogs_42 rfl (lv_at hl 1 rfl) ?_
      refine xg_X8_cells F C ht22 ux_513 (fun _ h9 => h9) dX11_moveLogs_43 ?_
      obtain ⟨a24, ea25, h⟩ := h
      refine xq_nn ea25 ?_
      obtain ⟨ht28, h⟩ := h
      refine xk_Jx4a65c_size_8abf5 F C a24 ht28 h ux_500 (Nat.le_of_ble_eq_true rfl) (Nat.le_of_ble_eq_true rfl) hl.1 (by simp [Value.category]) dX11_moveLogs_46 (fun r27 σ26 H locs h C => ?_)
      refine lv_iconst (v := 1) F.1 F.2.1 dX11_moveLogs_51 (by decide) ?_
      refine lv_isub (x := r27) (y := 1) F.1 F.2.1 dX11_moveLogs_52 ?_
      refine lv_topi (fun v29 ev29 => ?_)
      replace h := h v29 ev29
      refine lv_istore (lv' := [(4, .int v29), (3, .int v23), (2, .ref a20), (0, .ref l0), (1, .int l1)]) F.1 F.2.1 dX11_moveLogs_53 hl (by decide) rfl (fun ls hl => ?_)
      obtain ⟨n30, h⟩ := h
      exact tX11_moveLogs_55 l G σ0 F hr hlocks Q (wX11_moveLogs_78 (wX11_moveLogs_2 Q n) Q) (tX11_moveLogs_78 l G σ0 F hr hlocks Q (wX11_moveLogs_2 Q n) (fun l0 l1 σ9 H locs ls h C hl => ih l0 l1 σ9 H locs ls h C hl)) n30 l0 l1 a20 v23 v29 σ26 H locs ls h C (lv_sub hl [3, 4, 2, 1, 0] rfl)
set_option maxRecDepth 100000 in
set_option maxHeartbeats 4000000 in
theorem hx_X11_moveLogs (l : Launch) (G : kx_G) (l0 : Nat) (σ : kx_S) (Q : kx_S → Prop) (h : wX11_moveLogs l0 σ Q) : kx_M l G yX11_moveLogs cX11_moveLogs 5 none (11) (327) [.ref l0] σ (kx_rv Q) := by
  refine kx_enter (by decide) rfl (Nat.le_of_ble_eq_true rfl) ?_
  intro p e s m below meth c ls F hr hlocks C hname hl
  have hl : lv_has ls 5 [(0, .ref l0)] := hl
  obtain ⟨H, eH⟩ : ∃ z9, z9 = s.heap := ⟨_, rfl⟩
  obtain ⟨locs, eL⟩ : ∃ z9 : List Loc, z9 = [] := ⟨_, rfl⟩
  rw [← eH, ← eL] at C
  rw [← eH, ← eL]
  obtain ⟨σ0, e0⟩ : ∃ z9, z9 = σ := ⟨_, rfl⟩
  have C : kx_X G (xc σ0) s H locs σ := by rw [e0]; exact C
  suffices hgo : kx_W p l e (11) (327) (xc σ0) s m ([.ref l0] : List Value).toArray below meth c H locs σ (MQ below (kx_Q G σ0 (kx_rv Q)) ([.ref l0] : List Value).toArray s (kx_N - xc σ0) (600 * (kx_N - xc σ0)) (kx_A G)) (F0 m 0 ls []) by rw [e0] at hgo; exact hgo
  clear e0
  refine lv_iconst (v := 0) F.1 F.2.1 dX11_moveLogs_0 (by decide) ?_
  refine lv_istore_n (lv' := [(1, .int 0), (0, .ref l0)]) F.1 F.2.1 dX11_moveLogs_1 rfl hl (by decide) rfl (fun ls hl => ?_)
  obtain ⟨n31, h⟩ := h
  exact tX11_moveLogs_2 l G σ0 F hr hlocks Q n31 l0 0 σ H locs ls h C (lv_sub hl [1, 0] rfl)
section
variable {p : Program} {l : Launch} {e : Env} {fr lo c0 : Nat} {s : State} {m : MethodId} {args : Array Value} {below : List Frame} {meth : Method} {c : Code} {H : Heap} {locs : List Loc} {Q : State → Prop}
variable {cc : ByteArray} {pc nL index : Nat} {ls : Array Slot} {rest : List Value} {G : kx_G} {σ : kx_S} {own : String}
theorem xk_X11_moveLogs {P : kx_S → Prop} (F : CallFix p m c cc nL s args kt_ own) (C : kx_X G c0 s H locs σ) (l0 : Nat) (ha : xt σ l0 = 13) (h : wX11_moveLogs l0 σ P) (hw : Cond.methodLink own index yX11_moveLogs ∈ kt_) (h1 : (11) + 1 ≤ fr) (h2 : 8 + (5 + 11) + (327) ≤ lo) (hsz : ls.size = nL) (hW : (rest.map fun v => v.category).sum ≤ 8) (hdg : decode cc pc = .ok (.invokevirtual index, 3)) (kk : ∀ (u : kx_S) (H1 : Heap) (locs1 : List Loc), P u → kx_X G c0 s H1 locs1 u → kx_W p l e fr lo c0 s m args below meth c H1 locs1 u Q (F0 m (pc + 3) ls rest)) : kx_W p l e fr lo c0 s m args below meth c H locs σ Q (F0 m pc ls (.ref l0 :: rest)) :=
  kx_cV (n := 0) (As := []) (Cn := RX11) F C (hx_X11_moveLogs l G l0 σ P h) (kt_V hw ux_646 ux_647 ux_117 ux_645) (by decide +kernel) ⟨h1, h2⟩ (kx_recv C (by rw [ha]; decide) (kx_e13 ha) rfl) rfl hsz hW hdg (fun v u H1 locs1 hP9 C9 => by obtain ⟨hv, hp⟩ := hP9; subst hv; exact kk u H1 locs1 hp C9)
end
theorem dX11_jamCells_0 : decode cX11_jamCells 0 = .ok (.iconst 0, 1) := by decide +kernel
theorem dX11_jamCells_1 : decode cX11_jamCells 1 = .ok (.istore_n 1, 1) := by decide +kernel
theorem dX11_jamCells_2 : decode cX11_jamCells 2 = .ok (.iload_n 1, 1) := by decide +kernel
theorem dX11_jamCells_3 : decode cX11_jamCells 3 = .ok (.aload_n 0, 1) := by decide +kernel
theorem dX11_jamCells_4 : decode cX11_jamCells 4 = .ok (.getfield 10, 3) := by decide +kernel
theorem dX11_jamCells_7 : decode cX11_jamCells 7 = .ok (.invokeinterface 59 1, 5) := by decide +kernel
theorem dX11_jamCells_12 : decode cX11_jamCells 12 = .ok (.if_icmp .ge 38, 3) := by decide +kernel
theorem dX11_jamCells_15 : decode cX11_jamCells 15 = .ok (.aload_n 0, 1) := by decide +kernel
theorem dX11_jamCells_16 : decode cX11_jamCells 16 = .ok (.getfield 10, 3) := by decide +kernel
theorem dX11_jamCells_19 : decode cX11_jamCells 19 = .ok (.iload_n 1, 1) := by decide +kernel
theorem dX11_jamCells_20 : decode cX11_jamCells 20 = .ok (.invokeinterface 69 2, 5) := by decide +kernel
theorem dX11_jamCells_25 : decode cX11_jamCells 25 = .ok (.checkcast 73, 3) := by decide +kernel
theorem dX11_jamCells_28 : decode cX11_jamCells 28 = .ok (.astore_n 2, 1) := by decide +kernel
theorem dX11_jamCells_29 : decode cX11_jamCells 29 = .ok (.aload_n 2, 1) := by decide +kernel
theorem dX11_jamCells_30 : decode cX11_jamCells 30 = .ok (.getfield 247, 3) := by decide +kernel
theorem dX11_jamCells_33 : decode cX11_jamCells 33 = .ok (.aload_n 2, 1) := by decide +kernel
theorem dX11_jamCells_34 : decode cX11_jamCells 34 = .ok (.getfield 313, 3) := by decide +kernel
theorem dX11_jamCells_37 : decode cX11_jamCells 37 = .ok (.if_icmp .ge 7, 3) := by decide +kernel
theorem dX11_jamCells_40 : decode cX11_jamCells 40 = .ok (.aload_n 2, 1) := by decide +kernel
theorem dX11_jamCells_41 : decode cX11_jamCells 41 = .ok (.invokevirtual 316, 3) := by decide +kernel
theorem dX11_jamCells_44 : decode cX11_jamCells 44 = .ok (.iinc 1 1, 3) := by decide +kernel
theorem dX11_jamCells_47 : decode cX11_jamCells 47 = .ok (.goto (-45), 3) := by decide +kernel
theorem dX11_jamCells_50 : decode cX11_jamCells 50 = .ok (.return_, 1) := by decide +kernel
def wX11_jamCells_44 (k2 : Nat → Int32 → kx_S → Prop) (Q : kx_S → Prop) (l0 : Nat) (l1 : Int32) (σ : kx_S) : Prop := ∀ v1 : Int32, v1 = l1 + 1 → k2 l0 v1 σ
def wX11_jamCells_2 (Q : kx_S → Prop) : Nat → Nat → Int32 → kx_S → Prop
  | 0, _, _, _ => False
  | n + 1, l0, l1, σ => xt σ l0 = 13 ∧ ∃ a3, xr σ 208 l0 = some a3 ∧ xt σ a3 = 1 ∧ wJx4a65c_size_8abf5 a3 σ (fun r6 σ5 => ((r6 ≤ l1 → Q σ5) ∧
    (¬ (r6 ≤ l1) → xt σ5 l0 = 13 ∧ ∃ a10, xr σ5 208 l0 = some a10 ∧ xt σ5 a10 = 1 ∧ wJx4a65c_get_915e3 a10 l1 σ5 (fun q13 σ12 => ∃ a15, q13 = some a15 ∧ xt σ12 a15 = 10 ∧ (((xi σ12 162 a15) ≤ (xi σ12 169 a15) → wX11_jamCells_44 (wX11_jamCells_2 Q n) Q l0 l1 σ12) ∧
      (¬ ((xi σ12 162 a15) ≤ (xi σ12 169 a15)) → wX8_jamFullCells a15 σ12 (fun σ19 => wX11_jamCells_44 (wX11_jamCells_2 Q n) Q l0 l1 σ19)))))))
def wX11_jamCells (l0 : Nat) (σ : kx_S) (Q : kx_S → Prop) : Prop := ∃ j, wX11_jamCells_2 Q j l0 0 σ
set_option maxRecDepth 100000 in
set_option maxHeartbeats 4000000 in
theorem tX11_jamCells_44 (l : Launch) (G : kx_G) (σ0 : kx_S) {p : Program} {e : Env} {s : State} {m : MethodId} {args : Array Value} {below : List Frame} {meth : Method} {c : Code} (F : CallFix p m c cX11_jamCells 3 s args kt_ RX11) (hr : meth.sig.returnType = none) (hlocks : meth.locks = false) (Q : kx_S → Prop) (k2 : Nat → Int32 → kx_S → Prop) (hk2 : ∀ (l0 : Nat) (l1 : Int32) (σ : kx_S) (H : Heap) (locs : List Loc) (ls : Array Slot), k2 l0 l1 σ → kx_X G (xc σ0) s H locs σ → lv_has ls 3 [(0, .ref l0), (1, .int l1)] → kx_W p l e (4) (86) (xc σ0) s m args below meth c H locs σ (MQ below (kx_Q G σ0 (kx_rv Q)) args s (kx_N - xc σ0) (600 * (kx_N - xc σ0)) (kx_A G)) (F0 m 2 ls [])) : ∀ (l0 : Nat) (l1 : Int32) (σ : kx_S) (H : Heap) (locs : List Loc) (ls : Array Slot), wX11_jamCells_44 k2 Q l0 l1 σ → kx_X G (xc σ0) s H locs σ → lv_has ls 3 [(0, .ref l0), (1, .int l1)] → kx_W p l e (4) (86) (xc σ0) s m args below meth c H locs σ (MQ below (kx_Q G σ0 (kx_rv Q)) args s (kx_N - xc σ0) (600 * (kx_N - xc σ0)) (kx_A G)) (F0 m 44 ls []) := by
  intro l0 l1 σ H locs ls h C hl
  obtain ⟨v1, ev1⟩ : ∃ z9 : Int32, z9 = l1 + 1 := ⟨_, rfl⟩
  replace h := h v1 ev1
  refine lv_iinc (v := v1) (lv' := [(1, .int v1), (0, .ref l0)]) F.1 F.2.1 dX11_jamCells_44 hl (k := 1) rfl (by rw [ev1]; rfl) (by decide) rfl (fun ls hl => ?_)
  refine lv_goto (tgt := 2) F.1 F.2.1 dX11_jamCells_47 (by decide) ?_
  exact hk2 l0 v1 σ H locs ls h C (lv_sub hl [1, 0] rfl)
set_option maxRecDepth 100000 in
set_option maxHeartbeats 4000000 in
theorem tX11_jamCells_2 (l : Launch) (G : kx_G) (σ0 : kx_S) {p : Program} {e : Env} {s : State} {m : MethodId} {args : Array Value} {below : List Frame} {meth : Method} {c : Code} (F : CallFix p m c cX11_jamCells 3 s args kt_ RX11) (hr : meth.sig.returnType = none) (hlocks : meth.locks = false) (Q : kx_S → Prop) : ∀ (n : Nat) (l0 : Nat) (l1 : Int32) (σ : kx_S) (H : Heap) (locs : List Loc) (ls : Array Slot), wX11_jamCells_2 Q n l0 l1 σ → kx_X G (xc σ0) s H locs σ → lv_has ls 3 [(0, .ref l0), (1, .int l1)] → kx_W p l e (4) (86) (xc σ0) s m args below meth c H locs σ (MQ below (kx_Q G σ0 (kx_rv Q)) args s (kx_N - xc σ0) (600 * (kx_N - xc σ0)) (kx_A G)) (F0 m 2 ls []) := by
  intro n
  induction n with
  | zero => intro l0 l1 σ H locs ls h; exact h.elim
  | succ n ih =>
    intro l0 l1 σ H locs ls h C hl
    refine lv_iload_n F.1 F.2.1 dX11_jamCells_2 rfl (lv_at hl 1 rfl) ?_
    refine lv_aload_n F.1 F.2.1 dX11_jamCells_3 rfl (lv_at hl 0 rfl) ?_
    obtain ⟨ht2, h⟩ := h
    refine xg_X11_reaches F C ht2 ux_479 (fun _ h9 => h9) dX11_jamCells_4 ?_
    obtain ⟨a3, ea4, h⟩ := h
    refine xq_nn ea4 ?_
    obtain ⟨ht7, h⟩ := h
    refine xk_Jx4a65c_size_8abf5 F C a3 ht7 h ux_500 (Nat.le_of_ble_eq_true rfl) (Nat.le_of_ble_eq_true rfl) hl.1 (by simp [Value.category]) dX11_jamCells_7 (fun r6 σ5 H locs h C => ?_)
    refine lv_icmp_ge (tgt := 50) F.1 F.2.1 dX11_jamCells_12 (by decide) (fun c8 => ?_) (fun c8 => ?_)
    · replace h := h.1 c8
      exact kx_vret F C hr hlocks h dX11_jamCells_50
    · replace h := h.2 c8
      refine lv_aload_n F.1 F.2.1 dX11_jamCells_15 rfl (lv_at hl 0 rfl) ?_
      obtain ⟨ht9, h⟩ := h
      refine xg_X11_reaches F C ht9 ux_479 (fun _ h9 => h9) dX11_jamCells_16 ?_
      obtain ⟨a10, ea11, h⟩ := h
      refine xq_nn ea11 ?_
      refine lv_iload_n F.1 F.2.1 dX11_jamCells_19 rfl (lv_at hl 1 rfl) ?_
      obtain ⟨ht14, h⟩ := h
      refine xk_Jx4a65c_get_915e3 F C a10 l1 ht14 h ux_502 (Nat.le_of_ble_eq_true rfl) (Nat.le_of_ble_eq_true rfl) hl.1 (by simp [Value.category]) dX11_jamCells_20 (fun q13 σ12 H locs h C => ?_)
      obtain ⟨a15, ea16, h⟩ := h
      refine xq_nn ea16 ?_
      obtain ⟨ht17, h⟩ := h
      refine kx_cast F C (by rw [ht17]; decide) (kx_e10 ht17) rfl ux_503 dX11_jamCells_25 ?_
      refine lv_astore_n (lv' := [(2, .ref a15), (0, .ref l0), (1, .int l1)]) F.1 F.2.1 dX11_jamCells_28 rfl hl (by decide) rfl (fun ls hl => ?_)
      refine lv_aload_n F.1 F.2.1 dX11_jamCells_29 rfl (lv_at hl 0 rfl) ?_
      refine xg_X8_flow F C ht17 ux_613 (fun _ h9 => h9) dX11_jamCells_30 ?_
      refine lv_aload_n F.1 F.2.1 dX11_jamCells_33 rfl (lv_at hl 0 rfl) ?_
      refine xg_X8_jam F C ht17 ux_648 (fun _ h9 => h9) dX11_jamCells_34 ?_
      refine lv_icmp_ge (tgt := 44) F.1 F.2.1 dX11_jamCells_37 (by decide) (fun c18 => ?_) (fun c18 => ?_)
      · replace h := h.1 c18
        exact tX11_jamCells_44 l G σ0 F hr hlocks Q (wX11_jamCells_2 Q n) (fun l0 l1 σ9 H locs ls h C hl => ih l0 l1 σ9 H locs ls h C hl) l0 l1 σ12 H locs ls h C (lv_sub hl [1, 2] rfl)
      · replace h := h.2 c18
        refine lv_aload_n F.1 F.2.1 dX11_jamCells_40 rfl (lv_at hl 0 rfl) ?_
        refine xk_X8_jamFullCells F C a15 ht17 h ux_649 (Nat.le_of_ble_eq_true rfl) (Nat.le_of_ble_eq_true rfl) hl.1 (by simp [Value.category]) dX11_jamCells_41 (fun σ19 H locs h C => ?_)
        exact tX11_jamCells_44 l G σ0 F hr hlocks Q (wX11_jamCells_2 Q n) (fun l0 l1 σ9 H locs ls h C hl => ih l0 l1 σ9 H locs ls h C hl) l0 l1 σ19 H locs ls h C (lv_sub hl [1, 2] rfl)
set_option maxRecDepth 100000 in
set_option maxHeartbeats 4000000 in
theorem hx_X11_jamCells (l : Launch) (G : kx_G) (l0 : Nat) (σ : kx_S) (Q : kx_S → Prop) (h : wX11_jamCells l0 σ Q) : kx_M l G yX11_jamCells cX11_jamCells 3 none (4) (86) [.ref l0] σ (kx_rv Q) := by
  refine kx_enter (by decide) rfl (Nat.le_of_ble_eq_true rfl) ?_
  intro p e s m below meth c ls F hr hlocks C hname hl
  have hl : lv_has ls 3 [(0, .ref l0)] := hl
  obtain ⟨H, eH⟩ : ∃ z9, z9 = s.heap := ⟨_, rfl⟩
  obtain ⟨locs, eL⟩ : ∃ z9 : List Loc, z9 = [] := ⟨_, rfl⟩
  rw [← eH, ← eL] at C
  rw [← eH, ← eL]
  obtain ⟨σ0, e0⟩ : ∃ z9, z9 = σ := ⟨_, rfl⟩
  have C : kx_X G (xc σ0) s H locs σ := by rw [e0]; exact C
  suffices hgo : kx_W p l e (4) (86) (xc σ0) s m ([.ref l0] : List Value).toArray below meth c H locs σ (MQ below (kx_Q G σ0 (kx_rv Q)) ([.ref l0] : List Value).toArray s (kx_N - xc σ0) (600 * (kx_N - xc σ0)) (kx_A G)) (F0 m 0 ls []) by rw [e0] at hgo; exact hgo
  clear e0
  refine lv_iconst (v := 0) F.1 F.2.1 dX11_jamCells_0 (by decide) ?_
  refine lv_istore_n (lv' := [(1, .int 0), (0, .ref l0)]) F.1 F.2.1 dX11_jamCells_1 rfl hl (by decide) rfl (fun ls hl => ?_)
  obtain ⟨n20, h⟩ := h
  exact tX11_jamCells_2 l G σ0 F hr hlocks Q n20 l0 0 σ H locs ls h C (lv_sub hl [1, 0] rfl)
section
variable {p : Program} {l : Launch} {e : Env} {fr lo c0 : Nat} {s : State} {m : MethodId} {args : Array Value} {below : List Frame} {meth : Method} {c : Code} {H : Heap} {locs : List Loc} {Q : State → Prop}
variable {cc : ByteArray} {pc nL index : Nat} {ls : Array Slot} {rest : List Value} {G : kx_G} {σ : kx_S} {own : String}
theorem xk_X11_jamCells {P : kx_S → Prop} (F : CallFix p m c cc nL s args kt_ own) (C : kx_X G c0 s H locs σ) (l0 : Nat) (ha : xt σ l0 = 13) (h : wX11_jamCells l0 σ P) (hw : Cond.methodLink own index yX11_jamCells ∈ kt_) (h1 : (4) + 1 ≤ fr) (h2 : 8 + (3 + 11) + (86) ≤ lo) (hsz : ls.size = nL) (hW : (rest.map fun v => v.category).sum ≤ 8) (hdg : decode cc pc = .ok (.invokevirtual index, 3)) (kk : ∀ (u : kx_S) (H1 : Heap) (locs1 : List Loc), P u → kx_X G c0 s H1 locs1 u → kx_W p l e fr lo c0 s m args below meth c H1 locs1 u Q (F0 m (pc + 3) ls rest)) : kx_W p l e fr lo c0 s m args below meth c H locs σ Q (F0 m pc ls (.ref l0 :: rest)) :=
  kx_cV (n := 0) (As := []) (Cn := RX11) F C (hx_X11_jamCells l G l0 σ P h) (kt_V hw ux_651 ux_652 ux_117 ux_650) (by decide +kernel) ⟨h1, h2⟩ (kx_recv C (by rw [ha]; decide) (kx_e13 ha) rfl) rfl hsz hW hdg (fun v u H1 locs1 hP9 C9 => by obtain ⟨hv, hp⟩ := hP9; subst hv; exact kk u H1 locs1 hp C9)
end
theorem dX11_freeJams_0 : decode cX11_freeJams 0 = .ok (.iconst 0, 1) := by decide +kernel
theorem dX11_freeJams_1 : decode cX11_freeJams 1 = .ok (.istore_n 1, 1) := by decide +kernel
theorem dX11_freeJams_2 : decode cX11_freeJams 2 = .ok (.iload_n 1, 1) := by decide +kernel
theorem dX11_freeJams_3 : decode cX11_freeJams 3 = .ok (.aload_n 0, 1) := by decide +kernel
theorem dX11_freeJams_4 : decode cX11_freeJams 4 = .ok (.getfield 22, 3) := by decide +kernel
theorem dX11_freeJams_7 : decode cX11_freeJams 7 = .ok (.invokeinterface 59 1, 5) := by decide +kernel
theorem dX11_freeJams_12 : decode cX11_freeJams 12 = .ok (.if_icmp .ge 52, 3) := by decide +kernel
theorem dX11_freeJams_15 : decode cX11_freeJams 15 = .ok (.aload_n 0, 1) := by decide +kernel
theorem dX11_freeJams_16 : decode cX11_freeJams 16 = .ok (.getfield 22, 3) := by decide +kernel
theorem dX11_freeJams_19 : decode cX11_freeJams 19 = .ok (.iload_n 1, 1) := by decide +kernel
theorem dX11_freeJams_20 : decode cX11_freeJams 20 = .ok (.invokeinterface 69 2, 5) := by decide +kernel
theorem dX11_freeJams_25 : decode cX11_freeJams 25 = .ok (.checkcast 130, 3) := by decide +kernel
theorem dX11_freeJams_28 : decode cX11_freeJams 28 = .ok (.astore_n 2, 1) := by decide +kernel
theorem dX11_freeJams_29 : decode cX11_freeJams 29 = .ok (.aload_n 0, 1) := by decide +kernel
theorem dX11_freeJams_30 : decode cX11_freeJams 30 = .ok (.getfield 136, 3) := by decide +kernel
theorem dX11_freeJams_33 : decode cX11_freeJams 33 = .ok (.aload_n 2, 1) := by decide +kernel
theorem dX11_freeJams_34 : decode cX11_freeJams 34 = .ok (.getfield 319, 3) := by decide +kernel
theorem dX11_freeJams_37 : decode cX11_freeJams 37 = .ok (.if_icmp .lt 21, 3) := by decide +kernel
theorem dX11_freeJams_40 : decode cX11_freeJams 40 = .ok (.aload_n 2, 1) := by decide +kernel
theorem dX11_freeJams_41 : decode cX11_freeJams 41 = .ok (.getfield 132, 3) := by decide +kernel
theorem dX11_freeJams_44 : decode cX11_freeJams 44 = .ok (.invokevirtual 322, 3) := by decide +kernel
theorem dX11_freeJams_47 : decode cX11_freeJams 47 = .ok (.ifCond .eq 11, 3) := by decide +kernel
theorem dX11_freeJams_50 : decode cX11_freeJams 50 = .ok (.aload_n 2, 1) := by decide +kernel
theorem dX11_freeJams_51 : decode cX11_freeJams 51 = .ok (.aload_n 0, 1) := by decide +kernel
theorem dX11_freeJams_52 : decode cX11_freeJams 52 = .ok (.getfield 136, 3) := by decide +kernel
theorem dX11_freeJams_55 : decode cX11_freeJams 55 = .ok (.invokevirtual 326, 3) := by decide +kernel
theorem dX11_freeJams_58 : decode cX11_freeJams 58 = .ok (.iinc 1 1, 3) := by decide +kernel
theorem dX11_freeJams_61 : decode cX11_freeJams 61 = .ok (.goto (-59), 3) := by decide +kernel
theorem dX11_freeJams_64 : decode cX11_freeJams 64 = .ok (.return_, 1) := by decide +kernel
def wX11_freeJams_58 (k2 : Nat → Int32 → kx_S → Prop) (Q : kx_S → Prop) (l0 : Nat) (l1 : Int32) (σ : kx_S) : Prop := ∀ v1 : Int32, v1 = l1 + 1 → k2 l0 v1 σ
def wX11_freeJams_2 (Q : kx_S → Prop) : Nat → Nat → Int32 → kx_S → Prop
  | 0, _, _, _ => False
  | n + 1, l0, l1, σ => xt σ l0 = 13 ∧ ∃ a3, xr σ 211 l0 = some a3 ∧ xt σ a3 = 1 ∧ wJx4a65c_size_8abf5 a3 σ (fun r6 σ5 => ((r6 ≤ l1 → Q σ5) ∧
    (¬ (r6 ≤ l1) → xt σ5 l0 = 13 ∧ ∃ a10, xr σ5 211 l0 = some a10 ∧ xt σ5 a10 = 1 ∧ wJx4a65c_get_915e3 a10 l1 σ5 (fun q13 σ12 => ∃ a15, q13 = some a15 ∧ xt σ12 a15 = 4 ∧ xt σ12 l0 = 13 ∧ (((xi σ12 217 l0) < (xi σ12 65 a15) → wX11_freeJams_58 (wX11_freeJams_2 Q n) Q l0 l1 σ12) ∧
      (¬ ((xi σ12 217 l0) < (xi σ12 65 a15)) → ∃ a20, xr σ12 64 a15 = some a20 ∧ xt σ12 a20 = 10 ∧ wX8_freesLowestJam a20 σ12 (fun r23 σ22 => ((r23 = 0 → wX11_freeJams_58 (wX11_freeJams_2 Q n) Q l0 l1 σ22) ∧
        (¬ (r23 = 0) → xt σ22 l0 = 13 ∧ xt σ22 a15 = 4 ∧ wX2_rest a15 (xi σ22 217 l0) σ22 (fun σ27 => wX11_freeJams_58 (wX11_freeJams_2 Q n) Q l0 l1 σ27))))))))))
def wX11_freeJams (l0 : Nat) (σ : kx_S) (Q : kx_S → Prop) : Prop := ∃ j, wX11_freeJams_2 Q j l0 0 σ
set_option maxRecDepth 100000 in
set_option maxHeartbeats 4000000 in
theorem tX11_freeJams_58 (l : Launch) (G : kx_G) (σ0 : kx_S) {p : Program} {e : Env} {s : State} {m : MethodId} {args : Array Value} {below : List Frame} {meth : Method} {c : Code} (F : CallFix p m c cX11_freeJams 3 s args kt_ RX11) (hr : meth.sig.returnType = none) (hlocks : meth.locks = false) (Q : kx_S → Prop) (k2 : Nat → Int32 → kx_S → Prop) (hk2 : ∀ (l0 : Nat) (l1 : Int32) (σ : kx_S) (H : Heap) (locs : List Loc) (ls : Array Slot), k2 l0 l1 σ → kx_X G (xc σ0) s H locs σ → lv_has ls 3 [(0, .ref l0), (1, .int l1)] → kx_W p l e (4) (86) (xc σ0) s m args below meth c H locs σ (MQ below (kx_Q G σ0 (kx_rv Q)) args s (kx_N - xc σ0) (600 * (kx_N - xc σ0)) (kx_A G)) (F0 m 2 ls [])) : ∀ (l0 : Nat) (l1 : Int32) (σ : kx_S) (H : Heap) (locs : List Loc) (ls : Array Slot), wX11_freeJams_58 k2 Q l0 l1 σ → kx_X G (xc σ0) s H locs σ → lv_has ls 3 [(0, .ref l0), (1, .int l1)] → kx_W p l e (4) (86) (xc σ0) s m args below meth c H locs σ (MQ below (kx_Q G σ0 (kx_rv Q)) args s (kx_N - xc σ0) (600 * (kx_N - xc σ0)) (kx_A G)) (F0 m 58 ls []) := by
  intro l0 l1 σ H locs ls h C hl
  obtain ⟨v1, ev1⟩ : ∃ z9 : Int32, z9 = l1 + 1 := ⟨_, rfl⟩
  replace h := h v1 ev1
  refine lv_iinc (v := v1) (lv' := [(1, .int v1), (0, .ref l0)]) F.1 F.2.1 dX11_freeJams_58 hl (k := 1) rfl (by rw [ev1]; rfl) (by decide) rfl (fun ls hl => ?_)
  refine lv_goto (tgt := 2) F.1 F.2.1 dX11_freeJams_61 (by decide) ?_
  exact hk2 l0 v1 σ H locs ls h C (lv_sub hl [1, 0] rfl)
set_option maxRecDepth 100000 in
set_option maxHeartbeats 4000000 in
theorem tX11_freeJams_2 (l : Launch) (G : kx_G) (σ0 : kx_S) {p : Program} {e : Env} {s : State} {m : MethodId} {args : Array Value} {below : List Frame} {meth : Method} {c : Code} (F : CallFix p m c cX11_freeJams 3 s args kt_ RX11) (hr : meth.sig.returnType = none) (hlocks : meth.locks = false) (Q : kx_S → Prop) : ∀ (n : Nat) (l0 : Nat) (l1 : Int32) (σ : kx_S) (H : Heap) (locs : List Loc) (ls : Array Slot), wX11_freeJams_2 Q n l0 l1 σ → kx_X G (xc σ0) s H locs σ → lv_has ls 3 [(0, .ref l0), (1, .int l1)] → kx_W p l e (4) (86) (xc σ0) s m args below meth c H locs σ (MQ below (kx_Q G σ0 (kx_rv Q)) args s (kx_N - xc σ0) (600 * (kx_N - xc σ0)) (kx_A G)) (F0 m 2 ls []) := by
  intro n
  induction n with
  | zero => intro l0 l1 σ H locs ls h; exact h.elim
  | succ n ih =>
    intro l0 l1 σ H locs ls h C hl
    refine lv_iload_n F.1 F.2.1 dX11_freeJams_2 rfl (lv_at hl 1 rfl) ?_
    refine lv_aload_n F.1 F.2.1 dX11_freeJams_3 rfl (lv_at hl 0 rfl) ?_
    obtain ⟨ht2, h⟩ := h
    refine xg_X11_crews F C ht2 ux_482 (fun _ h9 => h9) dX11_freeJams_4 ?_
    obtain ⟨a3, ea4, h⟩ := h
    refine xq_nn ea4 ?_
    obtain ⟨ht7, h⟩ := h
    refine xk_Jx4a65c_size_8abf5 F C a3 ht7 h ux_500 (Nat.le_of_ble_eq_true rfl) (Nat.le_of_ble_eq_true rfl) hl.1 (by simp [Value.category]) dX11_freeJams_7 (fun r6 σ5 H locs h C => ?_)
    refine lv_icmp_ge (tgt := 64) F.1 F.2.1 dX11_freeJams_12 (by decide) (fun c8 => ?_) (fun c8 => ?_)
    · replace h := h.1 c8
      exact kx_vret F C hr hlocks h dX11_freeJams_64
    · replace h := h.2 c8
      refine lv_aload_n F.1 F.2.1 dX11_freeJams_15 rfl (lv_at hl 0 rfl) ?_
      obtain ⟨ht9, h⟩ := h
      refine xg_X11_crews F C ht9 ux_482 (fun _ h9 => h9) dX11_freeJams_16 ?_
      obtain ⟨a10, ea11, h⟩ := h
      refine xq_nn ea11 ?_
      refine lv_iload_n F.1 F.2.1 dX11_freeJams_19 rfl (lv_at hl 1 rfl) ?_
      obtain ⟨ht14, h⟩ := h
      refine xk_Jx4a65c_get_915e3 F C a10 l1 ht14 h ux_502 (Nat.le_of_ble_eq_true rfl) (Nat.le_of_ble_eq_true rfl) hl.1 (by simp [Value.category]) dX11_freeJams_20 (fun q13 σ12 H locs h C => ?_)
      obtain ⟨a15, ea16, h⟩ := h
      refine xq_nn ea16 ?_
      obtain ⟨ht17, h⟩ := h
      refine kx_cast F C (by rw [ht17]; decide) (kx_e4 ht17) rfl ux_555 dX11_freeJams_25 ?_
      refine lv_astore_n (lv' := [(2, .ref a15), (0, .ref l0), (1, .int l1)]) F.1 F.2.1 dX11_freeJams_28 rfl hl (by decide) rfl (fun ls hl => ?_)
      refine lv_aload_n F.1 F.2.1 dX11_freeJams_29 rfl (lv_at hl 1 rfl) ?_
      obtain ⟨ht18, h⟩ := h
      refine xg_X11_hour F C ht18 ux_556 (fun _ h9 => h9) dX11_freeJams_30 ?_
      refine lv_aload_n F.1 F.2.1 dX11_freeJams_33 rfl (lv_at hl 0 rfl) ?_
      refine xg_X2_readyAt F C ht17 ux_653 (fun _ h9 => h9) dX11_freeJams_34 ?_
      refine lv_icmp_lt (tgt := 58) F.1 F.2.1 dX11_freeJams_37 (by decide) (fun c19 => ?_) (fun c19 => ?_)
      · replace h := h.1 c19
        exact tX11_freeJams_58 l G σ0 F hr hlocks Q (wX11_freeJams_2 Q n) (fun l0 l1 σ9 H locs ls h C hl => ih l0 l1 σ9 H locs ls h C hl) l0 l1 σ12 H locs ls h C (lv_sub hl [1, 2] rfl)
      · replace h := h.2 c19
        refine lv_aload_n F.1 F.2.1 dX11_freeJams_40 rfl (lv_at hl 0 rfl) ?_
        refine xg_X2_reach F C ht17 ux_561 (fun _ h9 => h9) dX11_freeJams_41 ?_
        obtain ⟨a20, ea21, h⟩ := h
        refine xq_nn ea21 ?_
        obtain ⟨ht24, h⟩ := h
        refine xk_X8_freesLowestJam F C a20 ht24 h ux_654 (Nat.le_of_ble_eq_true rfl) (Nat.le_of_ble_eq_true rfl) hl.1 (by simp [Value.category]) dX11_freeJams_44 (fun r23 σ22 H locs h C => ?_)
        refine lv_if_eq (tgt := 58) F.1 F.2.1 dX11_freeJams_47 (by decide) (fun c25 => ?_) (fun c25 => ?_)
        · replace h := h.1 c25
          exact tX11_freeJams_58 l G σ0 F hr hlocks Q (wX11_freeJams_2 Q n) (fun l0 l1 σ9 H locs ls h C hl => ih l0 l1 σ9 H locs ls h C hl) l0 l1 σ22 H locs ls h C (lv_sub hl [1, 2] rfl)
        · replace h := h.2 c25
          refine lv_aload_n F.1 F.2.1 dX11_freeJams_50 rfl (lv_at hl 0 rfl) ?_
          refine lv_aload_n F.1 F.2.1 dX11_freeJams_51 rfl (lv_at hl 1 rfl) ?_
          obtain ⟨ht26, h⟩ := h
          refine xg_X11_hour F C ht26 ux_556 (fun _ h9 => h9) dX11_freeJams_52 ?_
          obtain ⟨ht28, h⟩ := h
          refine xk_X2_rest F C a15 (xi σ22 217 l0) ht28 h ux_655 (Nat.le_of_ble_eq_true rfl) (Nat.le_of_ble_eq_true rfl) hl.1 (by simp [Value.category]) dX11_freeJams_55 (fun σ27 H locs h C => ?_)
          exact tX11_freeJams_58 l G σ0 F hr hlocks Q (wX11_freeJams_2 Q n) (fun l0 l1 σ9 H locs ls h C hl => ih l0 l1 σ9 H locs ls h C hl) l0 l1 σ27 H locs ls h C (lv_sub hl [1, 2] rfl)
set_option maxRecDepth 100000 in
set_option maxHeartbeats 4000000 in
theorem hx_X11_freeJams (l : Launch) (G : kx_G) (l0 : Nat) (σ : kx_S) (Q : kx_S → Prop) (h : wX11_freeJams l0 σ Q) : kx_M l G yX11_freeJams cX11_freeJams 3 none (4) (86) [.ref l0] σ (kx_rv Q) := by
  refine kx_enter (by decide) rfl (Nat.le_of_ble_eq_true rfl) ?_
  intro p e s m below meth c ls F hr hlocks C hname hl
  have hl : lv_has ls 3 [(0, .ref l0)] := hl
  obtain ⟨H, eH⟩ : ∃ z9, z9 = s.heap := ⟨_, rfl⟩
  obtain ⟨locs, eL⟩ : ∃ z9 : List Loc, z9 = [] := ⟨_, rfl⟩
  rw [← eH, ← eL] at C
  rw [← eH, ← eL]
  obtain ⟨σ0, e0⟩ : ∃ z9, z9 = σ := ⟨_, rfl⟩
  have C : kx_X G (xc σ0) s H locs σ := by rw [e0]; exact C
  suffices hgo : kx_W p l e (4) (86) (xc σ0) s m ([.ref l0] : List Value).toArray below meth c H locs σ (MQ below (kx_Q G σ0 (kx_rv Q)) ([.ref l0] : List Value).toArray s (kx_N - xc σ0) (600 * (kx_N - xc σ0)) (kx_A G)) (F0 m 0 ls []) by rw [e0] at hgo; exact hgo
  clear e0
  refine lv_iconst (v := 0) F.1 F.2.1 dX11_freeJams_0 (by decide) ?_
  refine lv_istore_n (lv' := [(1, .int 0), (0, .ref l0)]) F.1 F.2.1 dX11_freeJams_1 rfl hl (by decide) rfl (fun ls hl => ?_)
  obtain ⟨n29, h⟩ := h
  exact tX11_freeJams_2 l G σ0 F hr hlocks Q n29 l0 0 σ H locs ls h C (lv_sub hl [1, 0] rfl)
section
variable {p : Program} {l : Launch} {e : Env} {fr lo c0 : Nat} {s : State} {m : MethodId} {args : Array Value} {below : List Frame} {meth : Method} {c : Code} {H : Heap} {locs : List Loc} {Q : State → Prop}
variable {cc : ByteArray} {pc nL index : Nat} {ls : Array Slot} {rest : List Value} {G : kx_G} {σ : kx_S} {own : String}
theorem xk_X11_freeJams {P : kx_S → Prop} (F : CallFix p m c cc nL s args kt_ own) (C : kx_X G c0 s H locs σ) (l0 : Nat) (ha : xt σ l0 = 13) (h : wX11_freeJams l0 σ P) (hw : Cond.methodLink own index yX11_freeJams ∈ kt_) (h1 : (4) + 1 ≤ fr) (h2 : 8 + (3 + 11) + (86) ≤ lo) (hsz : ls.size = nL) (hW : (rest.map fun v => v.category).sum ≤ 8) (hdg : decode cc pc = .ok (.invokevirtual index, 3)) (kk : ∀ (u : kx_S) (H1 : Heap) (locs1 : List Loc), P u → kx_X G c0 s H1 locs1 u → kx_W p l e fr lo c0 s m args below meth c H1 locs1 u Q (F0 m (pc + 3) ls rest)) : kx_W p l e fr lo c0 s m args below meth c H locs σ Q (F0 m pc ls (.ref l0 :: rest)) :=
  kx_cV (n := 0) (As := []) (Cn := RX11) F C (hx_X11_freeJams l G l0 σ P h) (kt_V hw ux_657 ux_658 ux_117 ux_656) (by decide +kernel) ⟨h1, h2⟩ (kx_recv C (by rw [ha]; decide) (kx_e13 ha) rfl) rfl hsz hW hdg (fun v u H1 locs1 hP9 C9 => by obtain ⟨hv, hp⟩ := hP9; subst hv; exact kk u H1 locs1 hp C9)
end
theorem dX11_makeJamsKnown_0 : decode cX11_makeJamsKnown 0 = .ok (.iconst 0, 1) := by decide +kernel
theorem dX11_makeJamsKnown_1 : decode cX11_makeJamsKnown 1 = .ok (.istore_n 1, 1) := by decide +kernel
theorem dX11_makeJamsKnown_2 : decode cX11_makeJamsKnown 2 = .ok (.iload_n 1, 1) := by decide +kernel
theorem dX11_makeJamsKnown_3 : decode cX11_makeJamsKnown 3 = .ok (.aload_n 0, 1) := by decide +kernel
theorem dX11_makeJamsKnown_4 : decode cX11_makeJamsKnown 4 = .ok (.getfield 10, 3) := by decide +kernel
theorem dX11_makeJamsKnown_7 : decode cX11_makeJamsKnown 7 = .ok (.invokeinterface 59 1, 5) := by decide +kernel
theorem dX11_makeJamsKnown_12 : decode cX11_makeJamsKnown 12 = .ok (.if_icmp .ge 44, 3) := by decide +kernel
theorem dX11_makeJamsKnown_15 : decode cX11_makeJamsKnown 15 = .ok (.aload_n 0, 1) := by decide +kernel
theorem dX11_makeJamsKnown_16 : decode cX11_makeJamsKnown 16 = .ok (.getfield 10, 3) := by decide +kernel
theorem dX11_makeJamsKnown_19 : decode cX11_makeJamsKnown 19 = .ok (.iload_n 1, 1) := by decide +kernel
theorem dX11_makeJamsKnown_20 : decode cX11_makeJamsKnown 20 = .ok (.invokeinterface 69 2, 5) := by decide +kernel
theorem dX11_makeJamsKnown_25 : decode cX11_makeJamsKnown 25 = .ok (.checkcast 73, 3) := by decide +kernel
theorem dX11_makeJamsKnown_28 : decode cX11_makeJamsKnown 28 = .ok (.getfield 123, 3) := by decide +kernel
theorem dX11_makeJamsKnown_31 : decode cX11_makeJamsKnown 31 = .ok (.ifCond .eq 19, 3) := by decide +kernel
theorem dX11_makeJamsKnown_34 : decode cX11_makeJamsKnown 34 = .ok (.aload_n 0, 1) := by decide +kernel
theorem dX11_makeJamsKnown_35 : decode cX11_makeJamsKnown 35 = .ok (.getfield 10, 3) := by decide +kernel
theorem dX11_makeJamsKnown_38 : decode cX11_makeJamsKnown 38 = .ok (.iload_n 1, 1) := by decide +kernel
theorem dX11_makeJamsKnown_39 : decode cX11_makeJamsKnown 39 = .ok (.invokeinterface 69 2, 5) := by decide +kernel
theorem dX11_makeJamsKnown_44 : decode cX11_makeJamsKnown 44 = .ok (.checkcast 73, 3) := by decide +kernel
theorem dX11_makeJamsKnown_47 : decode cX11_makeJamsKnown 47 = .ok (.invokevirtual 329, 3) := by decide +kernel
theorem dX11_makeJamsKnown_50 : decode cX11_makeJamsKnown 50 = .ok (.iinc 1 1, 3) := by decide +kernel
theorem dX11_makeJamsKnown_53 : decode cX11_makeJamsKnown 53 = .ok (.goto (-51), 3) := by decide +kernel
theorem dX11_makeJamsKnown_56 : decode cX11_makeJamsKnown 56 = .ok (.iconst 0, 1) := by decide +kernel
theorem dX11_makeJamsKnown_57 : decode cX11_makeJamsKnown 57 = .ok (.istore_n 1, 1) := by decide +kernel
theorem dX11_makeJamsKnown_58 : decode cX11_makeJamsKnown 58 = .ok (.iload_n 1, 1) := by decide +kernel
theorem dX11_makeJamsKnown_59 : decode cX11_makeJamsKnown 59 = .ok (.aload_n 0, 1) := by decide +kernel
theorem dX11_makeJamsKnown_60 : decode cX11_makeJamsKnown 60 = .ok (.getfield 22, 3) := by decide +kernel
theorem dX11_makeJamsKnown_63 : decode cX11_makeJamsKnown 63 = .ok (.invokeinterface 59 1, 5) := by decide +kernel
theorem dX11_makeJamsKnown_68 : decode cX11_makeJamsKnown 68 = .ok (.if_icmp .ge 28, 3) := by decide +kernel
theorem dX11_makeJamsKnown_71 : decode cX11_makeJamsKnown 71 = .ok (.aload_n 0, 1) := by decide +kernel
theorem dX11_makeJamsKnown_72 : decode cX11_makeJamsKnown 72 = .ok (.getfield 22, 3) := by decide +kernel
theorem dX11_makeJamsKnown_75 : decode cX11_makeJamsKnown 75 = .ok (.iload_n 1, 1) := by decide +kernel
theorem dX11_makeJamsKnown_76 : decode cX11_makeJamsKnown 76 = .ok (.invokeinterface 69 2, 5) := by decide +kernel
theorem dX11_makeJamsKnown_81 : decode cX11_makeJamsKnown 81 = .ok (.checkcast 130, 3) := by decide +kernel
theorem dX11_makeJamsKnown_84 : decode cX11_makeJamsKnown 84 = .ok (.getfield 132, 3) := by decide +kernel
theorem dX11_makeJamsKnown_87 : decode cX11_makeJamsKnown 87 = .ok (.invokevirtual 329, 3) := by decide +kernel
theorem dX11_makeJamsKnown_90 : decode cX11_makeJamsKnown 90 = .ok (.iinc 1 1, 3) := by decide +kernel
theorem dX11_makeJamsKnown_93 : decode cX11_makeJamsKnown 93 = .ok (.goto (-35), 3) := by decide +kernel
theorem dX11_makeJamsKnown_96 : decode cX11_makeJamsKnown 96 = .ok (.return_, 1) := by decide +kernel
def wX11_makeJamsKnown_50 (k2 : Nat → Int32 → kx_S → Prop) (Q : kx_S → Prop) (l0 : Nat) (l1 : Int32) (σ : kx_S) : Prop := ∀ v1 : Int32, v1 = l1 + 1 → k2 l0 v1 σ
def wX11_makeJamsKnown_58 (Q : kx_S → Prop) : Nat → Nat → Int32 → kx_S → Prop
  | 0, _, _, _ => False
  | n + 1, l0, l1, σ => xt σ l0 = 13 ∧ ∃ a3, xr σ 211 l0 = some a3 ∧ xt σ a3 = 1 ∧ wJx4a65c_size_8abf5 a3 σ (fun r6 σ5 => ((r6 ≤ l1 → Q σ5) ∧
    (¬ (r6 ≤ l1) → xt σ5 l0 = 13 ∧ ∃ a10, xr σ5 211 l0 = some a10 ∧ xt σ5 a10 = 1 ∧ wJx4a65c_get_915e3 a10 l1 σ5 (fun q13 σ12 => ∃ a15, q13 = some a15 ∧ xt σ12 a15 = 4 ∧ ∃ a18, xr σ12 64 a15 = some a18 ∧ xt σ12 a18 = 10 ∧ wX8_makeJamsKnown a18 σ12 (fun σ20 => ∀ v22 : Int32, v22 = l1 + 1 → wX11_makeJamsKnown_58 Q n l0 v22 σ20)))))
def wX11_makeJamsKnown_56 (Q : kx_S → Prop) (l0 : Nat) (σ : kx_S) : Prop := ∃ j, wX11_makeJamsKnown_58 Q j l0 0 σ
def wX11_makeJamsKnown_2 (k56 : Nat → kx_S → Prop) (Q : kx_S → Prop) : Nat → Nat → Int32 → kx_S → Prop
  | 0, _, _, _ => False
  | n + 1, l0, l1, σ => xt σ l0 = 13 ∧ ∃ a25, xr σ 208 l0 = some a25 ∧ xt σ a25 = 1 ∧ wJx4a65c_size_8abf5 a25 σ (fun r28 σ27 => ((r28 ≤ l1 → k56 l0 σ27) ∧
    (¬ (r28 ≤ l1) → xt σ27 l0 = 13 ∧ ∃ a32, xr σ27 208 l0 = some a32 ∧ xt σ27 a32 = 1 ∧ wJx4a65c_get_915e3 a32 l1 σ27 (fun q35 σ34 => ∃ a37, q35 = some a37 ∧ xt σ34 a37 = 10 ∧ (((xi σ34 171 a37) = 0 → wX11_makeJamsKnown_50 (wX11_makeJamsKnown_2 k56 Q n) Q l0 l1 σ34) ∧
      (¬ ((xi σ34 171 a37) = 0) → xt σ34 l0 = 13 ∧ ∃ a42, xr σ34 208 l0 = some a42 ∧ xt σ34 a42 = 1 ∧ wJx4a65c_get_915e3 a42 l1 σ34 (fun q45 σ44 => ∃ a47, q45 = some a47 ∧ xt σ44 a47 = 10 ∧ wX8_makeJamsKnown a47 σ44 (fun σ50 => wX11_makeJamsKnown_50 (wX11_makeJamsKnown_2 k56 Q n) Q l0 l1 σ50))))))))
def wX11_makeJamsKnown (l0 : Nat) (σ : kx_S) (Q : kx_S → Prop) : Prop := ∃ j, wX11_makeJamsKnown_2 (wX11_makeJamsKnown_56 Q) Q j l0 0 σ
set_option maxRecDepth 100000 in
set_option maxHeartbeats 4000000 in
theorem tX11_makeJamsKnown_50 (l : Launch) (G : kx_G) (σ0 : kx_S) {p : Program} {e : Env} {s : State} {m : MethodId} {args : Array Value} {below : List Frame} {meth : Method} {c : Code} (F : CallFix p m c cX11_makeJamsKnown 2 s args kt_ RX11) (hr : meth.sig.returnType = none) (hlocks : meth.locks = false) (Q : kx_S → Prop) (k2 : Nat → Int32 → kx_S → Prop) (hk2 : ∀ (l0 : Nat) (l1 : Int32) (σ : kx_S) (H : Heap) (locs : List Loc) (ls : Array Slot), k2 l0 l1 σ → kx_X G (xc σ0) s H locs σ → lv_has ls 2 [(0, .ref l0), (1, .int l1)] → kx_W p l e (4) (86) (xc σ0) s m args below meth c H locs σ (MQ below (kx_Q G σ0 (kx_rv Q)) args s (kx_N - xc σ0) (600 * (kx_N - xc σ0)) (kx_A G)) (F0 m 2 ls [])) : ∀ (l0 : Nat) (l1 : Int32) (σ : kx_S) (H : Heap) (locs : List Loc) (ls : Array Slot), wX11_makeJamsKnown_50 k2 Q l0 l1 σ → kx_X G (xc σ0) s H locs σ → lv_has ls 2 [(0, .ref l0), (1, .int l1)] → kx_W p l e (4) (86) (xc σ0) s m args below meth c H locs σ (MQ below (kx_Q G σ0 (kx_rv Q)) args s (kx_N - xc σ0) (600 * (kx_N - xc σ0)) (kx_A G)) (F0 m 50 ls []) := by
  intro l0 l1 σ H locs ls h C hl
  obtain ⟨v1, ev1⟩ : ∃ z9 : Int32, z9 = l1 + 1 := ⟨_, rfl⟩
  replace h := h v1 ev1
  refine lv_iinc (v := v1) (lv' := [(1, .int v1), (0, .ref l0)]) F.1 F.2.1 dX11_makeJamsKnown_50 hl (k := 1) rfl (by rw [ev1]; rfl) (by decide) rfl (fun ls hl => ?_)
  refine lv_goto (tgt := 2) F.1 F.2.1 dX11_makeJamsKnown_53 (by decide) ?_
  exact hk2 l0 v1 σ H locs ls h C (lv_sub hl [1, 0] rfl)
set_option maxRecDepth 100000 in
set_option maxHeartbeats 4000000 in
theorem tX11_makeJamsKnown_58 (l : Launch) (G : kx_G) (σ0 : kx_S) {p : Program} {e : Env} {s : State} {m : MethodId} {args : Array Value} {below : List Frame} {meth : Method} {c : Code} (F : CallFix p m c cX11_makeJamsKnown 2 s args kt_ RX11) (hr : meth.sig.returnType = none) (hlocks : meth.locks = false) (Q : kx_S → Prop) : ∀ (n : Nat) (l0 : Nat) (l1 : Int32) (σ : kx_S) (H : Heap) (locs : List Loc) (ls : Array Slot), wX11_makeJamsKnown_58 Q n l0 l1 σ → kx_X G (xc σ0) s H locs σ → lv_has ls 2 [(0, .ref l0), (1, .int l1)] → kx_W p l e (4) (86) (xc σ0) s m args below meth c H locs σ (MQ below (kx_Q G σ0 (kx_rv Q)) args s (kx_N - xc σ0) (600 * (kx_N - xc σ0)) (kx_A G)) (F0 m 58 ls []) := by
  intro n
  induction n with
  | zero => intro l0 l1 σ H locs ls h; exact h.elim
  | succ n ih =>
    intro l0 l1 σ H locs ls h C hl
    refine lv_iload_n F.1 F.2.1 dX11_makeJamsKnown_58 rfl (lv_at hl 1 rfl) ?_
    refine lv_aload_n F.1 F.2.1 dX11_makeJamsKnown_59 rfl (lv_at hl 0 rfl) ?_
    obtain ⟨ht2, h⟩ := h
    refine xg_X11_crews F C ht2 ux_482 (fun _ h9 => h9) dX11_makeJamsKnown_60 ?_
    obtain ⟨a3, ea4, h⟩ := h
    refine xq_nn ea4 ?_
    obtain ⟨ht7, h⟩ := h
    refine xk_Jx4a65c_size_8abf5 F C a3 ht7 h ux_500 (Nat.le_of_ble_eq_true rfl) (Nat.le_of_ble_eq_true rfl) hl.1 (by simp [Value.category]) dX11_makeJamsKnown_63 (fun r6 σ5 H locs h C => ?_)
    refine lv_icmp_ge (tgt := 96) F.1 F.2.1 dX11_makeJamsKnown_68 (by decide) (fun c8 => ?_) (fun c8 => ?_)
    · replace h := h.1 c8
      exact kx_vret F C hr hlocks h dX11_makeJamsKnown_96
    · replace h := h.2 c8
      refine lv_aload_n F.1 F.2.1 dX11_makeJamsKnown_71 rfl (lv_at hl 0 rfl) ?_
      obtain ⟨ht9, h⟩ := h
      refine xg_X11_crews F C ht9 ux_482 (fun _ h9 => h9) dX11_makeJamsKnown_72 ?_
      obtain ⟨a10, ea11, h⟩ := h
      refine xq_nn ea11 ?_
      refine lv_iload_n F.1 F.2.1 dX11_makeJamsKnown_75 rfl (lv_at hl 1 rfl) ?_
      obtain ⟨ht14, h⟩ := h
      refine xk_Jx4a65c_get_915e3 F C a10 l1 ht14 h ux_502 (Nat.le_of_ble_eq_true rfl) (Nat.le_of_ble_eq_true rfl) hl.1 (by simp [Value.category]) dX11_makeJamsKnown_76 (fun q13 σ12 H locs h C => ?_)
      obtain ⟨a15, ea16, h⟩ := h
      refine xq_nn ea16 ?_
      obtain ⟨ht17, h⟩ := h
      refine kx_cast F C (by rw [ht17]; decide) (kx_e4 ht17) rfl ux_555 dX11_makeJamsKnown_81 ?_
      refine xg_X2_reach F C ht17 ux_561 (fun _ h9 => h9) dX11_makeJamsKnown_84 ?_
      obtain ⟨a18, ea19, h⟩ := h
      refine xq_nn ea19 ?_
      obtain ⟨ht21, h⟩ := h
      refine xk_X8_makeJamsKnown F C a18 ht21 h ux_659 (Nat.le_of_ble_eq_true rfl) (Nat.le_of_ble_eq_true rfl) hl.1 (by simp [Value.category]) dX11_makeJamsKnown_87 (fun σ20 H locs h C => ?_)
      obtain ⟨v22, ev22⟩ : ∃ z9 : Int32, z9 = l1 + 1 := ⟨_, rfl⟩
      replace h := h v22 ev22
      refine lv_iinc (v := v22) (lv' := [(1, .int v22), (0, .ref l0)]) F.1 F.2.1 dX11_makeJamsKnown_90 hl (k := 1) rfl (by rw [ev22]; rfl) (by decide) rfl (fun ls hl => ?_)
      refine lv_goto (tgt := 58) F.1 F.2.1 dX11_makeJamsKnown_93 (by decide) ?_
      exact ih l0 v22 σ20 H locs ls h C (lv_sub hl [1, 0] rfl)
set_option maxRecDepth 100000 in
set_option maxHeartbeats 4000000 in
theorem tX11_makeJamsKnown_56 (l : Launch) (G : kx_G) (σ0 : kx_S) {p : Program} {e : Env} {s : State} {m : MethodId} {args : Array Value} {below : List Frame} {meth : Method} {c : Code} (F : CallFix p m c cX11_makeJamsKnown 2 s args kt_ RX11) (hr : meth.sig.returnType = none) (hlocks : meth.locks = false) (Q : kx_S → Prop) : ∀ (l0 : Nat) (σ : kx_S) (H : Heap) (locs : List Loc) (ls : Array Slot), wX11_makeJamsKnown_56 Q l0 σ → kx_X G (xc σ0) s H locs σ → lv_has ls 2 [(0, .ref l0)] → kx_W p l e (4) (86) (xc σ0) s m args below meth c H locs σ (MQ below (kx_Q G σ0 (kx_rv Q)) args s (kx_N - xc σ0) (600 * (kx_N - xc σ0)) (kx_A G)) (F0 m 56 ls []) := by
  intro l0 σ H locs ls h C hl
  refine lv_iconst (v := 0) F.1 F.2.1 dX11_makeJamsKnown_56 (by decide) ?_
  refine lv_istore_n (lv' := [(1, .int 0), (0, .ref l0)]) F.1 F.2.1 dX11_makeJamsKnown_57 rfl hl (by decide) rfl (fun ls hl => ?_)
  obtain ⟨n23, h⟩ := h
  exact tX11_makeJamsKnown_58 l G σ0 F hr hlocks Q n23 l0 0 σ H locs ls h C (lv_sub hl [1, 0] rfl)
set_option maxRecDepth 100000 in
set_option maxHeartbeats 4000000 in
theorem tX11_makeJamsKnown_2 (l : Launch) (G : kx_G) (σ0 : kx_S) {p : Program} {e : Env} {s : State} {m : MethodId} {args : Array Value} {below : List Frame} {meth : Method} {c : Code} (F : CallFix p m c cX11_makeJamsKnown 2 s args kt_ RX11) (hr : meth.sig.returnType = none) (hlocks : meth.locks = false) (Q : kx_S → Prop) (k56 : Nat → kx_S → Prop) (hk56 : ∀ (l0 : Nat) (σ : kx_S) (H : Heap) (locs : List Loc) (ls : Array Slot), k56 l0 σ → kx_X G (xc σ0) s H locs σ → lv_has ls 2 [(0, .ref l0)] → kx_W p l e (4) (86) (xc σ0) s m args below meth c H locs σ (MQ below (kx_Q G σ0 (kx_rv Q)) args s (kx_N - xc σ0) (600 * (kx_N - xc σ0)) (kx_A G)) (F0 m 56 ls [])) : ∀ (n : Nat) (l0 : Nat) (l1 : Int32) (σ : kx_S) (H : Heap) (locs : List Loc) (ls : Array Slot), wX11_makeJamsKnown_2 k56 Q n l0 l1 σ → kx_X G (xc σ0) s H locs σ → lv_has ls 2 [(0, .ref l0), (1, .int l1)] → kx_W p l e (4) (86) (xc σ0) s m args below meth c H locs σ (MQ below (kx_Q G σ0 (kx_rv Q)) args s (kx_N - xc σ0) (600 * (kx_N - xc σ0)) (kx_A G)) (F0 m 2 ls []) := by
  intro n
  induction n with
  | zero => intro l0 l1 σ H locs ls h; exact h.elim
  | succ n ih =>
    intro l0 l1 σ H locs ls h C hl
    refine lv_iload_n F.1 F.2.1 dX11_makeJamsKnown_2 rfl (lv_at hl 1 rfl) ?_
    refine lv_aload_n F.1 F.2.1 dX11_makeJamsKnown_3 rfl (lv_at hl 0 rfl) ?_
    obtain ⟨ht24, h⟩ := h
    refine xg_X11_reaches F C ht24 ux_479 (fun _ h9 => h9) dX11_makeJamsKnown_4 ?_
    obtain ⟨a25, ea26, h⟩ := h
    refine xq_nn ea26 ?_
    obtain ⟨ht29, h⟩ := h
    refine xk_Jx4a65c_size_8abf5 F C a25 ht29 h ux_500 (Nat.le_of_ble_eq_true rfl) (Nat.le_of_ble_eq_true rfl) hl.1 (by simp [Value.category]) dX11_makeJamsKnown_7 (fun r28 σ27 H locs h C => ?_)
    refine lv_icmp_ge (tgt := 56) F.1 F.2.1 dX11_makeJamsKnown_12 (by decide) (fun c30 => ?_) (fun c30 => ?_)
    · replace h := h.1 c30
      exact hk56 l0 σ27 H locs ls h C (lv_sub hl [0] rfl)
    · replace h := h.2 c30
      refine lv_aload_n F.1 F.2.1 dX11_makeJamsKnown_15 rfl (lv_at hl 0 rfl) ?_
      obtain ⟨ht31, h⟩ := h
      refine xg_X11_reaches F C ht31 ux_479 (fun _ h9 => h9) dX11_makeJamsKnown_16 ?_
      obtain ⟨a32, ea33, h⟩ := h
      refine xq_nn ea33 ?_
      refine lv_iload_n F.1 F.2.1 dX11_makeJamsKnown_19 rfl (lv_at hl 1 rfl) ?_
      obtain ⟨ht36, h⟩ := h
      refine xk_Jx4a65c_get_915e3 F C a32 l1 ht36 h ux_502 (Nat.le_of_ble_eq_true rfl) (Nat.le_of_ble_eq_true rfl) hl.1 (by simp [Value.category]) dX11_makeJamsKnown_20 (fun q35 σ34 H locs h C => ?_)
      obtain ⟨a37, ea38, h⟩ := h
      refine xq_nn ea38 ?_
      obtain ⟨ht39, h⟩ := h
      refine kx_cast F C (by rw [ht39]; decide) (kx_e10 ht39) rfl ux_503 dX11_makeJamsKnown_25 ?_
      refine xg_X8_watched F C ht39 ux_551 (fun _ h9 => h9) dX11_makeJamsKnown_28 ?_
      refine lv_if_eq (tgt := 50) F.1 F.2.1 dX11_makeJamsKnown_31 (by decide) (fun c40 => ?_) (fun c40 => ?_)
      · replace h := h.1 c40
        exact tX11_makeJamsKnown_50 l G σ0 F hr hlocks Q (wX11_makeJamsKnown_2 k56 Q n) (fun l0 l1 σ9 H locs ls h C hl => ih l0 l1 σ9 H locs ls h C hl) l0 l1 σ34 H locs ls h C (lv_sub hl [0, 1] rfl)
      · replace h := h.2 c40
        refine lv_aload_n F.1 F.2.1 dX11_makeJamsKnown_34 rfl (lv_at hl 0 rfl) ?_
        obtain ⟨ht41, h⟩ := h
        refine xg_X11_reaches F C ht41 ux_479 (fun _ h9 => h9) dX11_makeJamsKnown_35 ?_
        obtain ⟨a42, ea43, h⟩ := h
        refine xq_nn ea43 ?_
        refine lv_iload_n F.1 F.2.1 dX11_makeJamsKnown_38 rfl (lv_at hl 1 rfl) ?_
        obtain ⟨ht46, h⟩ := h
        refine xk_Jx4a65c_get_915e3 F C a42 l1 ht46 h ux_502 (Nat.le_of_ble_eq_true rfl) (Nat.le_of_ble_eq_true rfl) hl.1 (by simp [Value.category]) dX11_makeJamsKnown_39 (fun q45 σ44 H locs h C => ?_)
        obtain ⟨a47, ea48, h⟩ := h
        refine xq_nn ea48 ?_
        obtain ⟨ht49, h⟩ := h
        refine kx_cast F C (by rw [ht49]; decide) (kx_e10 ht49) rfl ux_503 dX11_makeJamsKnown_44 ?_
        refine xk_X8_makeJamsKnown F C a47 ht49 h ux_659 (Nat.le_of_ble_eq_true rfl) (Nat.le_of_ble_eq_true rfl) hl.1 (by simp [Value.category]) dX11_makeJamsKnown_47 (fun σ50 H locs h C => ?_)
        exact tX11_makeJamsKnown_50 l G σ0 F hr hlocks Q (wX11_makeJamsKnown_2 k56 Q n) (fun l0 l1 σ9 H locs ls h C hl => ih l0 l1 σ9 H locs ls h C hl) l0 l1 σ50 H locs ls h C (lv_sub hl [0, 1] rfl)
set_option maxRecDepth 100000 in
set_option maxHeartbeats 4000000 in
theorem hx_X11_makeJamsKnown (l : Launch) (G : kx_G) (l0 : Nat) (σ : kx_S) (Q : kx_S → Prop) (h : wX11_makeJamsKnown l0 σ Q) : kx_M l G yX11_makeJamsKnown cX11_makeJamsKnown 2 none (4) (86) [.ref l0] σ (kx_rv Q) := by
  refine kx_enter (by decide) rfl (Nat.le_of_ble_eq_true rfl) ?_
  intro p e s m below meth c ls F hr hlocks C hname hl
  have hl : lv_has ls 2 [(0, .ref l0)] := hl
  obtain ⟨H, eH⟩ : ∃ z9, z9 = s.heap := ⟨_, rfl⟩
  obtain ⟨locs, eL⟩ : ∃ z9 : List Loc, z9 = [] := ⟨_, rfl⟩
  rw [← eH, ← eL] at C
  rw [← eH, ← eL]
  obtain ⟨σ0, e0⟩ : ∃ z9, z9 = σ := ⟨_, rfl⟩
  have C : kx_X G (xc σ0) s H locs σ := by rw [e0]; exact C
  suffices hgo : kx_W p l e (4) (86) (xc σ0) s m ([.ref l0] : List Value).toArray below meth c H locs σ (MQ below (kx_Q G σ0 (kx_rv Q)) ([.ref l0] : List Value).toArray s (kx_N - xc σ0) (600 * (kx_N - xc σ0)) (kx_A G)) (F0 m 0 ls []) by rw [e0] at hgo; exact hgo
  clear e0
  refine lv_iconst (v := 0) F.1 F.2.1 dX11_makeJamsKnown_0 (by decide) ?_
  refine lv_istore_n (lv' := [(1, .int 0), (0, .ref l0)]) F.1 F.2.1 dX11_makeJamsKnown_1 rfl hl (by decide) rfl (fun ls hl => ?_)
  obtain ⟨n51, h⟩ := h
  exact tX11_makeJamsKnown_2 l G σ0 F hr hlocks Q (wX11_makeJamsKnown_56 Q) (tX11_makeJamsKnown_56 l G σ0 F hr hlocks Q) n51 l0 0 σ H locs ls h C (lv_sub hl [1, 0] rfl)
section
variable {p : Program} {l : Launch} {e : Env} {fr lo c0 : Nat} {s : State} {m : MethodId} {args : Array Value} {below : List Frame} {meth : Method} {c : Code} {H : Heap} {locs : List Loc} {Q : State → Prop}
variable {cc : ByteArray} {pc nL index : Nat} {ls : Array Slot} {rest : List Value} {G : kx_G} {σ : kx_S} {own : String}
theorem xk_X11_makeJamsKnown {P : kx_S → Prop} (F : CallFix p m c cc nL s args kt_ own) (C : kx_X G c0 s H locs σ) (l0 : Nat) (ha : xt σ l0 = 13) (h : wX11_makeJamsKnown l0 σ P) (hw : Cond.methodLink own index yX11_makeJamsKnown ∈ kt_) (h1 : (4) + 1 ≤ fr) (h2 : 8 + (2 + 11) + (86) ≤ lo) (hsz : ls.size = nL) (hW : (rest.map fun v => v.category).sum ≤ 8) (hdg : decode cc pc = .ok (.invokevirtual index, 3)) (kk : ∀ (u : kx_S) (H1 : Heap) (locs1 : List Loc), P u → kx_X G c0 s H1 locs1 u → kx_W p l e fr lo c0 s m args below meth c H1 locs1 u Q (F0 m (pc + 3) ls rest)) : kx_W p l e fr lo c0 s m args below meth c H locs σ Q (F0 m pc ls (.ref l0 :: rest)) :=
  kx_cV (n := 0) (As := []) (Cn := RX11) F C (hx_X11_makeJamsKnown l G l0 σ P h) (kt_V hw ux_661 ux_662 ux_117 ux_660) (by decide +kernel) ⟨h1, h2⟩ (kx_recv C (by rw [ha]; decide) (kx_e13 ha) rfl) rfl hsz hW hdg (fun v u H1 locs1 hP9 C9 => by obtain ⟨hv, hp⟩ := hP9; subst hv; exact kk u H1 locs1 hp C9)
end
theorem dX11_ageLogs_0 : decode cX11_ageLogs 0 = .ok (.iconst 0, 1) := by decide +kernel
theorem dX11_ageLogs_1 : decode cX11_ageLogs 1 = .ok (.istore_n 1, 1) := by decide +kernel
theorem dX11_ageLogs_2 : decode cX11_ageLogs 2 = .ok (.iload_n 1, 1) := by decide +kernel
theorem dX11_ageLogs_3 : decode cX11_ageLogs 3 = .ok (.aload_n 0, 1) := by decide +kernel
theorem dX11_ageLogs_4 : decode cX11_ageLogs 4 = .ok (.getfield 10, 3) := by decide +kernel
theorem dX11_ageLogs_7 : decode cX11_ageLogs 7 = .ok (.invokeinterface 59 1, 5) := by decide +kernel
theorem dX11_ageLogs_12 : decode cX11_ageLogs 12 = .ok (.if_icmp .ge 60, 3) := by decide +kernel
theorem dX11_ageLogs_15 : decode cX11_ageLogs 15 = .ok (.aload_n 0, 1) := by decide +kernel
theorem dX11_ageLogs_16 : decode cX11_ageLogs 16 = .ok (.getfield 10, 3) := by decide +kernel
theorem dX11_ageLogs_19 : decode cX11_ageLogs 19 = .ok (.iload_n 1, 1) := by decide +kernel
theorem dX11_ageLogs_20 : decode cX11_ageLogs 20 = .ok (.invokeinterface 69 2, 5) := by decide +kernel
theorem dX11_ageLogs_25 : decode cX11_ageLogs 25 = .ok (.checkcast 73, 3) := by decide +kernel
theorem dX11_ageLogs_28 : decode cX11_ageLogs 28 = .ok (.astore_n 2, 1) := by decide +kernel
theorem dX11_ageLogs_29 : decode cX11_ageLogs 29 = .ok (.iconst 0, 1) := by decide +kernel
theorem dX11_ageLogs_30 : decode cX11_ageLogs 30 = .ok (.istore_n 3, 1) := by decide +kernel
theorem dX11_ageLogs_31 : decode cX11_ageLogs 31 = .ok (.iload_n 3, 1) := by decide +kernel
theorem dX11_ageLogs_32 : decode cX11_ageLogs 32 = .ok (.aload_n 2, 1) := by decide +kernel
theorem dX11_ageLogs_33 : decode cX11_ageLogs 33 = .ok (.getfield 78, 3) := by decide +kernel
theorem dX11_ageLogs_36 : decode cX11_ageLogs 36 = .ok (.invokeinterface 59 1, 5) := by decide +kernel
theorem dX11_ageLogs_41 : decode cX11_ageLogs 41 = .ok (.if_icmp .ge 25, 3) := by decide +kernel
theorem dX11_ageLogs_44 : decode cX11_ageLogs 44 = .ok (.aload_n 2, 1) := by decide +kernel
theorem dX11_ageLogs_45 : decode cX11_ageLogs 45 = .ok (.getfield 78, 3) := by decide +kernel
theorem dX11_ageLogs_48 : decode cX11_ageLogs 48 = .ok (.iload_n 3, 1) := by decide +kernel
theorem dX11_ageLogs_49 : decode cX11_ageLogs 49 = .ok (.invokeinterface 69 2, 5) := by decide +kernel
theorem dX11_ageLogs_54 : decode cX11_ageLogs 54 = .ok (.checkcast 81, 3) := by decide +kernel
theorem dX11_ageLogs_57 : decode cX11_ageLogs 57 = .ok (.invokevirtual 330, 3) := by decide +kernel
theorem dX11_ageLogs_60 : decode cX11_ageLogs 60 = .ok (.iinc 3 1, 3) := by decide +kernel
theorem dX11_ageLogs_63 : decode cX11_ageLogs 63 = .ok (.goto (-32), 3) := by decide +kernel
theorem dX11_ageLogs_66 : decode cX11_ageLogs 66 = .ok (.iinc 1 1, 3) := by decide +kernel
theorem dX11_ageLogs_69 : decode cX11_ageLogs 69 = .ok (.goto (-67), 3) := by decide +kernel
theorem dX11_ageLogs_72 : decode cX11_ageLogs 72 = .ok (.return_, 1) := by decide +kernel
def wX11_ageLogs_66 (k2 : Nat → Int32 → kx_S → Prop) (Q : kx_S → Prop) (l0 : Nat) (l1 : Int32) (σ : kx_S) : Prop := ∀ v1 : Int32, v1 = l1 + 1 → k2 l0 v1 σ
def wX11_ageLogs_31 (k66 : Nat → Int32 → kx_S → Prop) (Q : kx_S → Prop) : Nat → Nat → Int32 → Nat → Int32 → kx_S → Prop
  | 0, _, _, _, _, _ => False
  | n + 1, l0, l1, l2, l3, σ => xt σ l2 = 10 ∧ ∃ a3, xr σ 163 l2 = some a3 ∧ xt σ a3 = 1 ∧ wJx4a65c_size_8abf5 a3 σ (fun r6 σ5 => ((r6 ≤ l3 → k66 l0 l1 σ5) ∧
    (¬ (r6 ≤ l3) → xt σ5 l2 = 10 ∧ ∃ a10, xr σ5 163 l2 = some a10 ∧ xt σ5 a10 = 1 ∧ wJx4a65c_get_915e3 a10 l3 σ5 (fun q13 σ12 => ∃ a15, q13 = some a15 ∧ xt σ12 a15 = 3 ∧ wX1_ageLogs a15 σ12 (fun σ18 => ∀ v19 : Int32, v19 = l3 + 1 → wX11_ageLogs_31 k66 Q n l0 l1 l2 v19 σ18)))))
def wX11_ageLogs_2 (Q : kx_S → Prop) : Nat → Nat → Int32 → kx_S → Prop
  | 0, _, _, _ => False
  | n + 1, l0, l1, σ => xt σ l0 = 13 ∧ ∃ a21, xr σ 208 l0 = some a21 ∧ xt σ a21 = 1 ∧ wJx4a65c_size_8abf5 a21 σ (fun r24 σ23 => ((r24 ≤ l1 → Q σ23) ∧
    (¬ (r24 ≤ l1) → xt σ23 l0 = 13 ∧ ∃ a28, xr σ23 208 l0 = some a28 ∧ xt σ23 a28 = 1 ∧ wJx4a65c_get_915e3 a28 l1 σ23 (fun q31 σ30 => ∃ a33, q31 = some a33 ∧ xt σ30 a33 = 10 ∧ ∃ j, wX11_ageLogs_31 (wX11_ageLogs_66 (wX11_ageLogs_2 Q n) Q) Q j l0 l1 a33 0 σ30))))
def wX11_ageLogs (l0 : Nat) (σ : kx_S) (Q : kx_S → Prop) : Prop := ∃ j, wX11_ageLogs_2 Q j l0 0 σ
set_option maxRecDepth 100000 in
set_option maxHeartbeats 4000000 in
theorem tX11_ageLogs_66 (l : Launch) (G : kx_G) (σ0 : kx_S) {p : Program} {e : Env} {s : State} {m : MethodId} {args : Array Value} {below : List Frame} {meth : Method} {c : Code} (F : CallFix p m c cX11_ageLogs 4 s args kt_ RX11) (hr : meth.sig.returnType = none) (hlocks : meth.locks = false) (Q : kx_S → Prop) (k2 : Nat → Int32 → kx_S → Prop) (hk2 : ∀ (l0 : Nat) (l1 : Int32) (σ : kx_S) (H : Heap) (locs : List Loc) (ls : Array Slot), k2 l0 l1 σ → kx_X G (xc σ0) s H locs σ → lv_has ls 4 [(0, .ref l0), (1, .int l1)] → kx_W p l e (4) (168) (xc σ0) s m args below meth c H locs σ (MQ below (kx_Q G σ0 (kx_rv Q)) args s (kx_N - xc σ0) (600 * (kx_N - xc σ0)) (kx_A G)) (F0 m 2 ls [])) : ∀ (l0 : Nat) (l1 : Int32) (σ : kx_S) (H : Heap) (locs : List Loc) (ls : Array Slot), wX11_ageLogs_66 k2 Q l0 l1 σ → kx_X G (xc σ0) s H locs σ → lv_has ls 4 [(0, .ref l0), (1, .int l1)] → kx_W p l e (4) (168) (xc σ0) s m args below meth c H locs σ (MQ below (kx_Q G σ0 (kx_rv Q)) args s (kx_N - xc σ0) (600 * (kx_N - xc σ0)) (kx_A G)) (F0 m 66 ls []) := by
  intro l0 l1 σ H locs ls h C hl
  obtain ⟨v1, ev1⟩ : ∃ z9 : Int32, z9 = l1 + 1 := ⟨_, rfl⟩
  replace h := h v1 ev1
  refine lv_iinc (v := v1) (lv' := [(1, .int v1), (0, .ref l0)]) F.1 F.2.1 dX11_ageLogs_66 hl (k := 1) rfl (by rw [ev1]; rfl) (by decide) rfl (fun ls hl => ?_)
  refine lv_goto (tgt := 2) F.1 F.2.1 dX11_ageLogs_69 (by decide) ?_
  exact hk2 l0 v1 σ H locs ls h C (lv_sub hl [1, 0] rfl)
set_option maxRecDepth 100000 in
set_option maxHeartbeats 4000000 in
theorem tX11_ageLogs_31 (l : Launch) (G : kx_G) (σ0 : kx_S) {p : Program} {e : Env} {s : State} {m : MethodId} {args : Array Value} {below : List Frame} {meth : Method} {c : Code} (F : CallFix p m c cX11_ageLogs 4 s args kt_ RX11) (hr : meth.sig.returnType = none) (hlocks : meth.locks = false) (Q : kx_S → Prop) (k66 : Nat → Int32 → kx_S → Prop) (hk66 : ∀ (l0 : Nat) (l1 : Int32) (σ : kx_S) (H : Heap) (locs : List Loc) (ls : Array Slot), k66 l0 l1 σ → kx_X G (xc σ0) s H locs σ → lv_has ls 4 [(0, .ref l0), (1, .int l1)] → kx_W p l e (4) (168) (xc σ0) s m args below meth c H locs σ (MQ below (kx_Q G σ0 (kx_rv Q)) args s (kx_N - xc σ0) (600 * (kx_N - xc σ0)) (kx_A G)) (F0 m 66 ls [])) : ∀ (n : Nat) (l0 : Nat) (l1 : Int32) (l2 : Nat) (l3 : Int32) (σ : kx_S) (H : Heap) (locs : List Loc) (ls : Array Slot), wX11_ageLogs_31 k66 Q n l0 l1 l2 l3 σ → kx_X G (xc σ0) s H locs σ → lv_has ls 4 [(0, .ref l0), (1, .int l1), (2, .ref l2), (3, .int l3)] → kx_W p l e (4) (168) (xc σ0) s m args below meth c H locs σ (MQ below (kx_Q G σ0 (kx_rv Q)) args s (kx_N - xc σ0) (600 * (kx_N - xc σ0)) (kx_A G)) (F0 m 31 ls []) := by
  intro n
  induction n with
  | zero => intro l0 l1 l2 l3 σ H locs ls h; exact h.elim
  | succ n ih =>
    intro l0 l1 l2 l3 σ H locs ls h C hl
    refine lv_iload_n F.1 F.2.1 dX11_ageLogs_31 rfl (lv_at hl 3 rfl) ?_
    refine lv_aload_n F.1 F.2.1 dX11_ageLogs_32 rfl (lv_at hl 2 rfl) ?_
    obtain ⟨ht2, h⟩ := h
    refine xg_X8_cells F C ht2 ux_513 (fun _ h9 => h9) dX11_ageLogs_33 ?_
    obtain ⟨a3, ea4, h⟩ := h
    refine xq_nn ea4 ?_
    obtain ⟨ht7, h⟩ := h
    refine xk_Jx4a65c_size_8abf5 F C a3 ht7 h ux_500 (Nat.le_of_ble_eq_true rfl) (Nat.le_of_ble_eq_true rfl) hl.1 (by simp [Value.category]) dX11_ageLogs_36 (fun r6 σ5 H locs h C => ?_)
    refine lv_icmp_ge (tgt := 66) F.1 F.2.1 dX11_ageLogs_41 (by decide) (fun c8 => ?_) (fun c8 => ?_)
    · replace h := h.1 c8
      exact hk66 l0 l1 σ5 H locs ls h C (lv_sub hl [0, 1] rfl)
    · replace h := h.2 c8
      refine lv_aload_n F.1 F.2.1 dX11_ageLogs_44 rfl (lv_at hl 2 rfl) ?_
      obtain ⟨ht9, h⟩ := h
      refine xg_X8_cells F C ht9 ux_513 (fun _ h9 => h9) dX11_ageLogs_45 ?_
      obtain ⟨a10, ea11, h⟩ := h
      refine xq_nn ea11 ?_
      refine lv_iload_n F.1 F.2.1 dX11_ageLogs_48 rfl (lv_at hl 3 rfl) ?_
      obtain ⟨ht14, h⟩ := h
      refine xk_Jx4a65c_get_915e3 F C a10 l3 ht14 h ux_502 (Nat.le_of_ble_eq_true rfl) (Nat.le_of_ble_eq_true rfl) hl.1 (by simp [Value.category]) dX11_ageLogs_49 (fun q13 σ12 H locs h C => ?_)
      obtain ⟨a15, ea16, h⟩ := h
      refine xq_nn ea16 ?_
      obtain ⟨ht17, h⟩ := h
      refine kx_cast F C (by rw [ht17]; decide) (kx_e3 ht17) rfl ux_521 dX11_ageLogs_54 ?_
      refine xk_X1_ageLogs F C a15 ht17 h ux_663 (Nat.le_of_ble_eq_true rfl) (Nat.le_of_ble_eq_true rfl) hl.1 (by simp [Value.category]) dX11_ageLogs_57 (fun σ18 H locs h C => ?_)
      obtain ⟨v19, ev19⟩ : ∃ z9 : Int32, z9 = l3 + 1 := ⟨_, rfl⟩
      replace h := h v19 ev19
      refine lv_iinc (v := v19) (lv' := [(3, .int v19), (0, .ref l0), (1, .int l1), (2, .ref l2)]) F.1 F.2.1 dX11_ageLogs_60 hl (k := 3) rfl (by rw [ev19]; rfl) (by decide) rfl (fun ls hl => ?_)
      refine lv_goto (tgt := 31) F.1 F.2.1 dX11_ageLogs_63 (by decide) ?_
      exact ih l0 l1 l2 v19 σ18 H locs ls h C (lv_sub hl [1, 2, 3, 0] rfl)
set_option maxRecDepth 100000 in
set_option maxHeartbeats 4000000 in
theorem tX11_ageLogs_2 (l : Launch) (G : kx_G) (σ0 : kx_S) {p : Program} {e : Env} {s : State} {m : MethodId} {args : Array Value} {below : List Frame} {meth : Method} {c : Code} (F : CallFix p m c cX11_ageLogs 4 s args kt_ RX11) (hr : meth.sig.returnType = none) (hlocks : meth.locks = false) (Q : kx_S → Prop) : ∀ (n : Nat) (l0 : Nat) (l1 : Int32) (σ : kx_S) (H : Heap) (locs : List Loc) (ls : Array Slot), wX11_ageLogs_2 Q n l0 l1 σ → kx_X G (xc σ0) s H locs σ → lv_has ls 4 [(0, .ref l0), (1, .int l1)] → kx_W p l e (4) (168) (xc σ0) s m args below meth c H locs σ (MQ below (kx_Q G σ0 (kx_rv Q)) args s (kx_N - xc σ0) (600 * (kx_N - xc σ0)) (kx_A G)) (F0 m 2 ls []) := by
  intro n
  induction n with
  | zero => intro l0 l1 σ H locs ls h; exact h.elim
  | succ n ih =>
    intro l0 l1 σ H locs ls h C hl
    refine lv_iload_n F.1 F.2.1 dX11_ageLogs_2 rfl (lv_at hl 1 rfl) ?_
    refine lv_aload_n F.1 F.2.1 dX11_ageLogs_3 rfl (lv_at hl 0 rfl) ?_
    obtain ⟨ht20, h⟩ := h
    refine xg_X11_reaches F C ht20 ux_479 (fun _ h9 => h9) dX11_ageLogs_4 ?_
    obtain ⟨a21, ea22, h⟩ := h
    refine xq_nn ea22 ?_
    obtain ⟨ht25, h⟩ := h
    refine xk_Jx4a65c_size_8abf5 F C a21 ht25 h ux_500 (Nat.le_of_ble_eq_true rfl) (Nat.le_of_ble_eq_true rfl) hl.1 (by simp [Value.category]) dX11_ageLogs_7 (fun r24 σ23 H locs h C => ?_)
    refine lv_icmp_ge (tgt := 72) F.1 F.2.1 dX11_ageLogs_12 (by decide) (fun c26 => ?_) (fun c26 => ?_)
    · replace h := h.1 c26
      exact kx_vret F C hr hlocks h dX11_ageLogs_72
    · replace h := h.2 c26
      refine lv_aload_n F.1 F.2.1 dX11_ageLogs_15 rfl (lv_at hl 0 rfl) ?_
      obtain ⟨ht27, h⟩ := h
      refine xg_X11_reaches F C ht27 ux_479 (fun _ h9 => h9) dX11_ageLogs_16 ?_
      obtain ⟨a28, ea29, h⟩ := h
      refine xq_nn ea29 ?_
      refine lv_iload_n F.1 F.2.1 dX11_ageLogs_19 rfl (lv_at hl 1 rfl) ?_
      obtain ⟨ht32, h⟩ := h
      refine xk_Jx4a65c_get_915e3 F C a28 l1 ht32 h ux_502 (Nat.le_of_ble_eq_true rfl) (Nat.le_of_ble_eq_true rfl) hl.1 (by simp [Value.category]) dX11_ageLogs_20 (fun q31 σ30 H locs h C => ?_)
      obtain ⟨a33, ea34, h⟩ := h
      refine xq_nn ea34 ?_
      obtain ⟨ht35, h⟩ := h
      refine kx_cast F C (by rw [ht35]; decide) (kx_e10 ht35) rfl ux_503 dX11_ageLogs_25 ?_
      refine lv_astore_n (lv' := [(2, .ref a33), (0, .ref l0), (1, .int l1)]) F.1 F.2.1 dX11_ageLogs_28 rfl hl (by decide) rfl (fun ls hl => ?_)
      refine lv_iconst (v := 0) F.1 F.2.1 dX11_ageLogs_29 (by decide) ?_
      refine lv_istore_n (lv' := [(3, .int 0), (2, .ref a33), (0, .ref l0), (1, .int l1)]) F.1 F.2.1 dX11_ageLogs_30 rfl hl (by decide) rfl (fun ls hl => ?_)
      obtain ⟨n36, h⟩ := h
      exact tX11_ageLogs_31 l G σ0 F hr hlocks Q (wX11_ageLogs_66 (wX11_ageLogs_2 Q n) Q) (tX11_ageLogs_66 l G σ0 F hr hlocks Q (wX11_ageLogs_2 Q n) (fun l0 l1 σ9 H locs ls h C hl => ih l0 l1 σ9 H locs ls h C hl)) n36 l0 l1 a33 0 σ30 H locs ls h C (lv_sub hl [2, 3, 1, 0] rfl)
set_option maxRecDepth 100000 in
set_option maxHeartbeats 4000000 in
theorem hx_X11_ageLogs (l : Launch) (G : kx_G) (l0 : Nat) (σ : kx_S) (Q : kx_S → Prop) (h : wX11_ageLogs l0 σ Q) : kx_M l G yX11_ageLogs cX11_ageLogs 4 none (4) (168) [.ref l0] σ (kx_rv Q) := by
  refine kx_enter (by decide) rfl (Nat.le_of_ble_eq_true rfl) ?_
  intro p e s m below meth c ls F hr hlocks C hname hl
  have hl : lv_has ls 4 [(0, .ref l0)] := hl
  obtain ⟨H, eH⟩ : ∃ z9, z9 = s.heap := ⟨_, rfl⟩
  obtain ⟨locs, eL⟩ : ∃ z9 : List Loc, z9 = [] := ⟨_, rfl⟩
  rw [← eH, ← eL] at C
  rw [← eH, ← eL]
  obtain ⟨σ0, e0⟩ : ∃ z9, z9 = σ := ⟨_, rfl⟩
  have C : kx_X G (xc σ0) s H locs σ := by rw [e0]; exact C
  suffices hgo : kx_W p l e (4) (168) (xc σ0) s m ([.ref l0] : List Value).toArray below meth c H locs σ (MQ below (kx_Q G σ0 (kx_rv Q)) ([.ref l0] : List Value).toArray s (kx_N - xc σ0) (600 * (kx_N - xc σ0)) (kx_A G)) (F0 m 0 ls []) by rw [e0] at hgo; exact hgo
  clear e0
  refine lv_iconst (v := 0) F.1 F.2.1 dX11_ageLogs_0 (by decide) ?_
  refine lv_istore_n (lv' := [(1, .int 0), (0, .ref l0)]) F.1 F.2.1 dX11_ageLogs_1 rfl hl (by decide) rfl (fun ls hl => ?_)
  obtain ⟨n37, h⟩ := h
  exact tX11_ageLogs_2 l G σ0 F hr hlocks Q n37 l0 0 σ H locs ls h C (lv_sub hl [1, 0] rfl)
section
variable {p : Program} {l : Launch} {e : Env} {fr lo c0 : Nat} {s : State} {m : MethodId} {args : Array Value} {below : List Frame} {meth : Method} {c : Code} {H : Heap} {locs : List Loc} {Q : State → Prop}
variable {cc : ByteArray} {pc nL index : Nat} {ls : Array Slot} {rest : List Value} {G : kx_G} {σ : kx_S} {own : String}
theorem xk_X11_ageLogs {P : kx_S → Prop} (F : CallFix p m c cc nL s args kt_ own) (C : kx_X G c0 s H locs σ) (l0 : Nat) (ha : xt σ l0 = 13) (h : wX11_ageLogs l0 σ P) (hw : Cond.methodLink own index yX11_ageLogs ∈ kt_) (h1 : (4) + 1 ≤ fr) (h2 : 8 + (4 + 11) + (168) ≤ lo) (hsz : ls.size = nL) (hW : (rest.map fun v => v.category).sum ≤ 8) (hdg : decode cc pc = .ok (.invokevirtual index, 3)) (kk : ∀ (u : kx_S) (H1 : Heap) (locs1 : List Loc), P u → kx_X G c0 s H1 locs1 u → kx_W p l e fr lo c0 s m args below meth c H1 locs1 u Q (F0 m (pc + 3) ls rest)) : kx_W p l e fr lo c0 s m args below meth c H locs σ Q (F0 m pc ls (.ref l0 :: rest)) :=
  kx_cV (n := 0) (As := []) (Cn := RX11) F C (hx_X11_ageLogs l G l0 σ P h) (kt_V hw ux_665 ux_666 ux_117 ux_664) (by decide +kernel) ⟨h1, h2⟩ (kx_recv C (by rw [ha]; decide) (kx_e13 ha) rfl) rfl hsz hW hdg (fun v u H1 locs1 hP9 C9 => by obtain ⟨hv, hp⟩ := hP9; subst hv; exact kk u H1 locs1 hp C9)
end
theorem dX11_sawFor_0 : decode cX11_sawFor 0 = .ok (.iconst 0, 1) := by decide +kernel
theorem dX11_sawFor_1 : decode cX11_sawFor 1 = .ok (.istore 4, 2) := by decide +kernel
theorem dX11_sawFor_3 : decode cX11_sawFor 3 = .ok (.iload 4, 2) := by decide +kernel
theorem dX11_sawFor_5 : decode cX11_sawFor 5 = .ok (.iload_n 3, 1) := by decide +kernel
theorem dX11_sawFor_6 : decode cX11_sawFor 6 = .ok (.if_icmp .ge 68, 3) := by decide +kernel
theorem dX11_sawFor_9 : decode cX11_sawFor 9 = .ok (.aload_n 1, 1) := by decide +kernel
theorem dX11_sawFor_10 : decode cX11_sawFor 10 = .ok (.getfield 335, 3) := by decide +kernel
theorem dX11_sawFor_13 : decode cX11_sawFor 13 = .ok (.ifCond .le 11, 3) := by decide +kernel
theorem dX11_sawFor_16 : decode cX11_sawFor 16 = .ok (.aload_n 2, 1) := by decide +kernel
theorem dX11_sawFor_17 : decode cX11_sawFor 17 = .ok (.aload_n 1, 1) := by decide +kernel
theorem dX11_sawFor_18 : decode cX11_sawFor 18 = .ok (.invokevirtual 338, 3) := by decide +kernel
theorem dX11_sawFor_21 : decode cX11_sawFor 21 = .ok (.goto 4, 3) := by decide +kernel
theorem dX11_sawFor_24 : decode cX11_sawFor 24 = .ok (.aconst_null, 1) := by decide +kernel
theorem dX11_sawFor_25 : decode cX11_sawFor 25 = .ok (.astore 5, 2) := by decide +kernel
theorem dX11_sawFor_27 : decode cX11_sawFor 27 = .ok (.aload 5, 2) := by decide +kernel
theorem dX11_sawFor_29 : decode cX11_sawFor 29 = .ok (.ifnonnull 6, 3) := by decide +kernel
theorem dX11_sawFor_32 : decode cX11_sawFor 32 = .ok (.iload 4, 2) := by decide +kernel
theorem dX11_sawFor_34 : decode cX11_sawFor 34 = .ok (.ireturn, 1) := by decide +kernel
theorem dX11_sawFor_35 : decode cX11_sawFor 35 = .ok (.aload 5, 2) := by decide +kernel
theorem dX11_sawFor_37 : decode cX11_sawFor 37 = .ok (.aload_n 0, 1) := by decide +kernel
theorem dX11_sawFor_38 : decode cX11_sawFor 38 = .ok (.getfield 342, 3) := by decide +kernel
theorem dX11_sawFor_41 : decode cX11_sawFor 41 = .ok (.invokevirtual 345, 3) := by decide +kernel
theorem dX11_sawFor_44 : decode cX11_sawFor 44 = .ok (.aload_n 0, 1) := by decide +kernel
theorem dX11_sawFor_45 : decode cX11_sawFor 45 = .ok (.dup, 1) := by decide +kernel
theorem dX11_sawFor_46 : decode cX11_sawFor 46 = .ok (.getfield 342, 3) := by decide +kernel
theorem dX11_sawFor_49 : decode cX11_sawFor 49 = .ok (.aload 5, 2) := by decide +kernel
theorem dX11_sawFor_51 : decode cX11_sawFor 51 = .ok (.getfield 348, 3) := by decide +kernel
theorem dX11_sawFor_54 : decode cX11_sawFor 54 = .ok (.iadd, 1) := by decide +kernel
theorem dX11_sawFor_55 : decode cX11_sawFor 55 = .ok (.putfield 342, 3) := by decide +kernel
theorem dX11_sawFor_58 : decode cX11_sawFor 58 = .ok (.aload_n 1, 1) := by decide +kernel
theorem dX11_sawFor_59 : decode cX11_sawFor 59 = .ok (.dup, 1) := by decide +kernel
theorem dX11_sawFor_60 : decode cX11_sawFor 60 = .ok (.getfield 335, 3) := by decide +kernel
theorem dX11_sawFor_63 : decode cX11_sawFor 63 = .ok (.iconst 1, 1) := by decide +kernel
theorem dX11_sawFor_64 : decode cX11_sawFor 64 = .ok (.isub, 1) := by decide +kernel
theorem dX11_sawFor_65 : decode cX11_sawFor 65 = .ok (.putfield 335, 3) := by decide +kernel
theorem dX11_sawFor_68 : decode cX11_sawFor 68 = .ok (.iinc 4 1, 3) := by decide +kernel
theorem dX11_sawFor_71 : decode cX11_sawFor 71 = .ok (.goto (-68), 3) := by decide +kernel
theorem dX11_sawFor_74 : decode cX11_sawFor 74 = .ok (.iload_n 3, 1) := by decide +kernel
theorem dX11_sawFor_75 : decode cX11_sawFor 75 = .ok (.ireturn, 1) := by decide +kernel
def wX11_sawFor_25 (k3 : Nat → Nat → Nat → Int32 → Int32 → kx_S → Prop) (Q : Int32 → kx_S → Prop) (l0 : Nat) (l1 : Nat) (l2 : Nat) (l3 : Int32) (l4 : Int32) (s0 : Option Nat) (σ : kx_S) : Prop := ((∀ a2, s0 = some a2 → xt σ l0 = 13 ∧ xt σ a2 = 8 ∧ wX6_becomeBoards a2 (xi σ 218 l0) σ (fun σ4 => xt σ4 l0 = 13 ∧ xt σ4 a2 = 8 ∧ ∀ σ8, σ8 = xsi σ4 218 l0 ((xi σ4 218 l0) + (xi σ4 130 a2)) → xt σ8 l1 = 9 ∧ ∀ σ12, σ12 = xsi σ8 146 l1 ((xi σ8 146 l1) - 1) → ∀ v16 : Int32, v16 = l4 + 1 → k3 l0 l1 l2 l3 v16 σ12)) ∧
  (s0 = none → Q l4 σ))
def wX11_sawFor_3 (Q : Int32 → kx_S → Prop) : Nat → Nat → Nat → Nat → Int32 → Int32 → kx_S → Prop
  | 0, _, _, _, _, _, _ => False
  | n + 1, l0, l1, l2, l3, l4, σ => ((l3 ≤ l4 → Q l3 σ) ∧
    (¬ (l3 ≤ l4) → xt σ l1 = 9 ∧ (((xi σ 146 l1) ≤ 0 → wX11_sawFor_25 (wX11_sawFor_3 Q n) Q l0 l1 l2 l3 l4 none σ) ∧
      (¬ ((xi σ 146 l1) ≤ 0) → xt σ l2 = 2 ∧ wX0_takeFirstFor l2 l1 σ (fun q21 σ20 => wX11_sawFor_25 (wX11_sawFor_3 Q n) Q l0 l1 l2 l3 l4 q21 σ20)))))
def wX11_sawFor (l0 : Nat) (l1 : Nat) (l2 : Nat) (l3 : Int32) (σ : kx_S) (Q : Int32 → kx_S → Prop) : Prop := ∃ j, wX11_sawFor_3 Q j l0 l1 l2 l3 0 σ
set_option maxRecDepth 100000 in
set_option maxHeartbeats 4000000 in
theorem tX11_sawFor_25 (l : Launch) (G : kx_G) (σ0 : kx_S) {p : Program} {e : Env} {s : State} {m : MethodId} {args : Array Value} {below : List Frame} {meth : Method} {c : Code} (F : CallFix p m c cX11_sawFor 6 s args kt_ RX11) (hr : meth.sig.returnType = (some .int)) (hlocks : meth.locks = false) (Q : Int32 → kx_S → Prop) (k3 : Nat → Nat → Nat → Int32 → Int32 → kx_S → Prop) (hk3 : ∀ (l0 : Nat) (l1 : Nat) (l2 : Nat) (l3 : Int32) (l4 : Int32) (σ : kx_S) (H : Heap) (locs : List Loc) (ls : Array Slot), k3 l0 l1 l2 l3 l4 σ → kx_X G (xc σ0) s H locs σ → lv_has ls 6 [(0, .ref l0), (1, .ref l1), (2, .ref l2), (3, .int l3), (4, .int l4)] → kx_W p l e (4) (169) (xc σ0) s m args below meth c H locs σ (MQ below (kx_Q G σ0 (kx_ri Q)) args s (kx_N - xc σ0) (600 * (kx_N - xc σ0)) (kx_A G)) (F0 m 3 ls [])) : ∀ (l0 : Nat) (l1 : Nat) (l2 : Nat) (l3 : Int32) (l4 : Int32) (s0 : Option Nat) (σ : kx_S) (H : Heap) (locs : List Loc) (ls : Array Slot), wX11_sawFor_25 k3 Q l0 l1 l2 l3 l4 s0 σ → kx_X G (xc σ0) s H locs σ → lv_has ls 6 [(0, .ref l0), (1, .ref l1), (2, .ref l2), (3, .int l3), (4, .int l4)] → kx_W p l e (4) (169) (xc σ0) s m args below meth c H locs σ (MQ below (kx_Q G σ0 (kx_ri Q)) args s (kx_N - xc σ0) (600 * (kx_N - xc σ0)) (kx_A G)) (F0 m 25 ls [va_rf s0]) := by
  intro l0 l1 l2 l3 l4 s0 σ H locs ls h C hl
  refine xq_astore (lv' := [(5, va_rf s0), (0, .ref l0), (1, .ref l1), (2, .ref l2), (3, .int l3), (4, .int l4)]) F.1 F.2.1 dX11_sawFor_25 hl (by decide) rfl (fun ls hl => ?_)
  refine xq_aload F.1 F.2.1 dX11_sawFor_27 (lv_at hl 0 rfl) ?_
  refine xq_ifnonnull (tgt := 35) F.1 F.2.1 dX11_sawFor_29 (by decide) (fun a2 c1 => ?_) (fun c1 => ?_)
  · replace h := h.1 a2 c1
    revert h
    revert hl
    revert C
    subst c1
    intro C
    intro hl
    intro h
    have hl : lv_has ls 6 [(5, .ref a2), (0, .ref l0), (1, .ref l1), (2, .ref l2), (3, .int l3), (4, .int l4)] := hl
    refine lv_aload F.1 F.2.1 dX11_sawFor_35 (lv_at hl 0 rfl) ?_
    refine lv_aload_n F.1 F.2.1 dX11_sawFor_37 rfl (lv_at hl 1 rfl) ?_
    obtain ⟨ht3, h⟩ := h
    refine xg_X11_boards F C ht3 ux_667 (fun _ h9 => h9) dX11_sawFor_38 ?_
    obtain ⟨ht5, h⟩ := h
    refine xk_X6_becomeBoards F C a2 (xi σ 218 l0) ht5 h ux_668 (Nat.le_of_ble_eq_true rfl) (Nat.le_of_ble_eq_true rfl) hl.1 (by simp [Value.category]) dX11_sawFor_41 (fun σ4 H locs h C => ?_)
    refine lv_aload_n F.1 F.2.1 dX11_sawFor_44 rfl (lv_at hl 1 rfl) ?_
    refine lv_dup F.1 F.2.1 dX11_sawFor_45 rfl ?_
    obtain ⟨ht6, h⟩ := h
    refine xg_X11_boards F C ht6 ux_667 (fun _ h9 => h9) dX11_sawFor_46 ?_
    refine lv_aload F.1 F.2.1 dX11_sawFor_49 (lv_at hl 0 rfl) ?_
    obtain ⟨ht7, h⟩ := h
    refine xg_X6_size F C ht7 ux_669 (fun _ h9 => h9) dX11_sawFor_51 ?_
    refine lv_iadd (x := xi σ4 218 l0) (y := xi σ4 130 a2) F.1 F.2.1 dX11_sawFor_54 ?_
    refine xp_X11_boards (x := (xi σ4 218 l0) + (xi σ4 130 a2)) F C ht6 ux_667 (fun _ h9 => h9) dX11_sawFor_55 (fun H locs C => ?_)
    generalize eσ8 : xsi σ4 218 l0 ((xi σ4 218 l0) + (xi σ4 130 a2)) = σ8 at C ⊢
    replace h := h σ8 eσ8.symm
    have ht9 : xt σ8 l0 = 13 := by rw [← eσ8]; exact ht6
    have ht10 : xt σ8 a2 = 8 := by rw [← eσ8]; exact ht7
    refine lv_aload_n F.1 F.2.1 dX11_sawFor_58 rfl (lv_at hl 2 rfl) ?_
    refine lv_dup F.1 F.2.1 dX11_sawFor_59 rfl ?_
    obtain ⟨ht11, h⟩ := h
    refine xg_X7_wanted F C ht11 ux_670 (fun _ h9 => h9) dX11_sawFor_60 ?_
    refine lv_iconst (v := 1) F.1 F.2.1 dX11_sawFor_63 (by decide) ?_
    refine lv_isub (x := xi σ8 146 l1) (y := 1) F.1 F.2.1 dX11_sawFor_64 ?_
    refine xp_X7_wanted (x := (xi σ8 146 l1) - 1) F C ht11 ux_670 (fun _ h9 => h9) dX11_sawFor_65 (fun H locs C => ?_)
    generalize eσ12 : xsi σ8 146 l1 ((xi σ8 146 l1) - 1) = σ12 at C ⊢
    replace h := h σ12 eσ12.symm
    have ht13 : xt σ12 l0 = 13 := by rw [← eσ12]; exact ht9
    have ht14 : xt σ12 a2 = 8 := by rw [← eσ12]; exact ht10
    have ht15 : xt σ12 l1 = 9 := by rw [← eσ12]; exact ht11
    obtain ⟨v16, ev16⟩ : ∃ z9 : Int32, z9 = l4 + 1 := ⟨_, rfl⟩
    replace h := h v16 ev16
    refine lv_iinc (v := v16) (lv' := [(4, .int v16), (5, .ref a2), (0, .ref l0), (1, .ref l1), (2, .ref l2), (3, .int l3)]) F.1 F.2.1 dX11_sawFor_68 hl (k := 5) rfl (by rw [ev16]; rfl) (by decide) rfl (fun ls hl => ?_)
    refine lv_goto (tgt := 3) F.1 F.2.1 dX11_sawFor_71 (by decide) ?_
    exact hk3 l0 l1 l2 l3 v16 σ12 H locs ls h C (lv_sub hl [2, 3, 4, 5, 0] rfl)
  · replace h := h.2 c1
    refine lv_iload F.1 F.2.1 dX11_sawFor_32 (lv_at hl 5 rfl) ?_
    exact kx_iret F C hr hlocks h dX11_sawFor_34
set_option maxRecDepth 100000 in
set_option maxHeartbeats 4000000 in
theorem tX11_sawFor_3 (l : Launch) (G : kx_G) (σ0 : kx_S) {p : Program} {e : Env} {s : State} {m : MethodId} {args : Array Value} {below : List Frame} {meth : Method} {c : Code} (F : CallFix p m c cX11_sawFor 6 s args kt_ RX11) (hr : meth.sig.returnType = (some .int)) (hlocks : meth.locks = false) (Q : Int32 → kx_S → Prop) : ∀ (n : Nat) (l0 : Nat) (l1 : Nat) (l2 : Nat) (l3 : Int32) (l4 : Int32) (σ : kx_S) (H : Heap) (locs : List Loc) (ls : Array Slot), wX11_sawFor_3 Q n l0 l1 l2 l3 l4 σ → kx_X G (xc σ0) s H locs σ → lv_has ls 6 [(0, .ref l0), (1, .ref l1), (2, .ref l2), (3, .int l3), (4, .int l4)] → kx_W p l e (4) (169) (xc σ0) s m args below meth c H locs σ (MQ below (kx_Q G σ0 (kx_ri Q)) args s (kx_N - xc σ0) (600 * (kx_N - xc σ0)) (kx_A G)) (F0 m 3 ls []) := by
  intro n
  induction n with
  | zero => intro l0 l1 l2 l3 l4 σ H locs ls h; exact h.elim
  | succ n ih =>
    intro l0 l1 l2 l3 l4 σ H locs ls h C hl
    refine lv_iload F.1 F.2.1 dX11_sawFor_3 (lv_at hl 4 rfl) ?_
    refine lv_iload_n F.1 F.2.1 dX11_sawFor_5 rfl (lv_at hl 3 rfl) ?_
    refine lv_icmp_ge (tgt := 74) F.1 F.2.1 dX11_sawFor_6 (by decide) (fun c17 => ?_) (fun c17 => ?_)
    · replace h := h.1 c17
      refine lv_iload_n F.1 F.2.1 dX11_sawFor_74 rfl (lv_at hl 3 rfl) ?_
      exact kx_iret F C hr hlocks h dX11_sawFor_75
    · replace h := h.2 c17
      refine lv_aload_n F.1 F.2.1 dX11_sawFor_9 rfl (lv_at hl 1 rfl) ?_
      obtain ⟨ht18, h⟩ := h
      refine xg_X7_wanted F C ht18 ux_670 (fun _ h9 => h9) dX11_sawFor_10 ?_
      refine lv_if_le (tgt := 24) F.1 F.2.1 dX11_sawFor_13 (by decide) (fun c19 => ?_) (fun c19 => ?_)
      · replace h := h.1 c19
        refine lv_null F.1 F.2.1 dX11_sawFor_24 ?_
        exact tX11_sawFor_25 l G σ0 F hr hlocks Q (wX11_sawFor_3 Q n) (fun l0 l1 l2 l3 l4 σ9 H locs ls h C hl => ih l0 l1 l2 l3 l4 σ9 H locs ls h C hl) l0 l1 l2 l3 l4 none σ H locs ls h C (lv_sub hl [0, 1, 2, 3, 4] rfl)
      · replace h := h.2 c19
        refine lv_aload_n F.1 F.2.1 dX11_sawFor_16 rfl (lv_at hl 2 rfl) ?_
        refine lv_aload_n F.1 F.2.1 dX11_sawFor_17 rfl (lv_at hl 1 rfl) ?_
        obtain ⟨ht22, h⟩ := h
        refine xk_X0_takeFirstFor F C l2 l1 ht22 h ux_671 (Nat.le_of_ble_eq_true rfl) (Nat.le_of_ble_eq_true rfl) hl.1 (by simp [Value.category]) dX11_sawFor_18 (fun q21 σ20 H locs h C => ?_)
        refine lv_goto (tgt := 25) F.1 F.2.1 dX11_sawFor_21 (by decide) ?_
        exact tX11_sawFor_25 l G σ0 F hr hlocks Q (wX11_sawFor_3 Q n) (fun l0 l1 l2 l3 l4 σ9 H locs ls h C hl => ih l0 l1 l2 l3 l4 σ9 H locs ls h C hl) l0 l1 l2 l3 l4 q21 σ20 H locs ls h C (lv_sub hl [0, 1, 2, 3, 4] rfl)
set_option maxRecDepth 100000 in
set_option maxHeartbeats 4000000 in
theorem hx_X11_sawFor (l : Launch) (G : kx_G) (l0 : Nat) (l1 : Nat) (l2 : Nat) (l3 : Int32) (σ : kx_S) (Q : Int32 → kx_S → Prop) (h : wX11_sawFor l0 l1 l2 l3 σ Q) : kx_M l G yX11_sawFor cX11_sawFor 6 (some .int) (4) (169) [.ref l0, .ref l1, .ref l2, .int l3] σ (kx_ri Q) := by
  refine kx_enter (by decide) rfl (Nat.le_of_ble_eq_true rfl) ?_
  intro p e s m below meth c ls F hr hlocks C hname hl
  have hl : lv_has ls 6 [(0, .ref l0), (1, .ref l1), (2, .ref l2), (3, .int l3)] := hl
  obtain ⟨H, eH⟩ : ∃ z9, z9 = s.heap := ⟨_, rfl⟩
  obtain ⟨locs, eL⟩ : ∃ z9 : List Loc, z9 = [] := ⟨_, rfl⟩
  rw [← eH, ← eL] at C
  rw [← eH, ← eL]
  obtain ⟨σ0, e0⟩ : ∃ z9, z9 = σ := ⟨_, rfl⟩
  have C : kx_X G (xc σ0) s H locs σ := by rw [e0]; exact C
  suffices hgo : kx_W p l e (4) (169) (xc σ0) s m ([.ref l0, .ref l1, .ref l2, .int l3] : List Value).toArray below meth c H locs σ (MQ below (kx_Q G σ0 (kx_ri Q)) ([.ref l0, .ref l1, .ref l2, .int l3] : List Value).toArray s (kx_N - xc σ0) (600 * (kx_N - xc σ0)) (kx_A G)) (F0 m 0 ls []) by rw [e0] at hgo; exact hgo
  clear e0
  refine lv_iconst (v := 0) F.1 F.2.1 dX11_sawFor_0 (by decide) ?_
  refine lv_istore (lv' := [(4, .int 0), (0, .ref l0), (1, .ref l1), (2, .ref l2), (3, .int l3)]) F.1 F.2.1 dX11_sawFor_1 hl (by decide) rfl (fun ls hl => ?_)
  obtain ⟨n23, h⟩ := h
  exact tX11_sawFor_3 l G σ0 F hr hlocks Q n23 l0 l1 l2 l3 0 σ H locs ls h C (lv_sub hl [1, 2, 3, 4, 0] rfl)
section
variable {p : Program} {l : Launch} {e : Env} {fr lo c0 : Nat} {s : State} {m : MethodId} {args : Array Value} {below : List Frame} {meth : Method} {c : Code} {H : Heap} {locs : List Loc} {Q : State → Prop}
variable {cc : ByteArray} {pc nL index : Nat} {ls : Array Slot} {rest : List Value} {G : kx_G} {σ : kx_S} {own : String}
theorem xk_X11_sawFor {P : Int32 → kx_S → Prop} (F : CallFix p m c cc nL s args kt_ own) (C : kx_X G c0 s H locs σ) (l0 : Nat) (l1 : Nat) (l2 : Nat) (l3 : Int32) (ha : xt σ l0 = 13) (h : wX11_sawFor l0 l1 l2 l3 σ P) (hw : Cond.methodLink own index yX11_sawFor ∈ kt_) (h1 : (4) + 1 ≤ fr) (h2 : 8 + (6 + 11) + (169) ≤ lo) (hsz : ls.size = nL) (hW : (rest.map fun v => v.category).sum ≤ 8) (hdg : decode cc pc = .ok (.invokevirtual index, 3)) (kk : ∀ (r : Int32) (u : kx_S) (H1 : Heap) (locs1 : List Loc), P r u → kx_X G c0 s H1 locs1 u → kx_W p l e fr lo c0 s m args below meth c H1 locs1 u Q (F0 m (pc + 3) ls (.int r :: rest))) : kx_W p l e fr lo c0 s m args below meth c H locs σ Q (F0 m pc ls (.int l3 :: .ref l2 :: .ref l1 :: .ref l0 :: rest)) :=
  kx_cV (n := 3) (As := [.ref l1, .ref l2, .int l3]) (Cn := RX11) F C (hx_X11_sawFor l G l0 l1 l2 l3 σ P h) (kt_V hw ux_673 ux_674 ux_117 ux_672) (by decide +kernel) ⟨h1, h2⟩ (kx_recv C (by rw [ha]; decide) (kx_e13 ha) rfl) rfl hsz hW hdg (fun v u H1 locs1 hP9 C9 => by obtain ⟨r, hv, hp⟩ := hP9; subst hv; exact kk r u H1 locs1 hp C9)
end
theorem dX11_runMills_0 : decode cX11_runMills 0 = .ok (.iconst 0, 1) := by decide +kernel
theorem dX11_runMills_1 : decode cX11_runMills 1 = .ok (.istore_n 1, 1) := by decide +kernel
theorem dX11_runMills_2 : decode cX11_runMills 2 = .ok (.iload_n 1, 1) := by decide +kernel
theorem dX11_runMills_3 : decode cX11_runMills 3 = .ok (.aload_n 0, 1) := by decide +kernel
theorem dX11_runMills_4 : decode cX11_runMills 4 = .ok (.getfield 10, 3) := by decide +kernel
theorem dX11_runMills_7 : decode cX11_runMills 7 = .ok (.invokeinterface 59 1, 5) := by decide +kernel
theorem dX11_runMills_12 : decode cX11_runMills 12 = .ok (.if_icmp .ge 85, 3) := by decide +kernel
theorem dX11_runMills_15 : decode cX11_runMills 15 = .ok (.aload_n 0, 1) := by decide +kernel
theorem dX11_runMills_16 : decode cX11_runMills 16 = .ok (.getfield 10, 3) := by decide +kernel
theorem dX11_runMills_19 : decode cX11_runMills 19 = .ok (.iload_n 1, 1) := by decide +kernel
theorem dX11_runMills_20 : decode cX11_runMills 20 = .ok (.invokeinterface 69 2, 5) := by decide +kernel
theorem dX11_runMills_25 : decode cX11_runMills 25 = .ok (.checkcast 73, 3) := by decide +kernel
theorem dX11_runMills_28 : decode cX11_runMills 28 = .ok (.getfield 111, 3) := by decide +kernel
theorem dX11_runMills_31 : decode cX11_runMills 31 = .ok (.astore_n 2, 1) := by decide +kernel
theorem dX11_runMills_32 : decode cX11_runMills 32 = .ok (.aload_n 2, 1) := by decide +kernel
theorem dX11_runMills_33 : decode cX11_runMills 33 = .ok (.ifnonnull 6, 3) := by decide +kernel
theorem dX11_runMills_36 : decode cX11_runMills 36 = .ok (.goto 55, 3) := by decide +kernel
theorem dX11_runMills_39 : decode cX11_runMills 39 = .ok (.iconst 3, 1) := by decide +kernel
theorem dX11_runMills_40 : decode cX11_runMills 40 = .ok (.istore_n 3, 1) := by decide +kernel
theorem dX11_runMills_41 : decode cX11_runMills 41 = .ok (.iconst 0, 1) := by decide +kernel
theorem dX11_runMills_42 : decode cX11_runMills 42 = .ok (.istore 4, 2) := by decide +kernel
theorem dX11_runMills_44 : decode cX11_runMills 44 = .ok (.iload 4, 2) := by decide +kernel
theorem dX11_runMills_46 : decode cX11_runMills 46 = .ok (.aload_n 2, 1) := by decide +kernel
theorem dX11_runMills_47 : decode cX11_runMills 47 = .ok (.getfield 223, 3) := by decide +kernel
theorem dX11_runMills_50 : decode cX11_runMills 50 = .ok (.invokeinterface 59 1, 5) := by decide +kernel
theorem dX11_runMills_55 : decode cX11_runMills 55 = .ok (.if_icmp .ge 36, 3) := by decide +kernel
theorem dX11_runMills_58 : decode cX11_runMills 58 = .ok (.iload_n 3, 1) := by decide +kernel
theorem dX11_runMills_59 : decode cX11_runMills 59 = .ok (.ifCond .le 32, 3) := by decide +kernel
theorem dX11_runMills_62 : decode cX11_runMills 62 = .ok (.iload_n 3, 1) := by decide +kernel
theorem dX11_runMills_63 : decode cX11_runMills 63 = .ok (.aload_n 0, 1) := by decide +kernel
theorem dX11_runMills_64 : decode cX11_runMills 64 = .ok (.aload_n 2, 1) := by decide +kernel
theorem dX11_runMills_65 : decode cX11_runMills 65 = .ok (.getfield 223, 3) := by decide +kernel
theorem dX11_runMills_68 : decode cX11_runMills 68 = .ok (.iload 4, 2) := by decide +kernel
theorem dX11_runMills_70 : decode cX11_runMills 70 = .ok (.invokeinterface 69 2, 5) := by decide +kernel
theorem dX11_runMills_75 : decode cX11_runMills 75 = .ok (.checkcast 218, 3) := by decide +kernel
theorem dX11_runMills_78 : decode cX11_runMills 78 = .ok (.aload_n 2, 1) := by decide +kernel
theorem dX11_runMills_79 : decode cX11_runMills 79 = .ok (.iload_n 3, 1) := by decide +kernel
theorem dX11_runMills_80 : decode cX11_runMills 80 = .ok (.invokevirtual 331, 3) := by decide +kernel
theorem dX11_runMills_83 : decode cX11_runMills 83 = .ok (.isub, 1) := by decide +kernel
theorem dX11_runMills_84 : decode cX11_runMills 84 = .ok (.istore_n 3, 1) := by decide +kernel
theorem dX11_runMills_85 : decode cX11_runMills 85 = .ok (.iinc 4 1, 3) := by decide +kernel
theorem dX11_runMills_88 : decode cX11_runMills 88 = .ok (.goto (-44), 3) := by decide +kernel
theorem dX11_runMills_91 : decode cX11_runMills 91 = .ok (.iinc 1 1, 3) := by decide +kernel
theorem dX11_runMills_94 : decode cX11_runMills 94 = .ok (.goto (-92), 3) := by decide +kernel
theorem dX11_runMills_97 : decode cX11_runMills 97 = .ok (.return_, 1) := by decide +kernel
def wX11_runMills_91 (k2 : Nat → Int32 → kx_S → Prop) (Q : kx_S → Prop) (l0 : Nat) (l1 : Int32) (σ : kx_S) : Prop := ∀ v1 : Int32, v1 = l1 + 1 → k2 l0 v1 σ
def wX11_runMills_44 (k91 : Nat → Int32 → kx_S → Prop) (Q : kx_S → Prop) : Nat → Nat → Int32 → (Option Nat) → Int32 → Int32 → kx_S → Prop
  | 0, _, _, _, _, _, _ => False
  | n + 1, l0, l1, l2, l3, l4, σ => ∃ a2, l2 = some a2 ∧ xt σ a2 = 2 ∧ ∃ a5, xr σ 33 a2 = some a5 ∧ xt σ a5 = 1 ∧ wJx4a65c_size_8abf5 a5 σ (fun r8 σ7 => ((r8 ≤ l4 → k91 l0 l1 σ7) ∧
    (¬ (r8 ≤ l4) → ((l3 ≤ 0 → k91 l0 l1 σ7) ∧
      (¬ (l3 ≤ 0) → ∃ a12, l2 = some a12 ∧ xt σ7 a12 = 2 ∧ ∃ a15, xr σ7 33 a12 = some a15 ∧ xt σ7 a15 = 1 ∧ wJx4a65c_get_915e3 a15 l4 σ7 (fun q18 σ17 => ∃ a20, q18 = some a20 ∧ xt σ17 a20 = 9 ∧ ∃ a23, l2 = some a23 ∧ xt σ17 l0 = 13 ∧ wX11_sawFor l0 a20 a23 l3 σ17 (fun r26 σ25 => ∀ v28, v28 = l3 - r26 → ∀ v29 : Int32, v29 = l4 + 1 → wX11_runMills_44 k91 Q n l0 l1 (some a23) v28 v29 σ25)))))))
def wX11_runMills_2 (Q : kx_S → Prop) : Nat → Nat → Int32 → kx_S → Prop
  | 0, _, _, _ => False
  | n + 1, l0, l1, σ => xt σ l0 = 13 ∧ ∃ a31, xr σ 208 l0 = some a31 ∧ xt σ a31 = 1 ∧ wJx4a65c_size_8abf5 a31 σ (fun r34 σ33 => ((r34 ≤ l1 → Q σ33) ∧
    (¬ (r34 ≤ l1) → xt σ33 l0 = 13 ∧ ∃ a38, xr σ33 208 l0 = some a38 ∧ xt σ33 a38 = 1 ∧ wJx4a65c_get_915e3 a38 l1 σ33 (fun q41 σ40 => ∃ a43, q41 = some a43 ∧ xt σ40 a43 = 10 ∧ ∀ q46, q46 = xr σ40 172 a43 → ((∀ a48, q46 = some a48 → ∃ j, wX11_runMills_44 (wX11_runMills_91 (wX11_runMills_2 Q n) Q) Q j l0 l1 (some a48) 3 0 σ40) ∧
      (q46 = none → wX11_runMills_91 (wX11_runMills_2 Q n) Q l0 l1 σ40))))))
def wX11_runMills (l0 : Nat) (σ : kx_S) (Q : kx_S → Prop) : Prop := ∃ j, wX11_runMills_2 Q j l0 0 σ
set_option maxRecDepth 100000 in
set_option maxHeartbeats 4000000 in
theorem tX11_runMills_91 (l : Launch) (G : kx_G) (σ0 : kx_S) {p : Program} {e : Env} {s : State} {m : MethodId} {args : Array Value} {below : List Frame} {meth : Method} {c : Code} (F : CallFix p m c cX11_runMills 5 s args kt_ RX11) (hr : meth.sig.returnType = none) (hlocks : meth.locks = false) (Q : kx_S → Prop) (k2 : Nat → Int32 → kx_S → Prop) (hk2 : ∀ (l0 : Nat) (l1 : Int32) (σ : kx_S) (H : Heap) (locs : List Loc) (ls : Array Slot), k2 l0 l1 σ → kx_X G (xc σ0) s H locs σ → lv_has ls 5 [(0, .ref l0), (1, .int l1)] → kx_W p l e (5) (194) (xc σ0) s m args below meth c H locs σ (MQ below (kx_Q G σ0 (kx_rv Q)) args s (kx_N - xc σ0) (600 * (kx_N - xc σ0)) (kx_A G)) (F0 m 2 ls [])) : ∀ (l0 : Nat) (l1 : Int32) (σ : kx_S) (H : Heap) (locs : List Loc) (ls : Array Slot), wX11_runMills_91 k2 Q l0 l1 σ → kx_X G (xc σ0) s H locs σ → lv_has ls 5 [(0, .ref l0), (1, .int l1)] → kx_W p l e (5) (194) (xc σ0) s m args below meth c H locs σ (MQ below (kx_Q G σ0 (kx_rv Q)) args s (kx_N - xc σ0) (600 * (kx_N - xc σ0)) (kx_A G)) (F0 m 91 ls []) := by
  intro l0 l1 σ H locs ls h C hl
  obtain ⟨v1, ev1⟩ : ∃ z9 : Int32, z9 = l1 + 1 := ⟨_, rfl⟩
  replace h := h v1 ev1
  refine lv_iinc (v := v1) (lv' := [(1, .int v1), (0, .ref l0)]) F.1 F.2.1 dX11_runMills_91 hl (k := 1) rfl (by rw [ev1]; rfl) (by decide) rfl (fun ls hl => ?_)
  refine lv_goto (tgt := 2) F.1 F.2.1 dX11_runMills_94 (by decide) ?_
  exact hk2 l0 v1 σ H locs ls h C (lv_sub hl [1, 0] rfl)
set_option maxRecDepth 100000 in
set_option maxHeartbeats 4000000 in
theorem tX11_runMills_44 (l : Launch) (G : kx_G) (σ0 : kx_S) {p : Program} {e : Env} {s : State} {m : MethodId} {args : Array Value} {below : List Frame} {meth : Method} {c : Code} (F : CallFix p m c cX11_runMills 5 s args kt_ RX11) (hr : meth.sig.returnType = none) (hlocks : meth.locks = false) (Q : kx_S → Prop) (k91 : Nat → Int32 → kx_S → Prop) (hk91 : ∀ (l0 : Nat) (l1 : Int32) (σ : kx_S) (H : Heap) (locs : List Loc) (ls : Array Slot), k91 l0 l1 σ → kx_X G (xc σ0) s H locs σ → lv_has ls 5 [(0, .ref l0), (1, .int l1)] → kx_W p l e (5) (194) (xc σ0) s m args below meth c H locs σ (MQ below (kx_Q G σ0 (kx_rv Q)) args s (kx_N - xc σ0) (600 * (kx_N - xc σ0)) (kx_A G)) (F0 m 91 ls [])) : ∀ (n : Nat) (l0 : Nat) (l1 : Int32) (l2 : Option Nat) (l3 : Int32) (l4 : Int32) (σ : kx_S) (H : Heap) (locs : List Loc) (ls : Array Slot), wX11_runMills_44 k91 Q n l0 l1 l2 l3 l4 σ → kx_X G (xc σ0) s H locs σ → lv_has ls 5 [(0, .ref l0), (1, .int l1), (2, va_rf l2), (3, .int l3), (4, .int l4)] → kx_W p l e (5) (194) (xc σ0) s m args below meth c H locs σ (MQ below (kx_Q G σ0 (kx_rv Q)) args s (kx_N - xc σ0) (600 * (kx_N - xc σ0)) (kx_A G)) (F0 m 44 ls []) := by
  intro n
  induction n with
  | zero => intro l0 l1 l2 l3 l4 σ H locs ls h; exact h.elim
  | succ n ih =>
    intro l0 l1 l2 l3 l4 σ H locs ls h C hl
    refine lv_iload F.1 F.2.1 dX11_runMills_44 (lv_at hl 4 rfl) ?_
    refine xq_aload_n F.1 F.2.1 dX11_runMills_46 rfl (lv_at hl 2 rfl) ?_
    obtain ⟨a2, ea3, h⟩ := h
    refine xq_nn ea3 ?_
    obtain ⟨ht4, h⟩ := h
    refine xg_X0_orders F C ht4 ux_609 (fun _ h9 => h9) dX11_runMills_47 ?_
    obtain ⟨a5, ea6, h⟩ := h
    refine xq_nn ea6 ?_
    obtain ⟨ht9, h⟩ := h
    refine xk_Jx4a65c_size_8abf5 F C a5 ht9 h ux_500 (Nat.le_of_ble_eq_true rfl) (Nat.le_of_ble_eq_true rfl) hl.1 (by simp [Value.category]) dX11_runMills_50 (fun r8 σ7 H locs h C => ?_)
    refine lv_icmp_ge (tgt := 91) F.1 F.2.1 dX11_runMills_55 (by decide) (fun c10 => ?_) (fun c10 => ?_)
    · replace h := h.1 c10
      exact hk91 l0 l1 σ7 H locs ls h C (lv_sub hl [0, 1] rfl)
    · replace h := h.2 c10
      refine lv_iload_n F.1 F.2.1 dX11_runMills_58 rfl (lv_at hl 3 rfl) ?_
      refine lv_if_le (tgt := 91) F.1 F.2.1 dX11_runMills_59 (by decide) (fun c11 => ?_) (fun c11 => ?_)
      · replace h := h.1 c11
        exact hk91 l0 l1 σ7 H locs ls h C (lv_sub hl [0, 1] rfl)
      · replace h := h.2 c11
        refine lv_iload_n F.1 F.2.1 dX11_runMills_62 rfl (lv_at hl 3 rfl) ?_
        refine lv_aload_n F.1 F.2.1 dX11_runMills_63 rfl (lv_at hl 0 rfl) ?_
        refine xq_aload_n F.1 F.2.1 dX11_runMills_64 rfl (lv_at hl 2 rfl) ?_
        obtain ⟨a12, ea13, h⟩ := h
        refine xq_nn ea13 ?_
        obtain ⟨ht14, h⟩ := h
        refine xg_X0_orders F C ht14 ux_609 (fun _ h9 => h9) dX11_runMills_65 ?_
        obtain ⟨a15, ea16, h⟩ := h
        refine xq_nn ea16 ?_
        refine lv_iload F.1 F.2.1 dX11_runMills_68 (lv_at hl 4 rfl) ?_
        obtain ⟨ht19, h⟩ := h
        refine xk_Jx4a65c_get_915e3 F C a15 l4 ht19 h ux_502 (Nat.le_of_ble_eq_true rfl) (Nat.le_of_ble_eq_true rfl) hl.1 (by simp [Value.category]) dX11_runMills_70 (fun q18 σ17 H locs h C => ?_)
        obtain ⟨a20, ea21, h⟩ := h
        refine xq_nn ea21 ?_
        obtain ⟨ht22, h⟩ := h
        refine kx_cast F C (by rw [ht22]; decide) (kx_e9 ht22) rfl ux_607 dX11_runMills_75 ?_
        refine xq_aload_n F.1 F.2.1 dX11_runMills_78 rfl (lv_at hl 2 rfl) ?_
        refine lv_iload_n F.1 F.2.1 dX11_runMills_79 rfl (lv_at hl 3 rfl) ?_
        obtain ⟨a23, ea24, h⟩ := h
        revert h
        revert hl
        revert C
        subst ea24
        intro C
        intro hl
        intro h
        have hl : lv_has ls 5 [(0, .ref l0), (1, .int l1), (2, .ref a23), (3, .int l3), (4, .int l4)] := hl
        obtain ⟨ht27, h⟩ := h
        refine xk_X11_sawFor F C l0 a20 a23 l3 ht27 h ux_675 (Nat.le_of_ble_eq_true rfl) (Nat.le_of_ble_eq_true rfl) hl.1 (by simp [Value.category]) dX11_runMills_80 (fun r26 σ25 H locs h C => ?_)
        refine lv_isub (x := l3) (y := r26) F.1 F.2.1 dX11_runMills_83 ?_
        refine lv_topi (fun v28 ev28 => ?_)
        replace h := h v28 ev28
        refine lv_istore_n (lv' := [(3, .int v28), (0, .ref l0), (1, .int l1), (2, .ref a23), (4, .int l4)]) F.1 F.2.1 dX11_runMills_84 rfl hl (by decide) rfl (fun ls hl => ?_)
        obtain ⟨v29, ev29⟩ : ∃ z9 : Int32, z9 = l4 + 1 := ⟨_, rfl⟩
        replace h := h v29 ev29
        refine lv_iinc (v := v29) (lv' := [(4, .int v29), (3, .int v28), (0, .ref l0), (1, .int l1), (2, .ref a23)]) F.1 F.2.1 dX11_runMills_85 hl (k := 4) rfl (by rw [ev29]; rfl) (by decide) rfl (fun ls hl => ?_)
        refine lv_goto (tgt := 44) F.1 F.2.1 dX11_runMills_88 (by decide) ?_
        exact ih l0 l1 (some a23) v28 v29 σ25 H locs ls h C (lv_sub hl [2, 3, 4, 1, 0] rfl)
set_option maxRecDepth 100000 in
set_option maxHeartbeats 4000000 in
theorem tX11_runMills_2 (l : Launch) (G : kx_G) (σ0 : kx_S) {p : Program} {e : Env} {s : State} {m : MethodId} {args : Array Value} {below : List Frame} {meth : Method} {c : Code} (F : CallFix p m c cX11_runMills 5 s args kt_ RX11) (hr : meth.sig.returnType = none) (hlocks : meth.locks = false) (Q : kx_S → Prop) : ∀ (n : Nat) (l0 : Nat) (l1 : Int32) (σ : kx_S) (H : Heap) (locs : List Loc) (ls : Array Slot), wX11_runMills_2 Q n l0 l1 σ → kx_X G (xc σ0) s H locs σ → lv_has ls 5 [(0, .ref l0), (1, .int l1)] → kx_W p l e (5) (194) (xc σ0) s m args below meth c H locs σ (MQ below (kx_Q G σ0 (kx_rv Q)) args s (kx_N - xc σ0) (600 * (kx_N - xc σ0)) (kx_A G)) (F0 m 2 ls []) := by
  intro n
  induction n with
  | zero => intro l0 l1 σ H locs ls h; exact h.elim
  | succ n ih =>
    intro l0 l1 σ H locs ls h C hl
    refine lv_iload_n F.1 F.2.1 dX11_runMills_2 rfl (lv_at hl 1 rfl) ?_
    refine lv_aload_n F.1 F.2.1 dX11_runMills_3 rfl (lv_at hl 0 rfl) ?_
    obtain ⟨ht30, h⟩ := h
    refine xg_X11_reaches F C ht30 ux_479 (fun _ h9 => h9) dX11_runMills_4 ?_
    obtain ⟨a31, ea32, h⟩ := h
    refine xq_nn ea32 ?_
    obtain ⟨ht35, h⟩ := h
    refine xk_Jx4a65c_size_8abf5 F C a31 ht35 h ux_500 (Nat.le_of_ble_eq_true rfl) (Nat.le_of_ble_eq_true rfl) hl.1 (by simp [Value.category]) dX11_runMills_7 (fun r34 σ33 H locs h C => ?_)
    refine lv_icmp_ge (tgt := 97) F.1 F.2.1 dX11_runMills_12 (by decide) (fun c36 => ?_) (fun c36 => ?_)
    · replace h := h.1 c36
      exact kx_vret F C hr hlocks h dX11_runMills_97
    · replace h := h.2 c36
      refine lv_aload_n F.1 F.2.1 dX11_runMills_15 rfl (lv_at hl 0 rfl) ?_
      obtain ⟨ht37, h⟩ := h
      refine xg_X11_reaches F C ht37 ux_479 (fun _ h9 => h9) dX11_runMills_16 ?_
      obtain ⟨a38, ea39, h⟩ := h
      refine xq_nn ea39 ?_
      refine lv_iload_n F.1 F.2.1 dX11_runMills_19 rfl (lv_at hl 1 rfl) ?_
      obtain ⟨ht42, h⟩ := h
      refine xk_Jx4a65c_get_915e3 F C a38 l1 ht42 h ux_502 (Nat.le_of_ble_eq_true rfl) (Nat.le_of_ble_eq_true rfl) hl.1 (by simp [Value.category]) dX11_runMills_20 (fun q41 σ40 H locs h C => ?_)
      obtain ⟨a43, ea44, h⟩ := h
      refine xq_nn ea44 ?_
      obtain ⟨ht45, h⟩ := h
      refine kx_cast F C (by rw [ht45]; decide) (kx_e10 ht45) rfl ux_503 dX11_runMills_25 ?_
      refine xg_X8_boom F C ht45 ux_542 (fun _ h9 => h9) dX11_runMills_28 ?_
      refine xq_top (fun q46 eq46 => ?_)
      replace h := h q46 eq46
      refine xq_astore_n (lv' := [(2, va_rf q46), (0, .ref l0), (1, .int l1)]) F.1 F.2.1 dX11_runMills_31 rfl hl (by decide) rfl (fun ls hl => ?_)
      refine xq_aload_n F.1 F.2.1 dX11_runMills_32 rfl (lv_at hl 0 rfl) ?_
      refine xq_ifnonnull (tgt := 39) F.1 F.2.1 dX11_runMills_33 (by decide) (fun a48 c47 => ?_) (fun c47 => ?_)
      · replace h := h.1 a48 c47
        revert h
        revert hl
        revert C
        subst c47
        intro C
        intro hl
        intro h
        have hl : lv_has ls 5 [(2, .ref a48), (0, .ref l0), (1, .int l1)] := hl
        refine lv_iconst (v := 3) F.1 F.2.1 dX11_runMills_39 (by decide) ?_
        refine lv_istore_n (lv' := [(3, .int 3), (2, .ref a48), (0, .ref l0), (1, .int l1)]) F.1 F.2.1 dX11_runMills_40 rfl hl (by decide) rfl (fun ls hl => ?_)
        refine lv_iconst (v := 0) F.1 F.2.1 dX11_runMills_41 (by decide) ?_
        refine lv_istore (lv' := [(4, .int 0), (3, .int 3), (2, .ref a48), (0, .ref l0), (1, .int l1)]) F.1 F.2.1 dX11_runMills_42 hl (by decide) rfl (fun ls hl => ?_)
        obtain ⟨n49, h⟩ := h
        exact tX11_runMills_44 l G σ0 F hr hlocks Q (wX11_runMills_91 (wX11_runMills_2 Q n) Q) (tX11_runMills_91 l G σ0 F hr hlocks Q (wX11_runMills_2 Q n) (fun l0 l1 σ9 H locs ls h C hl => ih l0 l1 σ9 H locs ls h C hl)) n49 l0 l1 (some a48) 3 0 σ40 H locs ls h C (lv_sub hl [3, 4, 2, 1, 0] rfl)
      · replace h := h.2 c47
        refine lv_goto (tgt := 91) F.1 F.2.1 dX11_runMills_36 (by decide) ?_
        exact tX11_runMills_91 l G σ0 F hr hlocks Q (wX11_runMills_2 Q n) (fun l0 l1 σ9 H locs ls h C hl => ih l0 l1 σ9 H locs ls h C hl) l0 l1 σ40 H locs ls h C (lv_sub hl [1, 2] rfl)
set_option maxRecDepth 100000 in
set_option maxHeartbeats 4000000 in
theorem hx_X11_runMills (l : Launch) (G : kx_G) (l0 : Nat) (σ : kx_S) (Q : kx_S → Prop) (h : wX11_runMills l0 σ Q) : kx_M l G yX11_runMills cX11_runMills 5 none (5) (194) [.ref l0] σ (kx_rv Q) := by
  refine kx_enter (by decide) rfl (Nat.le_of_ble_eq_true rfl) ?_
  intro p e s m below meth c ls F hr hlocks C hname hl
  have hl : lv_has ls 5 [(0, .ref l0)] := hl
  obtain ⟨H, eH⟩ : ∃ z9, z9 = s.heap := ⟨_, rfl⟩
  obtain ⟨locs, eL⟩ : ∃ z9 : List Loc, z9 = [] := ⟨_, rfl⟩
  rw [← eH, ← eL] at C
  rw [← eH, ← eL]
  obtain ⟨σ0, e0⟩ : ∃ z9, z9 = σ := ⟨_, rfl⟩
  have C : kx_X G (xc σ0) s H locs σ := by rw [e0]; exact C
  suffices hgo : kx_W p l e (5) (194) (xc σ0) s m ([.ref l0] : List Value).toArray below meth c H locs σ (MQ below (kx_Q G σ0 (kx_rv Q)) ([.ref l0] : List Value).toArray s (kx_N - xc σ0) (600 * (kx_N - xc σ0)) (kx_A G)) (F0 m 0 ls []) by rw [e0] at hgo; exact hgo
  clear e0
  refine lv_iconst (v := 0) F.1 F.2.1 dX11_runMills_0 (by decide) ?_
  refine lv_istore_n (lv' := [(1, .int 0), (0, .ref l0)]) F.1 F.2.1 dX11_runMills_1 rfl hl (by decide) rfl (fun ls hl => ?_)
  obtain ⟨n50, h⟩ := h
  exact tX11_runMills_2 l G σ0 F hr hlocks Q n50 l0 0 σ H locs ls h C (lv_sub hl [1, 0] rfl)
section
variable {p : Program} {l : Launch} {e : Env} {fr lo c0 : Nat} {s : State} {m : MethodId} {args : Array Value} {below : List Frame} {meth : Method} {c : Code} {H : Heap} {locs : List Loc} {Q : State → Prop}
variable {cc : ByteArray} {pc nL index : Nat} {ls : Array Slot} {rest : List Value} {G : kx_G} {σ : kx_S} {own : String}
theorem xk_X11_runMills {P : kx_S → Prop} (F : CallFix p m c cc nL s args kt_ own) (C : kx_X G c0 s H locs σ) (l0 : Nat) (ha : xt σ l0 = 13) (h : wX11_runMills l0 σ P) (hw : Cond.methodLink own index yX11_runMills ∈ kt_) (h1 : (5) + 1 ≤ fr) (h2 : 8 + (5 + 11) + (194) ≤ lo) (hsz : ls.size = nL) (hW : (rest.map fun v => v.category).sum ≤ 8) (hdg : decode cc pc = .ok (.invokevirtual index, 3)) (kk : ∀ (u : kx_S) (H1 : Heap) (locs1 : List Loc), P u → kx_X G c0 s H1 locs1 u → kx_W p l e fr lo c0 s m args below meth c H1 locs1 u Q (F0 m (pc + 3) ls rest)) : kx_W p l e fr lo c0 s m args below meth c H locs σ Q (F0 m pc ls (.ref l0 :: rest)) :=
  kx_cV (n := 0) (As := []) (Cn := RX11) F C (hx_X11_runMills l G l0 σ P h) (kt_V hw ux_677 ux_678 ux_117 ux_676) (by decide +kernel) ⟨h1, h2⟩ (kx_recv C (by rw [ha]; decide) (kx_e13 ha) rfl) rfl hsz hW hdg (fun v u H1 locs1 hP9 C9 => by obtain ⟨hv, hp⟩ := hP9; subst hv; exact kk u H1 locs1 hp C9)
end
theorem dX11_hours_0 : decode cX11_hours 0 = .ok (.iload_n 1, 1) := by decide +kernel
theorem dX11_hours_1 : decode cX11_hours 1 = .ok (.iconst 0, 1) := by decide +kernel
theorem dX11_hours_2 : decode cX11_hours 2 = .ok (.sipush 200, 3) := by decide +kernel
theorem dX11_hours_5 : decode cX11_hours 5 = .ok (.invokestatic 65, 3) := by decide +kernel
theorem dX11_hours_8 : decode cX11_hours 8 = .ok (.ifCond .eq 15, 3) := by decide +kernel
theorem dX11_hours_11 : decode cX11_hours 11 = .ok (.aload_n 0, 1) := by decide +kernel
theorem dX11_hours_12 : decode cX11_hours 12 = .ok (.getfield 136, 3) := by decide +kernel
theorem dX11_hours_15 : decode cX11_hours 15 = .ok (.iload_n 1, 1) := by decide +kernel
theorem dX11_hours_16 : decode cX11_hours 16 = .ok (.iadd, 1) := by decide +kernel
theorem dX11_hours_17 : decode cX11_hours 17 = .ok (.sipush 20000, 3) := by decide +kernel
theorem dX11_hours_20 : decode cX11_hours 20 = .ok (.if_icmp .le 13, 3) := by decide +kernel
theorem dX11_hours_23 : decode cX11_hours 23 = .ok (.new 151, 3) := by decide +kernel
theorem dX11_hours_26 : decode cX11_hours 26 = .ok (.dup, 1) := by decide +kernel
theorem dX11_hours_27 : decode cX11_hours 27 = .ok (.ldc 224, 2) := by decide +kernel
theorem dX11_hours_29 : decode cX11_hours 29 = .ok (.invokespecial 155, 3) := by decide +kernel
theorem dX11_hours_32 : decode cX11_hours 32 = .ok (.athrow, 1) := by decide +kernel
theorem dX11_hours_33 : decode cX11_hours 33 = .ok (.iconst 0, 1) := by decide +kernel
theorem dX11_hours_34 : decode cX11_hours 34 = .ok (.istore_n 2, 1) := by decide +kernel
theorem dX11_hours_35 : decode cX11_hours 35 = .ok (.iload_n 2, 1) := by decide +kernel
theorem dX11_hours_36 : decode cX11_hours 36 = .ok (.iload_n 1, 1) := by decide +kernel
theorem dX11_hours_37 : decode cX11_hours 37 = .ok (.if_icmp .ge 47, 3) := by decide +kernel
theorem dX11_hours_40 : decode cX11_hours 40 = .ok (.aload_n 0, 1) := by decide +kernel
theorem dX11_hours_41 : decode cX11_hours 41 = .ok (.invokevirtual 226, 3) := by decide +kernel
theorem dX11_hours_44 : decode cX11_hours 44 = .ok (.aload_n 0, 1) := by decide +kernel
theorem dX11_hours_45 : decode cX11_hours 45 = .ok (.invokevirtual 229, 3) := by decide +kernel
theorem dX11_hours_48 : decode cX11_hours 48 = .ok (.aload_n 0, 1) := by decide +kernel
theorem dX11_hours_49 : decode cX11_hours 49 = .ok (.invokevirtual 232, 3) := by decide +kernel
theorem dX11_hours_52 : decode cX11_hours 52 = .ok (.aload_n 0, 1) := by decide +kernel
theorem dX11_hours_53 : decode cX11_hours 53 = .ok (.invokevirtual 235, 3) := by decide +kernel
theorem dX11_hours_56 : decode cX11_hours 56 = .ok (.aload_n 0, 1) := by decide +kernel
theorem dX11_hours_57 : decode cX11_hours 57 = .ok (.invokevirtual 238, 3) := by decide +kernel
theorem dX11_hours_60 : decode cX11_hours 60 = .ok (.aload_n 0, 1) := by decide +kernel
theorem dX11_hours_61 : decode cX11_hours 61 = .ok (.invokevirtual 241, 3) := by decide +kernel
theorem dX11_hours_64 : decode cX11_hours 64 = .ok (.aload_n 0, 1) := by decide +kernel
theorem dX11_hours_65 : decode cX11_hours 65 = .ok (.invokevirtual 244, 3) := by decide +kernel
theorem dX11_hours_68 : decode cX11_hours 68 = .ok (.aload_n 0, 1) := by decide +kernel
theorem dX11_hours_69 : decode cX11_hours 69 = .ok (.dup, 1) := by decide +kernel
theorem dX11_hours_70 : decode cX11_hours 70 = .ok (.getfield 136, 3) := by decide +kernel
theorem dX11_hours_73 : decode cX11_hours 73 = .ok (.iconst 1, 1) := by decide +kernel
theorem dX11_hours_74 : decode cX11_hours 74 = .ok (.iadd, 1) := by decide +kernel
theorem dX11_hours_75 : decode cX11_hours 75 = .ok (.putfield 136, 3) := by decide +kernel
theorem dX11_hours_78 : decode cX11_hours 78 = .ok (.iinc 2 1, 3) := by decide +kernel
theorem dX11_hours_81 : decode cX11_hours 81 = .ok (.goto (-46), 3) := by decide +kernel
theorem dX11_hours_84 : decode cX11_hours 84 = .ok (.aload_n 0, 1) := by decide +kernel
theorem dX11_hours_85 : decode cX11_hours 85 = .ok (.getfield 136, 3) := by decide +kernel
theorem dX11_hours_88 : decode cX11_hours 88 = .ok (.ireturn, 1) := by decide +kernel
def wX11_hours_84 (Q : Int32 → kx_S → Prop) (QX : String → kx_S → Prop) (l0 : Nat) (σ : kx_S) : Prop := xt σ l0 = 13 ∧ Q (xi σ 217 l0) σ
def wX11_hours_23 (Q : Int32 → kx_S → Prop) (QX : String → kx_S → Prop) (σ : kx_S) : Prop := xc σ < kx_N ∧ QX pz_I (xbump σ)
def wX11_hours_35 (k84 : Nat → kx_S → Prop) (Q : Int32 → kx_S → Prop) (QX : String → kx_S → Prop) : Nat → Nat → Int32 → Int32 → kx_S → Prop
  | 0, _, _, _, _ => False
  | n + 1, l0, l1, l2, σ => ((l1 ≤ l2 → k84 l0 σ) ∧
    (¬ (l1 ≤ l2) → xt σ l0 = 13 ∧ wX11_runWater l0 σ (fun σ4 => xt σ4 l0 = 13 ∧ wX11_moveLogs l0 σ4 (fun σ6 => xt σ6 l0 = 13 ∧ wX11_jamCells l0 σ6 (fun σ8 => xt σ8 l0 = 13 ∧ wX11_freeJams l0 σ8 (fun σ10 => xt σ10 l0 = 13 ∧ wX11_makeJamsKnown l0 σ10 (fun σ12 => xt σ12 l0 = 13 ∧ wX11_ageLogs l0 σ12 (fun σ14 => xt σ14 l0 = 13 ∧ wX11_runMills l0 σ14 (fun σ16 => xt σ16 l0 = 13 ∧ ∀ σ19, σ19 = xsi σ16 217 l0 ((xi σ16 217 l0) + 1) → ∀ v21 : Int32, v21 = l2 + 1 → wX11_hours_35 k84 Q QX n l0 l1 v21 σ19)))))))))
def wX11_hours (l0 : Nat) (l1 : Int32) (σ : kx_S) (Q : Int32 → kx_S → Prop) (QX : String → kx_S → Prop) : Prop := wX11_isWithin l1 0 200 σ (fun r23 σ22 => ((r23 = 0 → wX11_hours_23 Q QX σ22) ∧
  (¬ (r23 = 0) → xt σ22 l0 = 13 ∧ ((((xi σ22 217 l0) + l1) ≤ 20000 → ∃ j, wX11_hours_35 (wX11_hours_84 Q QX) Q QX j l0 l1 0 σ22) ∧
    (¬ (((xi σ22 217 l0) + l1) ≤ 20000) → wX11_hours_23 Q QX σ22)))))
set_option maxRecDepth 100000 in
set_option maxHeartbeats 4000000 in
theorem tX11_hours_84 (l : Launch) (hlt : l.stackTraces = false) (G : kx_G) (σ0 : kx_S) {p : Program} {e : Env} {s : State} {m : MethodId} {args : Array Value} {below : List Frame} {meth : Method} {c : Code} (F : CallFix p m c cX11_hours 3 s args kt_ RX11) (hr : meth.sig.returnType = (some .int)) (hlocks : meth.locks = false) (hout : ∀ x ∈ c.exceptionTable.toList, False) (Q : Int32 → kx_S → Prop) (QX : String → kx_S → Prop) : ∀ (l0 : Nat) (σ : kx_S) (H : Heap) (locs : List Loc) (ls : Array Slot), wX11_hours_84 Q QX l0 σ → kx_X G (xc σ0) s H locs σ → lv_has ls 3 [(0, .ref l0)] → kx_W p l e (12) (351) (xc σ0) s m args below meth c H locs σ (vx_MQ below (kx_Q G σ0 (kx_ri Q)) (kx_XC G σ0 QX) args s (kx_N - xc σ0) (600 * (kx_N - xc σ0)) (kx_A G)) (F0 m 84 ls []) := by
  intro l0 σ H locs ls h C hl
  refine lv_aload_n F.1 F.2.1 dX11_hours_84 rfl (lv_at hl 0 rfl) ?_
  obtain ⟨ht1, h⟩ := h
  refine xg_X11_hour F C ht1 ux_556 (fun _ h9 => h9) dX11_hours_85 ?_
  refine vx_ret ?_
  exact kx_iret F C hr hlocks h dX11_hours_88
set_option maxRecDepth 100000 in
set_option maxHeartbeats 4000000 in
theorem tX11_hours_23 (l : Launch) (hlt : l.stackTraces = false) (G : kx_G) (σ0 : kx_S) {p : Program} {e : Env} {s : State} {m : MethodId} {args : Array Value} {below : List Frame} {meth : Method} {c : Code} (F : CallFix p m c cX11_hours 3 s args kt_ RX11) (hr : meth.sig.returnType = (some .int)) (hlocks : meth.locks = false) (hout : ∀ x ∈ c.exceptionTable.toList, False) (Q : Int32 → kx_S → Prop) (QX : String → kx_S → Prop) : ∀ (σ : kx_S) (H : Heap) (locs : List Loc) (ls : Array Slot), wX11_hours_23 Q QX  σ → kx_X G (xc σ0) s H locs σ → lv_has ls 3 [] → kx_W p l e (12) (351) (xc σ0) s m args below meth c H locs σ (vx_MQ below (kx_Q G σ0 (kx_ri Q)) (kx_XC G σ0 QX) args s (kx_N - xc σ0) (600 * (kx_N - xc σ0)) (kx_A G)) (F0 m 23 ls []) := by
  intro  σ H locs ls h C hl
  obtain ⟨hn2, h⟩ := h
  exact kx_throwI (is := 224) hlt (text := "no such number of hours") (by decide +kernel) F C hn2 h hl.1 ux_572 ux_573 dX11_hours_23 dX11_hours_26 dX11_hours_27 dX11_hours_29 dX11_hours_32 hout (Nat.le_of_ble_eq_true rfl) (by simp [Value.category]) hlocks
set_option maxRecDepth 100000 in
set_option maxHeartbeats 4000000 in
theorem tX11_hours_35 (l : Launch) (hlt : l.stackTraces = false) (G : kx_G) (σ0 : kx_S) {p : Program} {e : Env} {s : State} {m : MethodId} {args : Array Value} {below : List Frame} {meth : Method} {c : Code} (F : CallFix p m c cX11_hours 3 s args kt_ RX11) (hr : meth.sig.returnType = (some .int)) (hlocks : meth.locks = false) (hout : ∀ x ∈ c.exceptionTable.toList, False) (Q : Int32 → kx_S → Prop) (QX : String → kx_S → Prop) (k84 : Nat → kx_S → Prop) (hk84 : ∀ (l0 : Nat) (σ : kx_S) (H : Heap) (locs : List Loc) (ls : Array Slot), k84 l0 σ → kx_X G (xc σ0) s H locs σ → lv_has ls 3 [(0, .ref l0)] → kx_W p l e (12) (351) (xc σ0) s m args below meth c H locs σ (vx_MQ below (kx_Q G σ0 (kx_ri Q)) (kx_XC G σ0 QX) args s (kx_N - xc σ0) (600 * (kx_N - xc σ0)) (kx_A G)) (F0 m 84 ls [])) : ∀ (n : Nat) (l0 : Nat) (l1 : Int32) (l2 : Int32) (σ : kx_S) (H : Heap) (locs : List Loc) (ls : Array Slot), wX11_hours_35 k84 Q QX n l0 l1 l2 σ → kx_X G (xc σ0) s H locs σ → lv_has ls 3 [(0, .ref l0), (1, .int l1), (2, .int l2)] → kx_W p l e (12) (351) (xc σ0) s m args below meth c H locs σ (vx_MQ below (kx_Q G σ0 (kx_ri Q)) (kx_XC G σ0 QX) args s (kx_N - xc σ0) (600 * (kx_N - xc σ0)) (kx_A G)) (F0 m 35 ls []) := by
  intro n
  induction n with
  | zero => intro l0 l1 l2 σ H locs ls h; exact h.elim
  | succ n ih =>
    intro l0 l1 l2 σ H locs ls h C hl
    refine lv_iload_n F.1 F.2.1 dX11_hours_35 rfl (lv_at hl 2 rfl) ?_
    refine lv_iload_n F.1 F.2.1 dX11_hours_36 rfl (lv_at hl 1 rfl) ?_
    refine lv_icmp_ge (tgt := 84) F.1 F.2.1 dX11_hours_37 (by decide) (fun c3 => ?_) (fun c3 => ?_)
    · replace h := h.1 c3
      exact hk84 l0 σ H locs ls h C (lv_sub hl [0] rfl)
    · replace h := h.2 c3
      refine lv_aload_n F.1 F.2.1 dX11_hours_40 rfl (lv_at hl 0 rfl) ?_
      obtain ⟨ht5, h⟩ := h
      refine xk_X11_runWater F C l0 ht5 h ux_679 (Nat.le_of_ble_eq_true rfl) (Nat.le_of_ble_eq_true rfl) hl.1 (by simp [Value.category]) dX11_hours_41 (fun σ4 H locs h C => ?_)
      refine lv_aload_n F.1 F.2.1 dX11_hours_44 rfl (lv_at hl 0 rfl) ?_
      obtain ⟨ht7, h⟩ := h
      refine xk_X11_moveLogs F C l0 ht7 h ux_680 (Nat.le_of_ble_eq_true rfl) (Nat.le_of_ble_eq_true rfl) hl.1 (by simp [Value.category]) dX11_hours_45 (fun σ6 H locs h C => ?_)
      refine lv_aload_n F.1 F.2.1 dX11_hours_48 rfl (lv_at hl 0 rfl) ?_
      obtain ⟨ht9, h⟩ := h
      refine xk_X11_jamCells F C l0 ht9 h ux_681 (Nat.le_of_ble_eq_true rfl) (Nat.le_of_ble_eq_true rfl) hl.1 (by simp [Value.category]) dX11_hours_49 (fun σ8 H locs h C => ?_)
      refine lv_aload_n F.1 F.2.1 dX11_hours_52 rfl (lv_at hl 0 rfl) ?_
      obtain ⟨ht11, h⟩ := h
      refine xk_X11_freeJams F C l0 ht11 h ux_682 (Nat.le_of_ble_eq_true rfl) (Nat.le_of_ble_eq_true rfl) hl.1 (by simp [Value.category]) dX11_hours_53 (fun σ10 H locs h C => ?_)
      refine lv_aload_n F.1 F.2.1 dX11_hours_56 rfl (lv_at hl 0 rfl) ?_
      obtain ⟨ht13, h⟩ := h
      refine xk_X11_makeJamsKnown F C l0 ht13 h ux_683 (Nat.le_of_ble_eq_true rfl) (Nat.le_of_ble_eq_true rfl) hl.1 (by simp [Value.category]) dX11_hours_57 (fun σ12 H locs h C => ?_)
      refine lv_aload_n F.1 F.2.1 dX11_hours_60 rfl (lv_at hl 0 rfl) ?_
      obtain ⟨ht15, h⟩ := h
      refine xk_X11_ageLogs F C l0 ht15 h ux_684 (Nat.le_of_ble_eq_true rfl) (Nat.le_of_ble_eq_true rfl) hl.1 (by simp [Value.category]) dX11_hours_61 (fun σ14 H locs h C => ?_)
      refine lv_aload_n F.1 F.2.1 dX11_hours_64 rfl (lv_at hl 0 rfl) ?_
      obtain ⟨ht17, h⟩ := h
      refine xk_X11_runMills F C l0 ht17 h ux_685 (Nat.le_of_ble_eq_true rfl) (Nat.le_of_ble_eq_true rfl) hl.1 (by simp [Value.category]) dX11_hours_65 (fun σ16 H locs h C => ?_)
      refine lv_aload_n F.1 F.2.1 dX11_hours_68 rfl (lv_at hl 0 rfl) ?_
      refine lv_dup F.1 F.2.1 dX11_hours_69 rfl ?_
      obtain ⟨ht18, h⟩ := h
      refine xg_X11_hour F C ht18 ux_556 (fun _ h9 => h9) dX11_hours_70 ?_
      refine lv_iconst (v := 1) F.1 F.2.1 dX11_hours_73 (by decide) ?_
      refine lv_iadd (x := xi σ16 217 l0) (y := 1) F.1 F.2.1 dX11_hours_74 ?_
      refine xp_X11_hour (x := (xi σ16 217 l0) + 1) F C ht18 ux_556 (fun _ h9 => h9) dX11_hours_75 (fun H locs C => ?_)
      generalize eσ19 : xsi σ16 217 l0 ((xi σ16 217 l0) + 1) = σ19 at C ⊢
      replace h := h σ19 eσ19.symm
      have ht20 : xt σ19 l0 = 13 := by rw [← eσ19]; exact ht18
      obtain ⟨v21, ev21⟩ : ∃ z9 : Int32, z9 = l2 + 1 := ⟨_, rfl⟩
      replace h := h v21 ev21
      refine lv_iinc (v := v21) (lv' := [(2, .int v21), (0, .ref l0), (1, .int l1)]) F.1 F.2.1 dX11_hours_78 hl (k := 2) rfl (by rw [ev21]; rfl) (by decide) rfl (fun ls hl => ?_)
      refine lv_goto (tgt := 35) F.1 F.2.1 dX11_hours_81 (by decide) ?_
      exact ih l0 l1 v21 σ19 H locs ls h C (lv_sub hl [1, 2, 0] rfl)
set_option maxRecDepth 100000 in
set_option maxHeartbeats 4000000 in
theorem hx_X11_hours (l : Launch) (hlt : l.stackTraces = false) (G : kx_G) (l0 : Nat) (l1 : Int32) (σ : kx_S) (Q : Int32 → kx_S → Prop) (QX : String → kx_S → Prop) (h : wX11_hours l0 l1 σ Q QX) : kx_MX l G yX11_hours cX11_hours 3 (some .int) (12) (351) [.ref l0, .int l1] σ (kx_ri Q) QX := by
  refine kx_enterX (by decide) rfl (Nat.le_of_ble_eq_true rfl) ?_
  intro p e s m below meth c ls F hr hlocks C hout hl
  have hl : lv_has ls 3 [(0, .ref l0), (1, .int l1)] := hl
  obtain ⟨H, eH⟩ : ∃ z9, z9 = s.heap := ⟨_, rfl⟩
  obtain ⟨locs, eL⟩ : ∃ z9 : List Loc, z9 = [] := ⟨_, rfl⟩
  rw [← eH, ← eL] at C
  rw [← eH, ← eL]
  obtain ⟨σ0, e0⟩ : ∃ z9, z9 = σ := ⟨_, rfl⟩
  have C : kx_X G (xc σ0) s H locs σ := by rw [e0]; exact C
  suffices hgo : kx_W p l e (12) (351) (xc σ0) s m ([.ref l0, .int l1] : List Value).toArray below meth c H locs σ (vx_MQ below (kx_Q G σ0 (kx_ri Q)) (kx_XC G σ0 QX) ([.ref l0, .int l1] : List Value).toArray s (kx_N - xc σ0) (600 * (kx_N - xc σ0)) (kx_A G)) (F0 m 0 ls []) by rw [e0] at hgo; exact hgo
  clear e0
  refine lv_iload_n F.1 F.2.1 dX11_hours_0 rfl (lv_at hl 1 rfl) ?_
  refine lv_iconst (v := 0) F.1 F.2.1 dX11_hours_1 (by decide) ?_
  refine lv_sipush (v := 200) F.1 F.2.1 dX11_hours_2 (by decide) ?_
  refine xk_X11_isWithin F C l1 0 200 h ux_501 (Nat.le_of_ble_eq_true rfl) (Nat.le_of_ble_eq_true rfl) hl.1 (by simp [Value.category]) dX11_hours_5 (fun r23 σ22 H locs h C => ?_)
  refine lv_if_eq (tgt := 23) F.1 F.2.1 dX11_hours_8 (by decide) (fun c24 => ?_) (fun c24 => ?_)
  · replace h := h.1 c24
    exact tX11_hours_23 l hlt G σ0 F hr hlocks hout Q QX σ22 H locs ls h C (lv_sub hl [] rfl)
  · replace h := h.2 c24
    refine lv_aload_n F.1 F.2.1 dX11_hours_11 rfl (lv_at hl 0 rfl) ?_
    obtain ⟨ht25, h⟩ := h
    refine xg_X11_hour F C ht25 ux_556 (fun _ h9 => h9) dX11_hours_12 ?_
    refine lv_iload_n F.1 F.2.1 dX11_hours_15 rfl (lv_at hl 1 rfl) ?_
    refine lv_iadd (x := xi σ22 217 l0) (y := l1) F.1 F.2.1 dX11_hours_16 ?_
    refine lv_sipush (v := 20000) F.1 F.2.1 dX11_hours_17 (by decide) ?_
    refine lv_icmp_le (tgt := 33) F.1 F.2.1 dX11_hours_20 (by decide) (fun c26 => ?_) (fun c26 => ?_)
    · replace h := h.1 c26
      refine lv_iconst (v := 0) F.1 F.2.1 dX11_hours_33 (by decide) ?_
      refine lv_istore_n (lv' := [(2, .int 0), (0, .ref l0), (1, .int l1)]) F.1 F.2.1 dX11_hours_34 rfl hl (by decide) rfl (fun ls hl => ?_)
      obtain ⟨n27, h⟩ := h
      exact tX11_hours_35 l hlt G σ0 F hr hlocks hout Q QX (wX11_hours_84 Q QX) (tX11_hours_84 l hlt G σ0 F hr hlocks hout Q QX) n27 l0 l1 0 σ22 H locs ls h C (lv_sub hl [1, 2, 0] rfl)
    · replace h := h.2 c26
      exact tX11_hours_23 l hlt G σ0 F hr hlocks hout Q QX σ22 H locs ls h C (lv_sub hl [] rfl)
section
variable {p : Program} {l : Launch} {e : Env} {fr lo c0 : Nat} {s : State} {m : MethodId} {args : Array Value} {below : List Frame} {meth : Method} {c : Code} {H : Heap} {locs : List Loc} {Q : State → Prop}
variable {cc : ByteArray} {pc nL index : Nat} {ls : Array Slot} {rest : List Value} {G : kx_G} {σ : kx_S} {own : String}
theorem xk_X11_hours {P : Int32 → kx_S → Prop} {PX : String → kx_S → Prop} (hlt : l.stackTraces = false) (F : CallFix p m c cc nL s args kt_ own) (C : kx_X G c0 s H locs σ) (l0 : Nat) (l1 : Int32) (ha : xt σ l0 = 13) (h : wX11_hours l0 l1 σ P PX) (hw : Cond.methodLink own index yX11_hours ∈ kt_) (h1 : (12) + 1 ≤ fr) (h2 : 8 + (3 + 11) + (351) ≤ lo) (hsz : ls.size = nL) (hW : (rest.map fun v => v.category).sum ≤ 8) (hdg : decode cc pc = .ok (.invokevirtual index, 3)) (kx : ∀ (E : String) (ce : Cell) (q9 : Addr) (u : kx_S) (H1 : Heap) (locs1 : List Loc), PX E u → kx_X G c0 s H1 locs1 u → H1[q9]? = some ce → ce.vm = .none → s.vm.findClass E = some ce.cls → vx_W p l e (kx_rm fr lo c0) s m args below meth c H1 locs1 (xc u - c0) (600 * (xc u - c0)) Q (F0 m pc ls rest) q9) (kk : ∀ (r : Int32) (u : kx_S) (H1 : Heap) (locs1 : List Loc), P r u → kx_X G c0 s H1 locs1 u → kx_W p l e fr lo c0 s m args below meth c H1 locs1 u Q (F0 m (pc + 3) ls (.int r :: rest))) : kx_W p l e fr lo c0 s m args below meth c H locs σ Q (F0 m pc ls (.int l1 :: .ref l0 :: rest)) :=
  kx_cVX (n := 1) (As := [.int l1]) (Cn := RX11) F C (hx_X11_hours l hlt G l0 l1 σ P PX h) (kt_V hw ux_687 ux_688 ux_117 ux_686) (by decide +kernel) ⟨h1, h2⟩ (kx_recv C (by rw [ha]; decide) (kx_e13 ha) rfl) rfl hsz hW hdg kx (fun v u H1 locs1 hP9 C9 => by obtain ⟨r, hv, hp⟩ := hP9; subst hv; exact kk r u H1 locs1 hp C9)
end
theorem dX11_wants_0 : decode cX11_wants 0 = .ok (.iload_n 1, 1) := by decide +kernel
theorem dX11_wants_1 : decode cX11_wants 1 = .ok (.iconst 0, 1) := by decide +kernel
theorem dX11_wants_2 : decode cX11_wants 2 = .ok (.aload_n 0, 1) := by decide +kernel
theorem dX11_wants_3 : decode cX11_wants 3 = .ok (.getfield 25, 3) := by decide +kernel
theorem dX11_wants_6 : decode cX11_wants 6 = .ok (.invokeinterface 59 1, 5) := by decide +kernel
theorem dX11_wants_11 : decode cX11_wants 11 = .ok (.iconst 1, 1) := by decide +kernel
theorem dX11_wants_12 : decode cX11_wants 12 = .ok (.isub, 1) := by decide +kernel
theorem dX11_wants_13 : decode cX11_wants 13 = .ok (.invokestatic 65, 3) := by decide +kernel
theorem dX11_wants_16 : decode cX11_wants 16 = .ok (.ifCond .ne 14, 3) := by decide +kernel
theorem dX11_wants_19 : decode cX11_wants 19 = .ok (.new 350, 3) := by decide +kernel
theorem dX11_wants_22 : decode cX11_wants 22 = .ok (.dup, 1) := by decide +kernel
theorem dX11_wants_23 : decode cX11_wants 23 = .ok (.ldc_w 352, 3) := by decide +kernel
theorem dX11_wants_26 : decode cX11_wants 26 = .ok (.invokespecial 354, 3) := by decide +kernel
theorem dX11_wants_29 : decode cX11_wants 29 = .ok (.athrow, 1) := by decide +kernel
theorem dX11_wants_30 : decode cX11_wants 30 = .ok (.aload_n 0, 1) := by decide +kernel
theorem dX11_wants_31 : decode cX11_wants 31 = .ok (.getfield 25, 3) := by decide +kernel
theorem dX11_wants_34 : decode cX11_wants 34 = .ok (.iload_n 1, 1) := by decide +kernel
theorem dX11_wants_35 : decode cX11_wants 35 = .ok (.invokeinterface 69 2, 5) := by decide +kernel
theorem dX11_wants_40 : decode cX11_wants 40 = .ok (.checkcast 218, 3) := by decide +kernel
theorem dX11_wants_43 : decode cX11_wants 43 = .ok (.getfield 335, 3) := by decide +kernel
theorem dX11_wants_46 : decode cX11_wants 46 = .ok (.ireturn, 1) := by decide +kernel
def wX11_wants (l0 : Nat) (l1 : Int32) (σ : kx_S) (Q : Int32 → kx_S → Prop) (QX : String → kx_S → Prop) : Prop := xt σ l0 = 13 ∧ ∃ a2, xr σ 212 l0 = some a2 ∧ xt σ a2 = 1 ∧ wJx4a65c_size_8abf5 a2 σ (fun r5 σ4 => wX11_isWithin l1 0 (r5 - 1) σ4 (fun r8 σ7 => ((¬ r8 = 0 → xt σ7 l0 = 13 ∧ ∃ a11, xr σ7 212 l0 = some a11 ∧ xt σ7 a11 = 1 ∧ wJx4a65c_get_915e3 a11 l1 σ7 (fun q14 σ13 => ∃ a16, q14 = some a16 ∧ xt σ13 a16 = 9 ∧ Q (xi σ13 146 a16) σ13)) ∧
  (r8 = 0 → xc σ7 < kx_N ∧ QX pz_N (xbump σ7)))))
set_option maxRecDepth 100000 in
set_option maxHeartbeats 4000000 in
theorem hx_X11_wants (l : Launch) (hlt : l.stackTraces = false) (G : kx_G) (l0 : Nat) (l1 : Int32) (σ : kx_S) (Q : Int32 → kx_S → Prop) (QX : String → kx_S → Prop) (h : wX11_wants l0 l1 σ Q QX) : kx_MX l G yX11_wants cX11_wants 2 (some .int) (6) (82) [.ref l0, .int l1] σ (kx_ri Q) QX := by
  refine kx_enterX (by decide) rfl (Nat.le_of_ble_eq_true rfl) ?_
  intro p e s m below meth c ls F hr hlocks C hout hl
  have hl : lv_has ls 2 [(0, .ref l0), (1, .int l1)] := hl
  obtain ⟨H, eH⟩ : ∃ z9, z9 = s.heap := ⟨_, rfl⟩
  obtain ⟨locs, eL⟩ : ∃ z9 : List Loc, z9 = [] := ⟨_, rfl⟩
  rw [← eH, ← eL] at C
  rw [← eH, ← eL]
  obtain ⟨σ0, e0⟩ : ∃ z9, z9 = σ := ⟨_, rfl⟩
  have C : kx_X G (xc σ0) s H locs σ := by rw [e0]; exact C
  suffices hgo : kx_W p l e (6) (82) (xc σ0) s m ([.ref l0, .int l1] : List Value).toArray below meth c H locs σ (vx_MQ below (kx_Q G σ0 (kx_ri Q)) (kx_XC G σ0 QX) ([.ref l0, .int l1] : List Value).toArray s (kx_N - xc σ0) (600 * (kx_N - xc σ0)) (kx_A G)) (F0 m 0 ls []) by rw [e0] at hgo; exact hgo
  clear e0
  refine lv_iload_n F.1 F.2.1 dX11_wants_0 rfl (lv_at hl 1 rfl) ?_
  refine lv_iconst (v := 0) F.1 F.2.1 dX11_wants_1 (by decide) ?_
  refine lv_aload_n F.1 F.2.1 dX11_wants_2 rfl (lv_at hl 0 rfl) ?_
  obtain ⟨ht1, h⟩ := h
  refine xg_X11_orders F C ht1 ux_483 (fun _ h9 => h9) dX11_wants_3 ?_
  obtain ⟨a2, ea3, h⟩ := h
  refine xq_nn ea3 ?_
  obtain ⟨ht6, h⟩ := h
  refine xk_Jx4a65c_size_8abf5 F C a2 ht6 h ux_500 (Nat.le_of_ble_eq_true rfl) (Nat.le_of_ble_eq_true rfl) hl.1 (by simp [Value.category]) dX11_wants_6 (fun r5 σ4 H locs h C => ?_)
  refine lv_iconst (v := 1) F.1 F.2.1 dX11_wants_11 (by decide) ?_
  refine lv_isub (x := r5) (y := 1) F.1 F.2.1 dX11_wants_12 ?_
  refine xk_X11_isWithin F C l1 0 (r5 - 1) h ux_501 (Nat.le_of_ble_eq_true rfl) (Nat.le_of_ble_eq_true rfl) hl.1 (by simp [Value.category]) dX11_wants_13 (fun r8 σ7 H locs h C => ?_)
  refine lv_if_ne (tgt := 30) F.1 F.2.1 dX11_wants_16 (by decide) (fun c9 => ?_) (fun c9 => ?_)
  · replace h := h.1 c9
    refine lv_aload_n F.1 F.2.1 dX11_wants_30 rfl (lv_at hl 0 rfl) ?_
    obtain ⟨ht10, h⟩ := h
    refine xg_X11_orders F C ht10 ux_483 (fun _ h9 => h9) dX11_wants_31 ?_
    obtain ⟨a11, ea12, h⟩ := h
    refine xq_nn ea12 ?_
    refine lv_iload_n F.1 F.2.1 dX11_wants_34 rfl (lv_at hl 1 rfl) ?_
    obtain ⟨ht15, h⟩ := h
    refine xk_Jx4a65c_get_915e3 F C a11 l1 ht15 h ux_502 (Nat.le_of_ble_eq_true rfl) (Nat.le_of_ble_eq_true rfl) hl.1 (by simp [Value.category]) dX11_wants_35 (fun q14 σ13 H locs h C => ?_)
    obtain ⟨a16, ea17, h⟩ := h
    refine xq_nn ea17 ?_
    obtain ⟨ht18, h⟩ := h
    refine kx_cast F C (by rw [ht18]; decide) (kx_e9 ht18) rfl ux_607 dX11_wants_40 ?_
    refine xg_X7_wanted F C ht18 ux_670 (fun _ h9 => h9) dX11_wants_43 ?_
    refine vx_ret ?_
    exact kx_iret F C hr hlocks h dX11_wants_46
  · replace h := h.2 c9
    obtain ⟨hn19, h⟩ := h
    exact kx_throwN (is := 352) hlt (text := "no such order") (by decide +kernel) F C hn19 h hl.1 ux_504 ux_505 dX11_wants_19 dX11_wants_22 dX11_wants_23 dX11_wants_26 dX11_wants_29 hout (Nat.le_of_ble_eq_true rfl) (by simp [Value.category]) hlocks
section
variable {p : Program} {l : Launch} {e : Env} {fr lo c0 : Nat} {s : State} {m : MethodId} {args : Array Value} {below : List Frame} {meth : Method} {c : Code} {H : Heap} {locs : List Loc} {Q : State → Prop}
variable {cc : ByteArray} {pc nL index : Nat} {ls : Array Slot} {rest : List Value} {G : kx_G} {σ : kx_S} {own : String}
theorem xk_X11_wants {P : Int32 → kx_S → Prop} {PX : String → kx_S → Prop} (hlt : l.stackTraces = false) (F : CallFix p m c cc nL s args kt_ own) (C : kx_X G c0 s H locs σ) (l0 : Nat) (l1 : Int32) (ha : xt σ l0 = 13) (h : wX11_wants l0 l1 σ P PX) (hw : Cond.methodLink own index yX11_wants ∈ kt_) (h1 : (6) + 1 ≤ fr) (h2 : 8 + (2 + 11) + (82) ≤ lo) (hsz : ls.size = nL) (hW : (rest.map fun v => v.category).sum ≤ 8) (hdg : decode cc pc = .ok (.invokevirtual index, 3)) (kx : ∀ (E : String) (ce : Cell) (q9 : Addr) (u : kx_S) (H1 : Heap) (locs1 : List Loc), PX E u → kx_X G c0 s H1 locs1 u → H1[q9]? = some ce → ce.vm = .none → s.vm.findClass E = some ce.cls → vx_W p l e (kx_rm fr lo c0) s m args below meth c H1 locs1 (xc u - c0) (600 * (xc u - c0)) Q (F0 m pc ls rest) q9) (kk : ∀ (r : Int32) (u : kx_S) (H1 : Heap) (locs1 : List Loc), P r u → kx_X G c0 s H1 locs1 u → kx_W p l e fr lo c0 s m args below meth c H1 locs1 u Q (F0 m (pc + 3) ls (.int r :: rest))) : kx_W p l e fr lo c0 s m args below meth c H locs σ Q (F0 m pc ls (.int l1 :: .ref l0 :: rest)) :=
  kx_cVX (n := 1) (As := [.int l1]) (Cn := RX11) F C (hx_X11_wants l hlt G l0 l1 σ P PX h) (kt_V hw ux_690 ux_691 ux_117 ux_689) (by decide +kernel) ⟨h1, h2⟩ (kx_recv C (by rw [ha]; decide) (kx_e13 ha) rfl) rfl hsz hW hdg kx (fun v u H1 locs1 hP9 C9 => by obtain ⟨r, hv, hp⟩ := hP9; subst hv; exact kk r u H1 locs1 hp C9)
end
theorem dX11_log_0 : decode cX11_log 0 = .ok (.aload_n 0, 1) := by decide +kernel
theorem dX11_log_1 : decode cX11_log 1 = .ok (.iload_n 1, 1) := by decide +kernel
theorem dX11_log_2 : decode cX11_log 2 = .ok (.invokevirtual 193, 3) := by decide +kernel
theorem dX11_log_5 : decode cX11_log 5 = .ok (.astore_n 3, 1) := by decide +kernel
theorem dX11_log_6 : decode cX11_log 6 = .ok (.iload_n 2, 1) := by decide +kernel
theorem dX11_log_7 : decode cX11_log 7 = .ok (.tableswitch 85 0 7 #[45, 50, 55, 60, 65, 70, 75, 80], 45) := by decide +kernel
theorem dX11_log_52 : decode cX11_log 52 = .ok (.aload_n 3, 1) := by decide +kernel
theorem dX11_log_53 : decode cX11_log 53 = .ok (.getfield 295, 3) := by decide +kernel
theorem dX11_log_56 : decode cX11_log 56 = .ok (.ireturn, 1) := by decide +kernel
theorem dX11_log_57 : decode cX11_log 57 = .ok (.aload_n 3, 1) := by decide +kernel
theorem dX11_log_58 : decode cX11_log 58 = .ok (.getfield 348, 3) := by decide +kernel
theorem dX11_log_61 : decode cX11_log 61 = .ok (.ireturn, 1) := by decide +kernel
theorem dX11_log_62 : decode cX11_log 62 = .ok (.aload_n 3, 1) := by decide +kernel
theorem dX11_log_63 : decode cX11_log 63 = .ok (.getfield 355, 3) := by decide +kernel
theorem dX11_log_66 : decode cX11_log 66 = .ok (.ireturn, 1) := by decide +kernel
theorem dX11_log_67 : decode cX11_log 67 = .ok (.aload_n 3, 1) := by decide +kernel
theorem dX11_log_68 : decode cX11_log 68 = .ok (.getfield 200, 3) := by decide +kernel
theorem dX11_log_71 : decode cX11_log 71 = .ok (.ireturn, 1) := by decide +kernel
theorem dX11_log_72 : decode cX11_log 72 = .ok (.aload_n 3, 1) := by decide +kernel
theorem dX11_log_73 : decode cX11_log 73 = .ok (.getfield 358, 3) := by decide +kernel
theorem dX11_log_76 : decode cX11_log 76 = .ok (.ireturn, 1) := by decide +kernel
theorem dX11_log_77 : decode cX11_log 77 = .ok (.aload_n 3, 1) := by decide +kernel
theorem dX11_log_78 : decode cX11_log 78 = .ok (.getfield 360, 3) := by decide +kernel
theorem dX11_log_81 : decode cX11_log 81 = .ok (.ireturn, 1) := by decide +kernel
theorem dX11_log_82 : decode cX11_log 82 = .ok (.aload_n 3, 1) := by decide +kernel
theorem dX11_log_83 : decode cX11_log 83 = .ok (.getfield 363, 3) := by decide +kernel
theorem dX11_log_86 : decode cX11_log 86 = .ok (.ireturn, 1) := by decide +kernel
theorem dX11_log_87 : decode cX11_log 87 = .ok (.aload_n 3, 1) := by decide +kernel
theorem dX11_log_88 : decode cX11_log 88 = .ok (.getfield 366, 3) := by decide +kernel
theorem dX11_log_91 : decode cX11_log 91 = .ok (.ireturn, 1) := by decide +kernel
theorem dX11_log_92 : decode cX11_log 92 = .ok (.new 350, 3) := by decide +kernel
theorem dX11_log_95 : decode cX11_log 95 = .ok (.dup, 1) := by decide +kernel
theorem dX11_log_96 : decode cX11_log 96 = .ok (.ldc_w 369, 3) := by decide +kernel
theorem dX11_log_99 : decode cX11_log 99 = .ok (.invokespecial 354, 3) := by decide +kernel
theorem dX11_log_102 : decode cX11_log 102 = .ok (.athrow, 1) := by decide +kernel
def wX11_log (l0 : Nat) (l1 : Int32) (l2 : Int32) (σ : kx_S) (Q : Int32 → kx_S → Prop) (QX : String → kx_S → Prop) : Prop := xt σ l0 = 13 ∧ wX11_logAt l0 l1 σ (fun b2 σ1 => ∀ v4, v4 = l2 → ((v4 = 0 → xt σ1 b2 = 8 ∧ Q (xi σ1 129 b2) σ1) ∧
  ((v4 = 1 → xt σ1 b2 = 8 ∧ Q (xi σ1 130 b2) σ1) ∧
  ((v4 = 2 → xt σ1 b2 = 8 ∧ Q (xi σ1 131 b2) σ1) ∧
  ((v4 = 3 → xt σ1 b2 = 8 ∧ Q (xi σ1 132 b2) σ1) ∧
  ((v4 = 4 → xt σ1 b2 = 8 ∧ Q (xi σ1 133 b2) σ1) ∧
  ((v4 = 5 → xt σ1 b2 = 8 ∧ Q (xi σ1 134 b2) σ1) ∧
  ((v4 = 6 → xt σ1 b2 = 8 ∧ Q (xi σ1 135 b2) σ1) ∧
  ((v4 = 7 → xt σ1 b2 = 8 ∧ Q (xi σ1 136 b2) σ1) ∧
  (¬ v4 = 0 → ¬ v4 = 1 → ¬ v4 = 2 → ¬ v4 = 3 → ¬ v4 = 4 → ¬ v4 = 5 → ¬ v4 = 6 → ¬ v4 = 7 → xc σ1 < kx_N ∧ QX pz_N (xbump σ1))))))))))) QX
set_option maxRecDepth 100000 in
set_option maxHeartbeats 4000000 in
theorem hx_X11_log (l : Launch) (hlt : l.stackTraces = false) (G : kx_G) (l0 : Nat) (l1 : Int32) (l2 : Int32) (σ : kx_S) (Q : Int32 → kx_S → Prop) (QX : String → kx_S → Prop) (h : wX11_log l0 l1 l2 σ Q QX) : kx_MX l G yX11_log cX11_log 4 (some .int) (7) (103) [.ref l0, .int l1, .int l2] σ (kx_ri Q) QX := by
  refine kx_enterX (by decide) rfl (Nat.le_of_ble_eq_true rfl) ?_
  intro p e s m below meth c ls F hr hlocks C hout hl
  have hl : lv_has ls 4 [(0, .ref l0), (1, .int l1), (2, .int l2)] := hl
  obtain ⟨H, eH⟩ : ∃ z9, z9 = s.heap := ⟨_, rfl⟩
  obtain ⟨locs, eL⟩ : ∃ z9 : List Loc, z9 = [] := ⟨_, rfl⟩
  rw [← eH, ← eL] at C
  rw [← eH, ← eL]
  obtain ⟨σ0, e0⟩ : ∃ z9, z9 = σ := ⟨_, rfl⟩
  have C : kx_X G (xc σ0) s H locs σ := by rw [e0]; exact C
  suffices hgo : kx_W p l e (7) (103) (xc σ0) s m ([.ref l0, .int l1, .int l2] : List Value).toArray below meth c H locs σ (vx_MQ below (kx_Q G σ0 (kx_ri Q)) (kx_XC G σ0 QX) ([.ref l0, .int l1, .int l2] : List Value).toArray s (kx_N - xc σ0) (600 * (kx_N - xc σ0)) (kx_A G)) (F0 m 0 ls []) by rw [e0] at hgo; exact hgo
  clear e0
  refine lv_aload_n F.1 F.2.1 dX11_log_0 rfl (lv_at hl 0 rfl) ?_
  refine lv_iload_n F.1 F.2.1 dX11_log_1 rfl (lv_at hl 1 rfl) ?_
  obtain ⟨ht3, h⟩ := h
  refine xk_X11_logAt hlt F C l0 l1 ht3 h ux_597 (Nat.le_of_ble_eq_true rfl) (Nat.le_of_ble_eq_true rfl) hl.1 (by simp [Value.category]) dX11_log_2 (fun E9 ce9 q9 σ1 H locs h C hce hcv hcl => kx_out C h hce hcv hcl hout hlocks) (fun b2 σ1 H locs h C => ?_)
  refine lv_astore_n (lv' := [(3, .ref b2), (0, .ref l0), (1, .int l1), (2, .int l2)]) F.1 F.2.1 dX11_log_5 rfl hl (by decide) rfl (fun ls hl => ?_)
  refine lv_iload_n F.1 F.2.1 dX11_log_6 rfl (lv_at hl 3 rfl) ?_
  refine lv_topi (fun v4 ev4 => ?_)
  replace h := h v4 ev4
  by_cases c5 : v4 = 0
  · replace h := h.1 c5
    refine lv_tableIn (off := 45) (tgt := 52) F.1 F.2.1 dX11_log_7 (by rw [c5]; decide) (by rw [c5]; decide) (by rw [c5]; decide) (by decide) ?_
    refine lv_aload_n F.1 F.2.1 dX11_log_52 rfl (lv_at hl 0 rfl) ?_
    obtain ⟨ht6, h⟩ := h
    refine xg_X6_mark F C ht6 ux_623 (fun _ h9 => h9) dX11_log_53 ?_
    refine vx_ret ?_
    exact kx_iret F C hr hlocks h dX11_log_56
  replace h := h.2
  by_cases c7 : v4 = 1
  · replace h := h.1 c7
    refine lv_tableIn (off := 50) (tgt := 57) F.1 F.2.1 dX11_log_7 (by rw [c7]; decide) (by rw [c7]; decide) (by rw [c7]; decide) (by decide) ?_
    refine lv_aload_n F.1 F.2.1 dX11_log_57 rfl (lv_at hl 0 rfl) ?_
    obtain ⟨ht8, h⟩ := h
    refine xg_X6_size F C ht8 ux_669 (fun _ h9 => h9) dX11_log_58 ?_
    refine vx_ret ?_
    exact kx_iret F C hr hlocks h dX11_log_61
  replace h := h.2
  by_cases c9 : v4 = 2
  · replace h := h.1 c9
    refine lv_tableIn (off := 55) (tgt := 62) F.1 F.2.1 dX11_log_7 (by rw [c9]; decide) (by rw [c9]; decide) (by rw [c9]; decide) (by decide) ?_
    refine lv_aload_n F.1 F.2.1 dX11_log_62 rfl (lv_at hl 0 rfl) ?_
    obtain ⟨ht10, h⟩ := h
    refine xg_X6_stump F C ht10 ux_692 (fun _ h9 => h9) dX11_log_63 ?_
    refine vx_ret ?_
    exact kx_iret F C hr hlocks h dX11_log_66
  replace h := h.2
  by_cases c11 : v4 = 3
  · replace h := h.1 c11
    refine lv_tableIn (off := 60) (tgt := 67) F.1 F.2.1 dX11_log_7 (by rw [c11]; decide) (by rw [c11]; decide) (by rw [c11]; decide) (by decide) ?_
    refine lv_aload_n F.1 F.2.1 dX11_log_67 rfl (lv_at hl 0 rfl) ?_
    obtain ⟨ht12, h⟩ := h
    refine xg_X6_place F C ht12 ux_599 (fun _ h9 => h9) dX11_log_68 ?_
    refine vx_ret ?_
    exact kx_iret F C hr hlocks h dX11_log_71
  replace h := h.2
  by_cases c13 : v4 = 4
  · replace h := h.1 c13
    refine lv_tableIn (off := 65) (tgt := 72) F.1 F.2.1 dX11_log_7 (by rw [c13]; decide) (by rw [c13]; decide) (by rw [c13]; decide) (by decide) ?_
    refine lv_aload_n F.1 F.2.1 dX11_log_72 rfl (lv_at hl 0 rfl) ?_
    obtain ⟨ht14, h⟩ := h
    refine xg_X6_reach F C ht14 ux_693 (fun _ h9 => h9) dX11_log_73 ?_
    refine vx_ret ?_
    exact kx_iret F C hr hlocks h dX11_log_76
  replace h := h.2
  by_cases c15 : v4 = 5
  · replace h := h.1 c15
    refine lv_tableIn (off := 70) (tgt := 77) F.1 F.2.1 dX11_log_7 (by rw [c15]; decide) (by rw [c15]; decide) (by rw [c15]; decide) (by decide) ?_
    refine lv_aload_n F.1 F.2.1 dX11_log_77 rfl (lv_at hl 0 rfl) ?_
    obtain ⟨ht16, h⟩ := h
    refine xg_X6_cell F C ht16 ux_694 (fun _ h9 => h9) dX11_log_78 ?_
    refine vx_ret ?_
    exact kx_iret F C hr hlocks h dX11_log_81
  replace h := h.2
  by_cases c17 : v4 = 6
  · replace h := h.1 c17
    refine lv_tableIn (off := 75) (tgt := 82) F.1 F.2.1 dX11_log_7 (by rw [c17]; decide) (by rw [c17]; decide) (by rw [c17]; decide) (by decide) ?_
    refine lv_aload_n F.1 F.2.1 dX11_log_82 rfl (lv_at hl 0 rfl) ?_
    obtain ⟨ht18, h⟩ := h
    refine xg_X6_age F C ht18 ux_695 (fun _ h9 => h9) dX11_log_83 ?_
    refine vx_ret ?_
    exact kx_iret F C hr hlocks h dX11_log_86
  replace h := h.2
  by_cases c19 : v4 = 7
  · replace h := h.1 c19
    refine lv_tableIn (off := 80) (tgt := 87) F.1 F.2.1 dX11_log_7 (by rw [c19]; decide) (by rw [c19]; decide) (by rw [c19]; decide) (by decide) ?_
    refine lv_aload_n F.1 F.2.1 dX11_log_87 rfl (lv_at hl 0 rfl) ?_
    obtain ⟨ht20, h⟩ := h
    refine xg_X6_firstBoard F C ht20 ux_696 (fun _ h9 => h9) dX11_log_88 ?_
    refine vx_ret ?_
    exact kx_iret F C hr hlocks h dX11_log_91
  replace h := h.2
  have ic5 : v4.toInt ≠ 0 := fun h9 => c5 (Int32.toInt_inj.mp (h9.trans (by decide)))
  have ic7 : v4.toInt ≠ 1 := fun h9 => c7 (Int32.toInt_inj.mp (h9.trans (by decide)))
  have ic9 : v4.toInt ≠ 2 := fun h9 => c9 (Int32.toInt_inj.mp (h9.trans (by decide)))
  have ic11 : v4.toInt ≠ 3 := fun h9 => c11 (Int32.toInt_inj.mp (h9.trans (by decide)))
  have ic13 : v4.toInt ≠ 4 := fun h9 => c13 (Int32.toInt_inj.mp (h9.trans (by decide)))
  have ic15 : v4.toInt ≠ 5 := fun h9 => c15 (Int32.toInt_inj.mp (h9.trans (by decide)))
  have ic17 : v4.toInt ≠ 6 := fun h9 => c17 (Int32.toInt_inj.mp (h9.trans (by decide)))
  have ic19 : v4.toInt ≠ 7 := fun h9 => c19 (Int32.toInt_inj.mp (h9.trans (by decide)))
  replace h := h c5 c7 c9 c11 c13 c15 c17 c19
  refine lv_tableOut (tgt := 92) F.1 F.2.1 dX11_log_7 (by omega) (by decide) ?_
  obtain ⟨hn21, h⟩ := h
  exact kx_throwN (is := 369) hlt (text := "a log has no such what") (by decide +kernel) F C hn21 h hl.1 ux_504 ux_505 dX11_log_92 dX11_log_95 dX11_log_96 dX11_log_99 dX11_log_102 hout (Nat.le_of_ble_eq_true rfl) (by simp [Value.category]) hlocks
section
variable {p : Program} {l : Launch} {e : Env} {fr lo c0 : Nat} {s : State} {m : MethodId} {args : Array Value} {below : List Frame} {meth : Method} {c : Code} {H : Heap} {locs : List Loc} {Q : State → Prop}
variable {cc : ByteArray} {pc nL index : Nat} {ls : Array Slot} {rest : List Value} {G : kx_G} {σ : kx_S} {own : String}
theorem xk_X11_log {P : Int32 → kx_S → Prop} {PX : String → kx_S → Prop} (hlt : l.stackTraces = false) (F : CallFix p m c cc nL s args kt_ own) (C : kx_X G c0 s H locs σ) (l0 : Nat) (l1 : Int32) (l2 : Int32) (ha : xt σ l0 = 13) (h : wX11_log l0 l1 l2 σ P PX) (hw : Cond.methodLink own index yX11_log ∈ kt_) (h1 : (7) + 1 ≤ fr) (h2 : 8 + (4 + 11) + (103) ≤ lo) (hsz : ls.size = nL) (hW : (rest.map fun v => v.category).sum ≤ 8) (hdg : decode cc pc = .ok (.invokevirtual index, 3)) (kx : ∀ (E : String) (ce : Cell) (q9 : Addr) (u : kx_S) (H1 : Heap) (locs1 : List Loc), PX E u → kx_X G c0 s H1 locs1 u → H1[q9]? = some ce → ce.vm = .none → s.vm.findClass E = some ce.cls → vx_W p l e (kx_rm fr lo c0) s m args below meth c H1 locs1 (xc u - c0) (600 * (xc u - c0)) Q (F0 m pc ls rest) q9) (kk : ∀ (r : Int32) (u : kx_S) (H1 : Heap) (locs1 : List Loc), P r u → kx_X G c0 s H1 locs1 u → kx_W p l e fr lo c0 s m args below meth c H1 locs1 u Q (F0 m (pc + 3) ls (.int r :: rest))) : kx_W p l e fr lo c0 s m args below meth c H locs σ Q (F0 m pc ls (.int l2 :: .int l1 :: .ref l0 :: rest)) :=
  kx_cVX (n := 2) (As := [.int l1, .int l2]) (Cn := RX11) F C (hx_X11_log l hlt G l0 l1 l2 σ P PX h) (kt_V hw ux_698 ux_699 ux_117 ux_697) (by decide +kernel) ⟨h1, h2⟩ (kx_recv C (by rw [ha]; decide) (kx_e13 ha) rfl) rfl hsz hW hdg kx (fun v u H1 locs1 hP9 C9 => by obtain ⟨r, hv, hp⟩ := hP9; subst hv; exact kk r u H1 locs1 hp C9)
end
theorem dX11_cell_0 : decode cX11_cell 0 = .ok (.aload_n 0, 1) := by decide +kernel
theorem dX11_cell_1 : decode cX11_cell 1 = .ok (.iload_n 1, 1) := by decide +kernel
theorem dX11_cell_2 : decode cX11_cell 2 = .ok (.invokevirtual 93, 3) := by decide +kernel
theorem dX11_cell_5 : decode cX11_cell 5 = .ok (.astore 4, 2) := by decide +kernel
theorem dX11_cell_7 : decode cX11_cell 7 = .ok (.aload 4, 2) := by decide +kernel
theorem dX11_cell_9 : decode cX11_cell 9 = .ok (.iload_n 2, 1) := by decide +kernel
theorem dX11_cell_10 : decode cX11_cell 10 = .ok (.invokestatic 197, 3) := by decide +kernel
theorem dX11_cell_13 : decode cX11_cell 13 = .ok (.aload 4, 2) := by decide +kernel
theorem dX11_cell_15 : decode cX11_cell 15 = .ok (.getfield 78, 3) := by decide +kernel
theorem dX11_cell_18 : decode cX11_cell 18 = .ok (.iload_n 2, 1) := by decide +kernel
theorem dX11_cell_19 : decode cX11_cell 19 = .ok (.invokeinterface 69 2, 5) := by decide +kernel
theorem dX11_cell_24 : decode cX11_cell 24 = .ok (.checkcast 81, 3) := by decide +kernel
theorem dX11_cell_27 : decode cX11_cell 27 = .ok (.astore 5, 2) := by decide +kernel
theorem dX11_cell_29 : decode cX11_cell 29 = .ok (.iload_n 3, 1) := by decide +kernel
theorem dX11_cell_30 : decode cX11_cell 30 = .ok (.tableswitch 65 0 2 #[26, 37, 51], 26) := by decide +kernel
theorem dX11_cell_56 : decode cX11_cell 56 = .ok (.aload 5, 2) := by decide +kernel
theorem dX11_cell_58 : decode cX11_cell 58 = .ok (.getfield 279, 3) := by decide +kernel
theorem dX11_cell_61 : decode cX11_cell 61 = .ok (.invokeinterface 59 1, 5) := by decide +kernel
theorem dX11_cell_66 : decode cX11_cell 66 = .ok (.ireturn, 1) := by decide +kernel
theorem dX11_cell_67 : decode cX11_cell 67 = .ok (.aload 5, 2) := by decide +kernel
theorem dX11_cell_69 : decode cX11_cell 69 = .ok (.getfield 276, 3) := by decide +kernel
theorem dX11_cell_72 : decode cX11_cell 72 = .ok (.ifCond .eq 7, 3) := by decide +kernel
theorem dX11_cell_75 : decode cX11_cell 75 = .ok (.iconst 1, 1) := by decide +kernel
theorem dX11_cell_76 : decode cX11_cell 76 = .ok (.goto 4, 3) := by decide +kernel
theorem dX11_cell_79 : decode cX11_cell 79 = .ok (.iconst 0, 1) := by decide +kernel
theorem dX11_cell_80 : decode cX11_cell 80 = .ok (.ireturn, 1) := by decide +kernel
theorem dX11_cell_81 : decode cX11_cell 81 = .ok (.aload 5, 2) := by decide +kernel
theorem dX11_cell_83 : decode cX11_cell 83 = .ok (.getfield 371, 3) := by decide +kernel
theorem dX11_cell_86 : decode cX11_cell 86 = .ok (.ifCond .eq 7, 3) := by decide +kernel
theorem dX11_cell_89 : decode cX11_cell 89 = .ok (.iconst 1, 1) := by decide +kernel
theorem dX11_cell_90 : decode cX11_cell 90 = .ok (.goto 4, 3) := by decide +kernel
theorem dX11_cell_93 : decode cX11_cell 93 = .ok (.iconst 0, 1) := by decide +kernel
theorem dX11_cell_94 : decode cX11_cell 94 = .ok (.ireturn, 1) := by decide +kernel
theorem dX11_cell_95 : decode cX11_cell 95 = .ok (.new 350, 3) := by decide +kernel
theorem dX11_cell_98 : decode cX11_cell 98 = .ok (.dup, 1) := by decide +kernel
theorem dX11_cell_99 : decode cX11_cell 99 = .ok (.ldc_w 374, 3) := by decide +kernel
theorem dX11_cell_102 : decode cX11_cell 102 = .ok (.invokespecial 354, 3) := by decide +kernel
theorem dX11_cell_105 : decode cX11_cell 105 = .ok (.athrow, 1) := by decide +kernel
def wX11_cell (l0 : Nat) (l1 : Int32) (l2 : Int32) (l3 : Int32) (σ : kx_S) (Q : Int32 → kx_S → Prop) (QX : String → kx_S → Prop) : Prop := xt σ l0 = 13 ∧ wX11_reachAt l0 l1 σ (fun b2 σ1 => wX11_checkCell b2 l2 σ1 (fun σ4 => xt σ4 b2 = 10 ∧ ∃ a6, xr σ4 163 b2 = some a6 ∧ xt σ4 a6 = 1 ∧ wJx4a65c_get_915e3 a6 l2 σ4 (fun q9 σ8 => ∃ a11, q9 = some a11 ∧ xt σ8 a11 = 3 ∧ ∀ v14, v14 = l3 → ((v14 = 0 → ∃ a16, xr σ8 49 a11 = some a16 ∧ xt σ8 a16 = 1 ∧ wJx4a65c_size_8abf5 a16 σ8 (fun r19 σ18 => Q r19 σ18)) ∧
  ((v14 = 1 → (((xi σ8 50 a11) = 0 → Q 0 σ8) ∧
    (¬ ((xi σ8 50 a11) = 0) → Q 1 σ8))) ∧
  ((v14 = 2 → (((xi σ8 51 a11) = 0 → Q 0 σ8) ∧
    (¬ ((xi σ8 51 a11) = 0) → Q 1 σ8))) ∧
  (¬ v14 = 0 → ¬ v14 = 1 → ¬ v14 = 2 → xc σ8 < kx_N ∧ QX pz_N (xbump σ8))))))) QX) QX
set_option maxRecDepth 100000 in
set_option maxHeartbeats 4000000 in
theorem hx_X11_cell (l : Launch) (hlt : l.stackTraces = false) (G : kx_G) (l0 : Nat) (l1 : Int32) (l2 : Int32) (l3 : Int32) (σ : kx_S) (Q : Int32 → kx_S → Prop) (QX : String → kx_S → Prop) (h : wX11_cell l0 l1 l2 l3 σ Q QX) : kx_MX l G yX11_cell cX11_cell 6 (some .int) (7) (103) [.ref l0, .int l1, .int l2, .int l3] σ (kx_ri Q) QX := by
  refine kx_enterX (by decide) rfl (Nat.le_of_ble_eq_true rfl) ?_
  intro p e s m below meth c ls F hr hlocks C hout hl
  have hl : lv_has ls 6 [(0, .ref l0), (1, .int l1), (2, .int l2), (3, .int l3)] := hl
  obtain ⟨H, eH⟩ : ∃ z9, z9 = s.heap := ⟨_, rfl⟩
  obtain ⟨locs, eL⟩ : ∃ z9 : List Loc, z9 = [] := ⟨_, rfl⟩
  rw [← eH, ← eL] at C
  rw [← eH, ← eL]
  obtain ⟨σ0, e0⟩ : ∃ z9, z9 = σ := ⟨_, rfl⟩
  have C : kx_X G (xc σ0) s H locs σ := by rw [e0]; exact C
  suffices hgo : kx_W p l e (7) (103) (xc σ0) s m ([.ref l0, .int l1, .int l2, .int l3] : List Value).toArray below meth c H locs σ (vx_MQ below (kx_Q G σ0 (kx_ri Q)) (kx_XC G σ0 QX) ([.ref l0, .int l1, .int l2, .int l3] : List Value).toArray s (kx_N - xc σ0) (600 * (kx_N - xc σ0)) (kx_A G)) (F0 m 0 ls []) by rw [e0] at hgo; exact hgo
  clear e0
  refine lv_aload_n F.1 F.2.1 dX11_cell_0 rfl (lv_at hl 0 rfl) ?_
  refine lv_iload_n F.1 F.2.1 dX11_cell_1 rfl (lv_at hl 1 rfl) ?_
  obtain ⟨ht3, h⟩ := h
  refine xk_X11_reachAt hlt F C l0 l1 ht3 h ux_527 (Nat.le_of_ble_eq_true rfl) (Nat.le_of_ble_eq_true rfl) hl.1 (by simp [Value.category]) dX11_cell_2 (fun E9 ce9 q9 σ1 H locs h C hce hcv hcl => kx_out C h hce hcv hcl hout hlocks) (fun b2 σ1 H locs h C => ?_)
  refine lv_astore (lv' := [(4, .ref b2), (0, .ref l0), (1, .int l1), (2, .int l2), (3, .int l3)]) F.1 F.2.1 dX11_cell_5 hl (by decide) rfl (fun ls hl => ?_)
  refine lv_aload F.1 F.2.1 dX11_cell_7 (lv_at hl 0 rfl) ?_
  refine lv_iload_n F.1 F.2.1 dX11_cell_9 rfl (lv_at hl 3 rfl) ?_
  refine xk_X11_checkCell hlt F C b2 l2 h ux_598 (Nat.le_of_ble_eq_true rfl) (Nat.le_of_ble_eq_true rfl) hl.1 (by simp [Value.category]) dX11_cell_10 (fun E9 ce9 q9 σ4 H locs h C hce hcv hcl => kx_out C h hce hcv hcl hout hlocks) (fun σ4 H locs h C => ?_)
  refine lv_aload F.1 F.2.1 dX11_cell_13 (lv_at hl 0 rfl) ?_
  obtain ⟨ht5, h⟩ := h
  refine xg_X8_cells F C ht5 ux_513 (fun _ h9 => h9) dX11_cell_15 ?_
  obtain ⟨a6, ea7, h⟩ := h
  refine xq_nn ea7 ?_
  refine lv_iload_n F.1 F.2.1 dX11_cell_18 rfl (lv_at hl 3 rfl) ?_
  obtain ⟨ht10, h⟩ := h
  refine xk_Jx4a65c_get_915e3 F C a6 l2 ht10 h ux_502 (Nat.le_of_ble_eq_true rfl) (Nat.le_of_ble_eq_true rfl) hl.1 (by simp [Value.category]) dX11_cell_19 (fun q9 σ8 H locs h C => ?_)
  obtain ⟨a11, ea12, h⟩ := h
  refine xq_nn ea12 ?_
  obtain ⟨ht13, h⟩ := h
  refine kx_cast F C (by rw [ht13]; decide) (kx_e3 ht13) rfl ux_521 dX11_cell_24 ?_
  refine lv_astore (lv' := [(5, .ref a11), (4, .ref b2), (0, .ref l0), (1, .int l1), (2, .int l2), (3, .int l3)]) F.1 F.2.1 dX11_cell_27 hl (by decide) rfl (fun ls hl => ?_)
  refine lv_iload_n F.1 F.2.1 dX11_cell_29 rfl (lv_at hl 5 rfl) ?_
  refine lv_topi (fun v14 ev14 => ?_)
  replace h := h v14 ev14
  by_cases c15 : v14 = 0
  · replace h := h.1 c15
    refine lv_tableIn (off := 26) (tgt := 56) F.1 F.2.1 dX11_cell_30 (by rw [c15]; decide) (by rw [c15]; decide) (by rw [c15]; decide) (by decide) ?_
    refine lv_aload F.1 F.2.1 dX11_cell_56 (lv_at hl 0 rfl) ?_
    refine xg_X1_logs F C ht13 ux_636 (fun _ h9 => h9) dX11_cell_58 ?_
    obtain ⟨a16, ea17, h⟩ := h
    refine xq_nn ea17 ?_
    obtain ⟨ht20, h⟩ := h
    refine xk_Jx4a65c_size_8abf5 F C a16 ht20 h ux_500 (Nat.le_of_ble_eq_true rfl) (Nat.le_of_ble_eq_true rfl) hl.1 (by simp [Value.category]) dX11_cell_61 (fun r19 σ18 H locs h C => ?_)
    refine vx_ret ?_
    exact kx_iret F C hr hlocks h dX11_cell_66
  replace h := h.2
  by_cases c21 : v14 = 1
  · replace h := h.1 c21
    refine lv_tableIn (off := 37) (tgt := 67) F.1 F.2.1 dX11_cell_30 (by rw [c21]; decide) (by rw [c21]; decide) (by rw [c21]; decide) (by decide) ?_
    refine lv_aload F.1 F.2.1 dX11_cell_67 (lv_at hl 0 rfl) ?_
    refine xg_X1_jammed F C ht13 ux_639 (fun _ h9 => h9) dX11_cell_69 ?_
    refine lv_if_eq (tgt := 79) F.1 F.2.1 dX11_cell_72 (by decide) (fun c22 => ?_) (fun c22 => ?_)
    · replace h := h.1 c22
      refine lv_iconst (v := 0) F.1 F.2.1 dX11_cell_79 (by decide) ?_
      refine vx_ret ?_
      exact kx_iret F C hr hlocks h dX11_cell_80
    · replace h := h.2 c22
      refine lv_iconst (v := 1) F.1 F.2.1 dX11_cell_75 (by decide) ?_
      refine lv_goto (tgt := 80) F.1 F.2.1 dX11_cell_76 (by decide) ?_
      refine vx_ret ?_
      exact kx_iret F C hr hlocks h dX11_cell_80
  replace h := h.2
  by_cases c23 : v14 = 2
  · replace h := h.1 c23
    refine lv_tableIn (off := 51) (tgt := 81) F.1 F.2.1 dX11_cell_30 (by rw [c23]; decide) (by rw [c23]; decide) (by rw [c23]; decide) (by decide) ?_
    refine lv_aload F.1 F.2.1 dX11_cell_81 (lv_at hl 0 rfl) ?_
    refine xg_X1_known F C ht13 ux_700 (fun _ h9 => h9) dX11_cell_83 ?_
    refine lv_if_eq (tgt := 93) F.1 F.2.1 dX11_cell_86 (by decide) (fun c24 => ?_) (fun c24 => ?_)
    · replace h := h.1 c24
      refine lv_iconst (v := 0) F.1 F.2.1 dX11_cell_93 (by decide) ?_
      refine vx_ret ?_
      exact kx_iret F C hr hlocks h dX11_cell_94
    · replace h := h.2 c24
      refine lv_iconst (v := 1) F.1 F.2.1 dX11_cell_89 (by decide) ?_
      refine lv_goto (tgt := 94) F.1 F.2.1 dX11_cell_90 (by decide) ?_
      refine vx_ret ?_
      exact kx_iret F C hr hlocks h dX11_cell_94
  replace h := h.2
  have ic15 : v14.toInt ≠ 0 := fun h9 => c15 (Int32.toInt_inj.mp (h9.trans (by decide)))
  have ic21 : v14.toInt ≠ 1 := fun h9 => c21 (Int32.toInt_inj.mp (h9.trans (by decide)))
  have ic23 : v14.toInt ≠ 2 := fun h9 => c23 (Int32.toInt_inj.mp (h9.trans (by decide)))
  replace h := h c15 c21 c23
  refine lv_tableOut (tgt := 95) F.1 F.2.1 dX11_cell_30 (by omega) (by decide) ?_
  obtain ⟨hn25, h⟩ := h
  exact kx_throwN (is := 374) hlt (text := "a cell has no such what") (by decide +kernel) F C hn25 h hl.1 ux_504 ux_505 dX11_cell_95 dX11_cell_98 dX11_cell_99 dX11_cell_102 dX11_cell_105 hout (Nat.le_of_ble_eq_true rfl) (by simp [Value.category]) hlocks
section
variable {p : Program} {l : Launch} {e : Env} {fr lo c0 : Nat} {s : State} {m : MethodId} {args : Array Value} {below : List Frame} {meth : Method} {c : Code} {H : Heap} {locs : List Loc} {Q : State → Prop}
variable {cc : ByteArray} {pc nL index : Nat} {ls : Array Slot} {rest : List Value} {G : kx_G} {σ : kx_S} {own : String}
theorem xk_X11_cell {P : Int32 → kx_S → Prop} {PX : String → kx_S → Prop} (hlt : l.stackTraces = false) (F : CallFix p m c cc nL s args kt_ own) (C : kx_X G c0 s H locs σ) (l0 : Nat) (l1 : Int32) (l2 : Int32) (l3 : Int32) (ha : xt σ l0 = 13) (h : wX11_cell l0 l1 l2 l3 σ P PX) (hw : Cond.methodLink own index yX11_cell ∈ kt_) (h1 : (7) + 1 ≤ fr) (h2 : 8 + (6 + 11) + (103) ≤ lo) (hsz : ls.size = nL) (hW : (rest.map fun v => v.category).sum ≤ 8) (hdg : decode cc pc = .ok (.invokevirtual index, 3)) (kx : ∀ (E : String) (ce : Cell) (q9 : Addr) (u : kx_S) (H1 : Heap) (locs1 : List Loc), PX E u → kx_X G c0 s H1 locs1 u → H1[q9]? = some ce → ce.vm = .none → s.vm.findClass E = some ce.cls → vx_W p l e (kx_rm fr lo c0) s m args below meth c H1 locs1 (xc u - c0) (600 * (xc u - c0)) Q (F0 m pc ls rest) q9) (kk : ∀ (r : Int32) (u : kx_S) (H1 : Heap) (locs1 : List Loc), P r u → kx_X G c0 s H1 locs1 u → kx_W p l e fr lo c0 s m args below meth c H1 locs1 u Q (F0 m (pc + 3) ls (.int r :: rest))) : kx_W p l e fr lo c0 s m args below meth c H locs σ Q (F0 m pc ls (.int l3 :: .int l2 :: .int l1 :: .ref l0 :: rest)) :=
  kx_cVX (n := 3) (As := [.int l1, .int l2, .int l3]) (Cn := RX11) F C (hx_X11_cell l hlt G l0 l1 l2 l3 σ P PX h) (kt_V hw ux_702 ux_703 ux_117 ux_701) (by decide +kernel) ⟨h1, h2⟩ (kx_recv C (by rw [ha]; decide) (kx_e13 ha) rfl) rfl hsz hW hdg kx (fun v u H1 locs1 hP9 C9 => by obtain ⟨r, hv, hp⟩ := hP9; subst hv; exact kk r u H1 locs1 hp C9)
end
theorem dX11_inCell_0 : decode cX11_inCell 0 = .ok (.aload_n 0, 1) := by decide +kernel
theorem dX11_inCell_1 : decode cX11_inCell 1 = .ok (.iload_n 1, 1) := by decide +kernel
theorem dX11_inCell_2 : decode cX11_inCell 2 = .ok (.invokevirtual 93, 3) := by decide +kernel
theorem dX11_inCell_5 : decode cX11_inCell 5 = .ok (.astore 4, 2) := by decide +kernel
theorem dX11_inCell_7 : decode cX11_inCell 7 = .ok (.aload 4, 2) := by decide +kernel
theorem dX11_inCell_9 : decode cX11_inCell 9 = .ok (.iload_n 2, 1) := by decide +kernel
theorem dX11_inCell_10 : decode cX11_inCell 10 = .ok (.invokestatic 197, 3) := by decide +kernel
theorem dX11_inCell_13 : decode cX11_inCell 13 = .ok (.aload 4, 2) := by decide +kernel
theorem dX11_inCell_15 : decode cX11_inCell 15 = .ok (.getfield 78, 3) := by decide +kernel
theorem dX11_inCell_18 : decode cX11_inCell 18 = .ok (.iload_n 2, 1) := by decide +kernel
theorem dX11_inCell_19 : decode cX11_inCell 19 = .ok (.invokeinterface 69 2, 5) := by decide +kernel
theorem dX11_inCell_24 : decode cX11_inCell 24 = .ok (.checkcast 81, 3) := by decide +kernel
theorem dX11_inCell_27 : decode cX11_inCell 27 = .ok (.getfield 279, 3) := by decide +kernel
theorem dX11_inCell_30 : decode cX11_inCell 30 = .ok (.iload_n 3, 1) := by decide +kernel
theorem dX11_inCell_31 : decode cX11_inCell 31 = .ok (.invokestatic 376, 3) := by decide +kernel
theorem dX11_inCell_34 : decode cX11_inCell 34 = .ok (.ireturn, 1) := by decide +kernel
def wX11_inCell (l0 : Nat) (l1 : Int32) (l2 : Int32) (l3 : Int32) (σ : kx_S) (Q : Int32 → kx_S → Prop) (QX : String → kx_S → Prop) : Prop := xt σ l0 = 13 ∧ wX11_reachAt l0 l1 σ (fun b2 σ1 => wX11_checkCell b2 l2 σ1 (fun σ4 => xt σ4 b2 = 10 ∧ ∃ a6, xr σ4 163 b2 = some a6 ∧ xt σ4 a6 = 1 ∧ wJx4a65c_get_915e3 a6 l2 σ4 (fun q9 σ8 => ∃ a11, q9 = some a11 ∧ xt σ8 a11 = 3 ∧ ∃ a14, xr σ8 49 a11 = some a14 ∧ wX11_numberAt a14 l3 σ8 (fun r17 σ16 => Q r17 σ16))) QX) QX
set_option maxRecDepth 100000 in
set_option maxHeartbeats 4000000 in
theorem hx_X11_inCell (l : Launch) (hlt : l.stackTraces = false) (G : kx_G) (l0 : Nat) (l1 : Int32) (l2 : Int32) (l3 : Int32) (σ : kx_S) (Q : Int32 → kx_S → Prop) (QX : String → kx_S → Prop) (h : wX11_inCell l0 l1 l2 l3 σ Q QX) : kx_MX l G yX11_inCell cX11_inCell 5 (some .int) (7) (103) [.ref l0, .int l1, .int l2, .int l3] σ (kx_ri Q) QX := by
  refine kx_enterX (by decide) rfl (Nat.le_of_ble_eq_true rfl) ?_
  intro p e s m below meth c ls F hr hlocks C hout hl
  have hl : lv_has ls 5 [(0, .ref l0), (1, .int l1), (2, .int l2), (3, .int l3)] := hl
  obtain ⟨H, eH⟩ : ∃ z9, z9 = s.heap := ⟨_, rfl⟩
  obtain ⟨locs, eL⟩ : ∃ z9 : List Loc, z9 = [] := ⟨_, rfl⟩
  rw [← eH, ← eL] at C
  rw [← eH, ← eL]
  obtain ⟨σ0, e0⟩ : ∃ z9, z9 = σ := ⟨_, rfl⟩
  have C : kx_X G (xc σ0) s H locs σ := by rw [e0]; exact C
  suffices hgo : kx_W p l e (7) (103) (xc σ0) s m ([.ref l0, .int l1, .int l2, .int l3] : List Value).toArray below meth c H locs σ (vx_MQ below (kx_Q G σ0 (kx_ri Q)) (kx_XC G σ0 QX) ([.ref l0, .int l1, .int l2, .int l3] : List Value).toArray s (kx_N - xc σ0) (600 * (kx_N - xc σ0)) (kx_A G)) (F0 m 0 ls []) by rw [e0] at hgo; exact hgo
  clear e0
  refine lv_aload_n F.1 F.2.1 dX11_inCell_0 rfl (lv_at hl 0 rfl) ?_
  refine lv_iload_n F.1 F.2.1 dX11_inCell_1 rfl (lv_at hl 1 rfl) ?_
  obtain ⟨ht3, h⟩ := h
  refine xk_X11_reachAt hlt F C l0 l1 ht3 h ux_527 (Nat.le_of_ble_eq_true rfl) (Nat.le_of_ble_eq_true rfl) hl.1 (by simp [Value.category]) dX11_inCell_2 (fun E9 ce9 q9 σ1 H locs h C hce hcv hcl => kx_out C h hce hcv hcl hout hlocks) (fun b2 σ1 H locs h C => ?_)
  refine lv_astore (lv' := [(4, .ref b2), (0, .ref l0), (1, .int l1), (2, .int l2), (3, .int l3)]) F.1 F.2.1 dX11_inCell_5 hl (by decide) rfl (fun ls hl => ?_)
  refine lv_aload F.1 F.2.1 dX11_inCell_7 (lv_at hl 0 rfl) ?_
  refine lv_iload_n F.1 F.2.1 dX11_inCell_9 rfl (lv_at hl 3 rfl) ?_
  refine xk_X11_checkCell hlt F C b2 l2 h ux_598 (Nat.le_of_ble_eq_true rfl) (Nat.le_of_ble_eq_true rfl) hl.1 (by simp [Value.category]) dX11_inCell_10 (fun E9 ce9 q9 σ4 H locs h C hce hcv hcl => kx_out C h hce hcv hcl hout hlocks) (fun σ4 H locs h C => ?_)
  refine lv_aload F.1 F.2.1 dX11_inCell_13 (lv_at hl 0 rfl) ?_
  obtain ⟨ht5, h⟩ := h
  refine xg_X8_cells F C ht5 ux_513 (fun _ h9 => h9) dX11_inCell_15 ?_
  obtain ⟨a6, ea7, h⟩ := h
  refine xq_nn ea7 ?_
  refine lv_iload_n F.1 F.2.1 dX11_inCell_18 rfl (lv_at hl 3 rfl) ?_
  obtain ⟨ht10, h⟩ := h
  refine xk_Jx4a65c_get_915e3 F C a6 l2 ht10 h ux_502 (Nat.le_of_ble_eq_true rfl) (Nat.le_of_ble_eq_true rfl) hl.1 (by simp [Value.category]) dX11_inCell_19 (fun q9 σ8 H locs h C => ?_)
  obtain ⟨a11, ea12, h⟩ := h
  refine xq_nn ea12 ?_
  obtain ⟨ht13, h⟩ := h
  refine kx_cast F C (by rw [ht13]; decide) (kx_e3 ht13) rfl ux_521 dX11_inCell_24 ?_
  refine xg_X1_logs F C ht13 ux_636 (fun _ h9 => h9) dX11_inCell_27 ?_
  obtain ⟨a14, ea15, h⟩ := h
  refine xq_nn ea15 ?_
  refine lv_iload_n F.1 F.2.1 dX11_inCell_30 rfl (lv_at hl 4 rfl) ?_
  refine xk_X11_numberAt F C a14 l3 h ux_704 (Nat.le_of_ble_eq_true rfl) (Nat.le_of_ble_eq_true rfl) hl.1 (by simp [Value.category]) dX11_inCell_31 (fun r17 σ16 H locs h C => ?_)
  refine vx_ret ?_
  exact kx_iret F C hr hlocks h dX11_inCell_34
section
variable {p : Program} {l : Launch} {e : Env} {fr lo c0 : Nat} {s : State} {m : MethodId} {args : Array Value} {below : List Frame} {meth : Method} {c : Code} {H : Heap} {locs : List Loc} {Q : State → Prop}
variable {cc : ByteArray} {pc nL index : Nat} {ls : Array Slot} {rest : List Value} {G : kx_G} {σ : kx_S} {own : String}
theorem xk_X11_inCell {P : Int32 → kx_S → Prop} {PX : String → kx_S → Prop} (hlt : l.stackTraces = false) (F : CallFix p m c cc nL s args kt_ own) (C : kx_X G c0 s H locs σ) (l0 : Nat) (l1 : Int32) (l2 : Int32) (l3 : Int32) (ha : xt σ l0 = 13) (h : wX11_inCell l0 l1 l2 l3 σ P PX) (hw : Cond.methodLink own index yX11_inCell ∈ kt_) (h1 : (7) + 1 ≤ fr) (h2 : 8 + (5 + 11) + (103) ≤ lo) (hsz : ls.size = nL) (hW : (rest.map fun v => v.category).sum ≤ 8) (hdg : decode cc pc = .ok (.invokevirtual index, 3)) (kx : ∀ (E : String) (ce : Cell) (q9 : Addr) (u : kx_S) (H1 : Heap) (locs1 : List Loc), PX E u → kx_X G c0 s H1 locs1 u → H1[q9]? = some ce → ce.vm = .none → s.vm.findClass E = some ce.cls → vx_W p l e (kx_rm fr lo c0) s m args below meth c H1 locs1 (xc u - c0) (600 * (xc u - c0)) Q (F0 m pc ls rest) q9) (kk : ∀ (r : Int32) (u : kx_S) (H1 : Heap) (locs1 : List Loc), P r u → kx_X G c0 s H1 locs1 u → kx_W p l e fr lo c0 s m args below meth c H1 locs1 u Q (F0 m (pc + 3) ls (.int r :: rest))) : kx_W p l e fr lo c0 s m args below meth c H locs σ Q (F0 m pc ls (.int l3 :: .int l2 :: .int l1 :: .ref l0 :: rest)) :=
  kx_cVX (n := 3) (As := [.int l1, .int l2, .int l3]) (Cn := RX11) F C (hx_X11_inCell l hlt G l0 l1 l2 l3 σ P PX h) (kt_V hw ux_706 ux_707 ux_117 ux_705) (by decide +kernel) ⟨h1, h2⟩ (kx_recv C (by rw [ha]; decide) (kx_e13 ha) rfl) rfl hsz hW hdg kx (fun v u H1 locs1 hP9 C9 => by obtain ⟨r, hv, hp⟩ := hP9; subst hv; exact kk r u H1 locs1 hp C9)
end
theorem dX11_heap_0 : decode cX11_heap 0 = .ok (.aload_n 0, 1) := by decide +kernel
theorem dX11_heap_1 : decode cX11_heap 1 = .ok (.iload_n 1, 1) := by decide +kernel
theorem dX11_heap_2 : decode cX11_heap 2 = .ok (.invokevirtual 93, 3) := by decide +kernel
theorem dX11_heap_5 : decode cX11_heap 5 = .ok (.astore_n 3, 1) := by decide +kernel
theorem dX11_heap_6 : decode cX11_heap 6 = .ok (.aload_n 3, 1) := by decide +kernel
theorem dX11_heap_7 : decode cX11_heap 7 = .ok (.getfield 111, 3) := by decide +kernel
theorem dX11_heap_10 : decode cX11_heap 10 = .ok (.ifnonnull 5, 3) := by decide +kernel
theorem dX11_heap_13 : decode cX11_heap 13 = .ok (.iconst (-1), 1) := by decide +kernel
theorem dX11_heap_14 : decode cX11_heap 14 = .ok (.ireturn, 1) := by decide +kernel
theorem dX11_heap_15 : decode cX11_heap 15 = .ok (.iload_n 2, 1) := by decide +kernel
theorem dX11_heap_16 : decode cX11_heap 16 = .ok (.iconst (-1), 1) := by decide +kernel
theorem dX11_heap_17 : decode cX11_heap 17 = .ok (.if_icmp .ne 18, 3) := by decide +kernel
theorem dX11_heap_20 : decode cX11_heap 20 = .ok (.aload_n 3, 1) := by decide +kernel
theorem dX11_heap_21 : decode cX11_heap 21 = .ok (.getfield 111, 3) := by decide +kernel
theorem dX11_heap_24 : decode cX11_heap 24 = .ok (.getfield 301, 3) := by decide +kernel
theorem dX11_heap_27 : decode cX11_heap 27 = .ok (.invokeinterface 59 1, 5) := by decide +kernel
theorem dX11_heap_32 : decode cX11_heap 32 = .ok (.goto 14, 3) := by decide +kernel
theorem dX11_heap_35 : decode cX11_heap 35 = .ok (.aload_n 3, 1) := by decide +kernel
theorem dX11_heap_36 : decode cX11_heap 36 = .ok (.getfield 111, 3) := by decide +kernel
theorem dX11_heap_39 : decode cX11_heap 39 = .ok (.getfield 301, 3) := by decide +kernel
theorem dX11_heap_42 : decode cX11_heap 42 = .ok (.iload_n 2, 1) := by decide +kernel
theorem dX11_heap_43 : decode cX11_heap 43 = .ok (.invokestatic 376, 3) := by decide +kernel
theorem dX11_heap_46 : decode cX11_heap 46 = .ok (.ireturn, 1) := by decide +kernel
def wX11_heap (l0 : Nat) (l1 : Int32) (l2 : Int32) (σ : kx_S) (Q : Int32 → kx_S → Prop) (QX : String → kx_S → Prop) : Prop := xt σ l0 = 13 ∧ wX11_reachAt l0 l1 σ (fun b2 σ1 => xt σ1 b2 = 10 ∧ ((∀ a6, xr σ1 172 b2 = some a6 → ((¬ l2 = (-1) → ∃ a8, xr σ1 172 b2 = some a8 ∧ xt σ1 a8 = 2 ∧ ∃ a11, xr σ1 32 a8 = some a11 ∧ wX11_numberAt a11 l2 σ1 (fun r14 σ13 => Q r14 σ13)) ∧
    (l2 = (-1) → ∃ a15, xr σ1 172 b2 = some a15 ∧ xt σ1 a15 = 2 ∧ ∃ a18, xr σ1 32 a15 = some a18 ∧ xt σ1 a18 = 1 ∧ wJx4a65c_size_8abf5 a18 σ1 (fun r21 σ20 => Q r21 σ20)))) ∧
  (xr σ1 172 b2 = none → Q (-1) σ1))) QX
set_option maxRecDepth 100000 in
set_option maxHeartbeats 4000000 in
theorem hx_X11_heap (l : Launch) (hlt : l.stackTraces = false) (G : kx_G) (l0 : Nat) (l1 : Int32) (l2 : Int32) (σ : kx_S) (Q : Int32 → kx_S → Prop) (QX : String → kx_S → Prop) (h : wX11_heap l0 l1 l2 σ Q QX) : kx_MX l G yX11_heap cX11_heap 4 (some .int) (7) (103) [.ref l0, .int l1, .int l2] σ (kx_ri Q) QX := by
  refine kx_enterX (by decide) rfl (Nat.le_of_ble_eq_true rfl) ?_
  intro p e s m below meth c ls F hr hlocks C hout hl
  have hl : lv_has ls 4 [(0, .ref l0), (1, .int l1), (2, .int l2)] := hl
  obtain ⟨H, eH⟩ : ∃ z9, z9 = s.heap := ⟨_, rfl⟩
  obtain ⟨locs, eL⟩ : ∃ z9 : List Loc, z9 = [] := ⟨_, rfl⟩
  rw [← eH, ← eL] at C
  rw [← eH, ← eL]
  obtain ⟨σ0, e0⟩ : ∃ z9, z9 = σ := ⟨_, rfl⟩
  have C : kx_X G (xc σ0) s H locs σ := by rw [e0]; exact C
  suffices hgo : kx_W p l e (7) (103) (xc σ0) s m ([.ref l0, .int l1, .int l2] : List Value).toArray below meth c H locs σ (vx_MQ below (kx_Q G σ0 (kx_ri Q)) (kx_XC G σ0 QX) ([.ref l0, .int l1, .int l2] : List Value).toArray s (kx_N - xc σ0) (600 * (kx_N - xc σ0)) (kx_A G)) (F0 m 0 ls []) by rw [e0] at hgo; exact hgo
  clear e0
  refine lv_aload_n F.1 F.2.1 dX11_heap_0 rfl (lv_at hl 0 rfl) ?_
  refine lv_iload_n F.1 F.2.1 dX11_heap_1 rfl (lv_at hl 1 rfl) ?_
  obtain ⟨ht3, h⟩ := h
  refine xk_X11_reachAt hlt F C l0 l1 ht3 h ux_527 (Nat.le_of_ble_eq_true rfl) (Nat.le_of_ble_eq_true rfl) hl.1 (by simp [Value.category]) dX11_heap_2 (fun E9 ce9 q9 σ1 H locs h C hce hcv hcl => kx_out C h hce hcv hcl hout hlocks) (fun b2 σ1 H locs h C => ?_)
  refine lv_astore_n (lv' := [(3, .ref b2), (0, .ref l0), (1, .int l1), (2, .int l2)]) F.1 F.2.1 dX11_heap_5 rfl hl (by decide) rfl (fun ls hl => ?_)
  refine lv_aload_n F.1 F.2.1 dX11_heap_6 rfl (lv_at hl 0 rfl) ?_
  obtain ⟨ht4, h⟩ := h
  refine xg_X8_boom F C ht4 ux_542 (fun _ h9 => h9) dX11_heap_7 ?_
  refine xq_ifnonnull (tgt := 15) F.1 F.2.1 dX11_heap_10 (by decide) (fun a6 c5 => ?_) (fun c5 => ?_)
  · replace h := h.1 a6 c5
    refine lv_iload_n F.1 F.2.1 dX11_heap_15 rfl (lv_at hl 3 rfl) ?_
    refine lv_iconst (v := (-1)) F.1 F.2.1 dX11_heap_16 (by decide) ?_
    refine lv_icmp_ne (tgt := 35) F.1 F.2.1 dX11_heap_17 (by decide) (fun c7 => ?_) (fun c7 => ?_)
    · replace h := h.1 c7
      refine lv_aload_n F.1 F.2.1 dX11_heap_35 rfl (lv_at hl 0 rfl) ?_
      refine xg_X8_boom F C ht4 ux_542 (fun _ h9 => h9) dX11_heap_36 ?_
      obtain ⟨a8, ea9, h⟩ := h
      refine xq_nn ea9 ?_
      obtain ⟨ht10, h⟩ := h
      refine xg_X0_heap F C ht10 ux_625 (fun _ h9 => h9) dX11_heap_39 ?_
      obtain ⟨a11, ea12, h⟩ := h
      refine xq_nn ea12 ?_
      refine lv_iload_n F.1 F.2.1 dX11_heap_42 rfl (lv_at hl 3 rfl) ?_
      refine xk_X11_numberAt F C a11 l2 h ux_704 (Nat.le_of_ble_eq_true rfl) (Nat.le_of_ble_eq_true rfl) hl.1 (by simp [Value.category]) dX11_heap_43 (fun r14 σ13 H locs h C => ?_)
      refine vx_ret ?_
      exact kx_iret F C hr hlocks h dX11_heap_46
    · replace h := h.2 c7
      refine lv_aload_n F.1 F.2.1 dX11_heap_20 rfl (lv_at hl 0 rfl) ?_
      refine xg_X8_boom F C ht4 ux_542 (fun _ h9 => h9) dX11_heap_21 ?_
      obtain ⟨a15, ea16, h⟩ := h
      refine xq_nn ea16 ?_
      obtain ⟨ht17, h⟩ := h
      refine xg_X0_heap F C ht17 ux_625 (fun _ h9 => h9) dX11_heap_24 ?_
      obtain ⟨a18, ea19, h⟩ := h
      refine xq_nn ea19 ?_
      obtain ⟨ht22, h⟩ := h
      refine xk_Jx4a65c_size_8abf5 F C a18 ht22 h ux_500 (Nat.le_of_ble_eq_true rfl) (Nat.le_of_ble_eq_true rfl) hl.1 (by simp [Value.category]) dX11_heap_27 (fun r21 σ20 H locs h C => ?_)
      refine lv_goto (tgt := 46) F.1 F.2.1 dX11_heap_32 (by decide) ?_
      refine vx_ret ?_
      exact kx_iret F C hr hlocks h dX11_heap_46
  · replace h := h.2 c5
    refine lv_iconst (v := (-1)) F.1 F.2.1 dX11_heap_13 (by decide) ?_
    refine vx_ret ?_
    exact kx_iret F C hr hlocks h dX11_heap_14
section
variable {p : Program} {l : Launch} {e : Env} {fr lo c0 : Nat} {s : State} {m : MethodId} {args : Array Value} {below : List Frame} {meth : Method} {c : Code} {H : Heap} {locs : List Loc} {Q : State → Prop}
variable {cc : ByteArray} {pc nL index : Nat} {ls : Array Slot} {rest : List Value} {G : kx_G} {σ : kx_S} {own : String}
theorem xk_X11_heap {P : Int32 → kx_S → Prop} {PX : String → kx_S → Prop} (hlt : l.stackTraces = false) (F : CallFix p m c cc nL s args kt_ own) (C : kx_X G c0 s H locs σ) (l0 : Nat) (l1 : Int32) (l2 : Int32) (ha : xt σ l0 = 13) (h : wX11_heap l0 l1 l2 σ P PX) (hw : Cond.methodLink own index yX11_heap ∈ kt_) (h1 : (7) + 1 ≤ fr) (h2 : 8 + (4 + 11) + (103) ≤ lo) (hsz : ls.size = nL) (hW : (rest.map fun v => v.category).sum ≤ 8) (hdg : decode cc pc = .ok (.invokevirtual index, 3)) (kx : ∀ (E : String) (ce : Cell) (q9 : Addr) (u : kx_S) (H1 : Heap) (locs1 : List Loc), PX E u → kx_X G c0 s H1 locs1 u → H1[q9]? = some ce → ce.vm = .none → s.vm.findClass E = some ce.cls → vx_W p l e (kx_rm fr lo c0) s m args below meth c H1 locs1 (xc u - c0) (600 * (xc u - c0)) Q (F0 m pc ls rest) q9) (kk : ∀ (r : Int32) (u : kx_S) (H1 : Heap) (locs1 : List Loc), P r u → kx_X G c0 s H1 locs1 u → kx_W p l e fr lo c0 s m args below meth c H1 locs1 u Q (F0 m (pc + 3) ls (.int r :: rest))) : kx_W p l e fr lo c0 s m args below meth c H locs σ Q (F0 m pc ls (.int l2 :: .int l1 :: .ref l0 :: rest)) :=
  kx_cVX (n := 2) (As := [.int l1, .int l2]) (Cn := RX11) F C (hx_X11_heap l hlt G l0 l1 l2 σ P PX h) (kt_V hw ux_709 ux_710 ux_117 ux_708) (by decide +kernel) ⟨h1, h2⟩ (kx_recv C (by rw [ha]; decide) (kx_e13 ha) rfl) rfl hsz hW hdg kx (fun v u H1 locs1 hP9 C9 => by obtain ⟨r, hv, hp⟩ := hP9; subst hv; exact kk r u H1 locs1 hp C9)
end
theorem dX11_water_0 : decode cX11_water 0 = .ok (.aload_n 0, 1) := by decide +kernel
theorem dX11_water_1 : decode cX11_water 1 = .ok (.iload_n 1, 1) := by decide +kernel
theorem dX11_water_2 : decode cX11_water 2 = .ok (.invokevirtual 93, 3) := by decide +kernel
theorem dX11_water_5 : decode cX11_water 5 = .ok (.astore_n 3, 1) := by decide +kernel
theorem dX11_water_6 : decode cX11_water 6 = .ok (.iload_n 2, 1) := by decide +kernel
theorem dX11_water_7 : decode cX11_water 7 = .ok (.tableswitch 88 0 4 #[33, 38, 43, 59, 78], 33) := by decide +kernel
theorem dX11_water_40 : decode cX11_water 40 = .ok (.aload_n 3, 1) := by decide +kernel
theorem dX11_water_41 : decode cX11_water 41 = .ok (.getfield 247, 3) := by decide +kernel
theorem dX11_water_44 : decode cX11_water 44 = .ok (.ireturn, 1) := by decide +kernel
theorem dX11_water_45 : decode cX11_water 45 = .ok (.aload_n 3, 1) := by decide +kernel
theorem dX11_water_46 : decode cX11_water 46 = .ok (.getfield 263, 3) := by decide +kernel
theorem dX11_water_49 : decode cX11_water 49 = .ok (.ireturn, 1) := by decide +kernel
theorem dX11_water_50 : decode cX11_water 50 = .ok (.aload_n 3, 1) := by decide +kernel
theorem dX11_water_51 : decode cX11_water 51 = .ok (.getfield 98, 3) := by decide +kernel
theorem dX11_water_54 : decode cX11_water 54 = .ok (.ifCond .eq 10, 3) := by decide +kernel
theorem dX11_water_57 : decode cX11_water 57 = .ok (.aload_n 3, 1) := by decide +kernel
theorem dX11_water_58 : decode cX11_water 58 = .ok (.getfield 380, 3) := by decide +kernel
theorem dX11_water_61 : decode cX11_water 61 = .ok (.goto 4, 3) := by decide +kernel
theorem dX11_water_64 : decode cX11_water 64 = .ok (.iconst (-1), 1) := by decide +kernel
theorem dX11_water_65 : decode cX11_water 65 = .ok (.ireturn, 1) := by decide +kernel
theorem dX11_water_66 : decode cX11_water 66 = .ok (.aload_n 3, 1) := by decide +kernel
theorem dX11_water_67 : decode cX11_water 67 = .ok (.getfield 257, 3) := by decide +kernel
theorem dX11_water_70 : decode cX11_water 70 = .ok (.ifnonnull 7, 3) := by decide +kernel
theorem dX11_water_73 : decode cX11_water 73 = .ok (.iconst (-1), 1) := by decide +kernel
theorem dX11_water_74 : decode cX11_water 74 = .ok (.goto 10, 3) := by decide +kernel
theorem dX11_water_77 : decode cX11_water 77 = .ok (.aload_n 3, 1) := by decide +kernel
theorem dX11_water_78 : decode cX11_water 78 = .ok (.getfield 257, 3) := by decide +kernel
theorem dX11_water_81 : decode cX11_water 81 = .ok (.getfield 90, 3) := by decide +kernel
theorem dX11_water_84 : decode cX11_water 84 = .ok (.ireturn, 1) := by decide +kernel
theorem dX11_water_85 : decode cX11_water 85 = .ok (.aload_n 3, 1) := by decide +kernel
theorem dX11_water_86 : decode cX11_water 86 = .ok (.getfield 78, 3) := by decide +kernel
theorem dX11_water_89 : decode cX11_water 89 = .ok (.invokeinterface 59 1, 5) := by decide +kernel
theorem dX11_water_94 : decode cX11_water 94 = .ok (.ireturn, 1) := by decide +kernel
theorem dX11_water_95 : decode cX11_water 95 = .ok (.new 350, 3) := by decide +kernel
theorem dX11_water_98 : decode cX11_water 98 = .ok (.dup, 1) := by decide +kernel
theorem dX11_water_99 : decode cX11_water 99 = .ok (.ldc_w 383, 3) := by decide +kernel
theorem dX11_water_102 : decode cX11_water 102 = .ok (.invokespecial 354, 3) := by decide +kernel
theorem dX11_water_105 : decode cX11_water 105 = .ok (.athrow, 1) := by decide +kernel
def wX11_water (l0 : Nat) (l1 : Int32) (l2 : Int32) (σ : kx_S) (Q : Int32 → kx_S → Prop) (QX : String → kx_S → Prop) : Prop := xt σ l0 = 13 ∧ wX11_reachAt l0 l1 σ (fun b2 σ1 => ∀ v4, v4 = l2 → ((v4 = 0 → xt σ1 b2 = 10 ∧ Q (xi σ1 169 b2) σ1) ∧
  ((v4 = 1 → xt σ1 b2 = 10 ∧ Q (xi σ1 170 b2) σ1) ∧
  ((v4 = 2 → xt σ1 b2 = 10 ∧ (((xi σ1 165 b2) = 0 → Q (-1) σ1) ∧
    (¬ ((xi σ1 165 b2) = 0) → Q (xi σ1 167 b2) σ1))) ∧
  ((v4 = 3 → xt σ1 b2 = 10 ∧ ((∀ a15, xr σ1 161 b2 = some a15 → ∃ a16, xr σ1 161 b2 = some a16 ∧ xt σ1 a16 = 10 ∧ Q (xi σ1 160 a16) σ1) ∧
    (xr σ1 161 b2 = none → Q (-1) σ1))) ∧
  ((v4 = 4 → xt σ1 b2 = 10 ∧ ∃ a21, xr σ1 163 b2 = some a21 ∧ xt σ1 a21 = 1 ∧ wJx4a65c_size_8abf5 a21 σ1 (fun r24 σ23 => Q r24 σ23)) ∧
  (¬ v4 = 0 → ¬ v4 = 1 → ¬ v4 = 2 → ¬ v4 = 3 → ¬ v4 = 4 → xc σ1 < kx_N ∧ QX pz_N (xbump σ1)))))))) QX
set_option maxRecDepth 100000 in
set_option maxHeartbeats 4000000 in
theorem hx_X11_water (l : Launch) (hlt : l.stackTraces = false) (G : kx_G) (l0 : Nat) (l1 : Int32) (l2 : Int32) (σ : kx_S) (Q : Int32 → kx_S → Prop) (QX : String → kx_S → Prop) (h : wX11_water l0 l1 l2 σ Q QX) : kx_MX l G yX11_water cX11_water 4 (some .int) (7) (103) [.ref l0, .int l1, .int l2] σ (kx_ri Q) QX := by
  refine kx_enterX (by decide) rfl (Nat.le_of_ble_eq_true rfl) ?_
  intro p e s m below meth c ls F hr hlocks C hout hl
  have hl : lv_has ls 4 [(0, .ref l0), (1, .int l1), (2, .int l2)] := hl
  obtain ⟨H, eH⟩ : ∃ z9, z9 = s.heap := ⟨_, rfl⟩
  obtain ⟨locs, eL⟩ : ∃ z9 : List Loc, z9 = [] := ⟨_, rfl⟩
  rw [← eH, ← eL] at C
  rw [← eH, ← eL]
  obtain ⟨σ0, e0⟩ : ∃ z9, z9 = σ := ⟨_, rfl⟩
  have C : kx_X G (xc σ0) s H locs σ := by rw [e0]; exact C
  suffices hgo : kx_W p l e (7) (103) (xc σ0) s m ([.ref l0, .int l1, .int l2] : List Value).toArray below meth c H locs σ (vx_MQ below (kx_Q G σ0 (kx_ri Q)) (kx_XC G σ0 QX) ([.ref l0, .int l1, .int l2] : List Value).toArray s (kx_N - xc σ0) (600 * (kx_N - xc σ0)) (kx_A G)) (F0 m 0 ls []) by rw [e0] at hgo; exact hgo
  clear e0
  refine lv_aload_n F.1 F.2.1 dX11_water_0 rfl (lv_at hl 0 rfl) ?_
  refine lv_iload_n F.1 F.2.1 dX11_water_1 rfl (lv_at hl 1 rfl) ?_
  obtain ⟨ht3, h⟩ := h
  refine xk_X11_reachAt hlt F C l0 l1 ht3 h ux_527 (Nat.le_of_ble_eq_true rfl) (Nat.le_of_ble_eq_true rfl) hl.1 (by simp [Value.category]) dX11_water_2 (fun E9 ce9 q9 σ1 H locs h C hce hcv hcl => kx_out C h hce hcv hcl hout hlocks) (fun b2 σ1 H locs h C => ?_)
  refine lv_astore_n (lv' := [(3, .ref b2), (0, .ref l0), (1, .int l1), (2, .int l2)]) F.1 F.2.1 dX11_water_5 rfl hl (by decide) rfl (fun ls hl => ?_)
  refine lv_iload_n F.1 F.2.1 dX11_water_6 rfl (lv_at hl 3 rfl) ?_
  refine lv_topi (fun v4 ev4 => ?_)
  replace h := h v4 ev4
  by_cases c5 : v4 = 0
  · replace h := h.1 c5
    refine lv_tableIn (off := 33) (tgt := 40) F.1 F.2.1 dX11_water_7 (by rw [c5]; decide) (by rw [c5]; decide) (by rw [c5]; decide) (by decide) ?_
    refine lv_aload_n F.1 F.2.1 dX11_water_40 rfl (lv_at hl 0 rfl) ?_
    obtain ⟨ht6, h⟩ := h
    refine xg_X8_flow F C ht6 ux_613 (fun _ h9 => h9) dX11_water_41 ?_
    refine vx_ret ?_
    exact kx_iret F C hr hlocks h dX11_water_44
  replace h := h.2
  by_cases c7 : v4 = 1
  · replace h := h.1 c7
    refine lv_tableIn (off := 38) (tgt := 45) F.1 F.2.1 dX11_water_7 (by rw [c7]; decide) (by rw [c7]; decide) (by rw [c7]; decide) (by decide) ?_
    refine lv_aload_n F.1 F.2.1 dX11_water_45 rfl (lv_at hl 0 rfl) ?_
    obtain ⟨ht8, h⟩ := h
    refine xg_X8_out F C ht8 ux_617 (fun _ h9 => h9) dX11_water_46 ?_
    refine vx_ret ?_
    exact kx_iret F C hr hlocks h dX11_water_49
  replace h := h.2
  by_cases c9 : v4 = 2
  · replace h := h.1 c9
    refine lv_tableIn (off := 43) (tgt := 50) F.1 F.2.1 dX11_water_7 (by rw [c9]; decide) (by rw [c9]; decide) (by rw [c9]; decide) (by decide) ?_
    refine lv_aload_n F.1 F.2.1 dX11_water_50 rfl (lv_at hl 0 rfl) ?_
    obtain ⟨ht10, h⟩ := h
    refine xg_X8_dammed F C ht10 ux_529 (fun _ h9 => h9) dX11_water_51 ?_
    refine lv_if_eq (tgt := 64) F.1 F.2.1 dX11_water_54 (by decide) (fun c11 => ?_) (fun c11 => ?_)
    · replace h := h.1 c11
      refine lv_iconst (v := (-1)) F.1 F.2.1 dX11_water_64 (by decide) ?_
      refine vx_ret ?_
      exact kx_iret F C hr hlocks h dX11_water_65
    · replace h := h.2 c11
      refine lv_aload_n F.1 F.2.1 dX11_water_57 rfl (lv_at hl 0 rfl) ?_
      refine xg_X8_store F C ht10 ux_711 (fun _ h9 => h9) dX11_water_58 ?_
      refine lv_goto (tgt := 65) F.1 F.2.1 dX11_water_61 (by decide) ?_
      refine vx_ret ?_
      exact kx_iret F C hr hlocks h dX11_water_65
  replace h := h.2
  by_cases c12 : v4 = 3
  · replace h := h.1 c12
    refine lv_tableIn (off := 59) (tgt := 66) F.1 F.2.1 dX11_water_7 (by rw [c12]; decide) (by rw [c12]; decide) (by rw [c12]; decide) (by decide) ?_
    refine lv_aload_n F.1 F.2.1 dX11_water_66 rfl (lv_at hl 0 rfl) ?_
    obtain ⟨ht13, h⟩ := h
    refine xg_X8_below F C ht13 ux_616 (fun _ h9 => h9) dX11_water_67 ?_
    refine xq_ifnonnull (tgt := 77) F.1 F.2.1 dX11_water_70 (by decide) (fun a15 c14 => ?_) (fun c14 => ?_)
    · replace h := h.1 a15 c14
      refine lv_aload_n F.1 F.2.1 dX11_water_77 rfl (lv_at hl 0 rfl) ?_
      refine xg_X8_below F C ht13 ux_616 (fun _ h9 => h9) dX11_water_78 ?_
      obtain ⟨a16, ea17, h⟩ := h
      refine xq_nn ea17 ?_
      obtain ⟨ht18, h⟩ := h
      refine xg_X8_number F C ht18 ux_520 (fun _ h9 => h9) dX11_water_81 ?_
      refine vx_ret ?_
      exact kx_iret F C hr hlocks h dX11_water_84
    · replace h := h.2 c14
      refine lv_iconst (v := (-1)) F.1 F.2.1 dX11_water_73 (by decide) ?_
      refine lv_goto (tgt := 84) F.1 F.2.1 dX11_water_74 (by decide) ?_
      refine vx_ret ?_
      exact kx_iret F C hr hlocks h dX11_water_84
  replace h := h.2
  by_cases c19 : v4 = 4
  · replace h := h.1 c19
    refine lv_tableIn (off := 78) (tgt := 85) F.1 F.2.1 dX11_water_7 (by rw [c19]; decide) (by rw [c19]; decide) (by rw [c19]; decide) (by decide) ?_
    refine lv_aload_n F.1 F.2.1 dX11_water_85 rfl (lv_at hl 0 rfl) ?_
    obtain ⟨ht20, h⟩ := h
    refine xg_X8_cells F C ht20 ux_513 (fun _ h9 => h9) dX11_water_86 ?_
    obtain ⟨a21, ea22, h⟩ := h
    refine xq_nn ea22 ?_
    obtain ⟨ht25, h⟩ := h
    refine xk_Jx4a65c_size_8abf5 F C a21 ht25 h ux_500 (Nat.le_of_ble_eq_true rfl) (Nat.le_of_ble_eq_true rfl) hl.1 (by simp [Value.category]) dX11_water_89 (fun r24 σ23 H locs h C => ?_)
    refine vx_ret ?_
    exact kx_iret F C hr hlocks h dX11_water_94
  replace h := h.2
  have ic5 : v4.toInt ≠ 0 := fun h9 => c5 (Int32.toInt_inj.mp (h9.trans (by decide)))
  have ic7 : v4.toInt ≠ 1 := fun h9 => c7 (Int32.toInt_inj.mp (h9.trans (by decide)))
  have ic9 : v4.toInt ≠ 2 := fun h9 => c9 (Int32.toInt_inj.mp (h9.trans (by decide)))
  have ic12 : v4.toInt ≠ 3 := fun h9 => c12 (Int32.toInt_inj.mp (h9.trans (by decide)))
  have ic19 : v4.toInt ≠ 4 := fun h9 => c19 (Int32.toInt_inj.mp (h9.trans (by decide)))
  replace h := h c5 c7 c9 c12 c19
  refine lv_tableOut (tgt := 95) F.1 F.2.1 dX11_water_7 (by omega) (by decide) ?_
  obtain ⟨hn26, h⟩ := h
  exact kx_throwN (is := 383) hlt (text := "a reach has no such what") (by decide +kernel) F C hn26 h hl.1 ux_504 ux_505 dX11_water_95 dX11_water_98 dX11_water_99 dX11_water_102 dX11_water_105 hout (Nat.le_of_ble_eq_true rfl) (by simp [Value.category]) hlocks
section
variable {p : Program} {l : Launch} {e : Env} {fr lo c0 : Nat} {s : State} {m : MethodId} {args : Array Value} {below : List Frame} {meth : Method} {c : Code} {H : Heap} {locs : List Loc} {Q : State → Prop}
variable {cc : ByteArray} {pc nL index : Nat} {ls : Array Slot} {rest : List Value} {G : kx_G} {σ : kx_S} {own : String}
theorem xk_X11_water {P : Int32 → kx_S → Prop} {PX : String → kx_S → Prop} (hlt : l.stackTraces = false) (F : CallFix p m c cc nL s args kt_ own) (C : kx_X G c0 s H locs σ) (l0 : Nat) (l1 : Int32) (l2 : Int32) (ha : xt σ l0 = 13) (h : wX11_water l0 l1 l2 σ P PX) (hw : Cond.methodLink own index yX11_water ∈ kt_) (h1 : (7) + 1 ≤ fr) (h2 : 8 + (4 + 11) + (103) ≤ lo) (hsz : ls.size = nL) (hW : (rest.map fun v => v.category).sum ≤ 8) (hdg : decode cc pc = .ok (.invokevirtual index, 3)) (kx : ∀ (E : String) (ce : Cell) (q9 : Addr) (u : kx_S) (H1 : Heap) (locs1 : List Loc), PX E u → kx_X G c0 s H1 locs1 u → H1[q9]? = some ce → ce.vm = .none → s.vm.findClass E = some ce.cls → vx_W p l e (kx_rm fr lo c0) s m args below meth c H1 locs1 (xc u - c0) (600 * (xc u - c0)) Q (F0 m pc ls rest) q9) (kk : ∀ (r : Int32) (u : kx_S) (H1 : Heap) (locs1 : List Loc), P r u → kx_X G c0 s H1 locs1 u → kx_W p l e fr lo c0 s m args below meth c H1 locs1 u Q (F0 m (pc + 3) ls (.int r :: rest))) : kx_W p l e fr lo c0 s m args below meth c H locs σ Q (F0 m pc ls (.int l2 :: .int l1 :: .ref l0 :: rest)) :=
  kx_cVX (n := 2) (As := [.int l1, .int l2]) (Cn := RX11) F C (hx_X11_water l hlt G l0 l1 l2 σ P PX h) (kt_V hw ux_713 ux_714 ux_117 ux_712) (by decide +kernel) ⟨h1, h2⟩ (kx_recv C (by rw [ha]; decide) (kx_e13 ha) rfl) rfl hsz hW hdg kx (fun v u H1 locs1 hP9 C9 => by obtain ⟨r, hv, hp⟩ := hP9; subst hv; exact kk r u H1 locs1 hp C9)
end
theorem dX11_waters_0 : decode cX11_waters 0 = .ok (.iload_n 1, 1) := by decide +kernel
theorem dX11_waters_1 : decode cX11_waters 1 = .ok (.lookupswitch 37 #[(0, 27), (1, 32)], 27) := by decide +kernel
theorem dX11_waters_28 : decode cX11_waters 28 = .ok (.aload_n 0, 1) := by decide +kernel
theorem dX11_waters_29 : decode cX11_waters 29 = .ok (.getfield 250, 3) := by decide +kernel
theorem dX11_waters_32 : decode cX11_waters 32 = .ok (.lreturn, 1) := by decide +kernel
theorem dX11_waters_33 : decode cX11_waters 33 = .ok (.aload_n 0, 1) := by decide +kernel
theorem dX11_waters_34 : decode cX11_waters 34 = .ok (.getfield 260, 3) := by decide +kernel
theorem dX11_waters_37 : decode cX11_waters 37 = .ok (.lreturn, 1) := by decide +kernel
theorem dX11_waters_38 : decode cX11_waters 38 = .ok (.new 350, 3) := by decide +kernel
theorem dX11_waters_41 : decode cX11_waters 41 = .ok (.dup, 1) := by decide +kernel
theorem dX11_waters_42 : decode cX11_waters 42 = .ok (.ldc_w 385, 3) := by decide +kernel
theorem dX11_waters_45 : decode cX11_waters 45 = .ok (.invokespecial 354, 3) := by decide +kernel
theorem dX11_waters_48 : decode cX11_waters 48 = .ok (.athrow, 1) := by decide +kernel
def wX11_waters (l0 : Nat) (l1 : Int32) (σ : kx_S) (Q : Int64 → kx_S → Prop) (QX : String → kx_S → Prop) : Prop := ∀ v1, v1 = l1 → ((v1 = 0 → xt σ l0 = 13 ∧ Q (xl σ 220 l0) σ) ∧
  ((v1 = 1 → xt σ l0 = 13 ∧ Q (xl σ 221 l0) σ) ∧
  (¬ v1 = 0 → ¬ v1 = 1 → xc σ < kx_N ∧ QX pz_N (xbump σ))))
set_option maxRecDepth 100000 in
set_option maxHeartbeats 4000000 in
theorem hx_X11_waters (l : Launch) (hlt : l.stackTraces = false) (G : kx_G) (l0 : Nat) (l1 : Int32) (σ : kx_S) (Q : Int64 → kx_S → Prop) (QX : String → kx_S → Prop) (h : wX11_waters l0 l1 σ Q QX) : kx_MX l G yX11_waters cX11_waters 2 (some .long) (6) (82) [.ref l0, .int l1] σ (kx_rl Q) QX := by
  refine kx_enterX (by decide) rfl (Nat.le_of_ble_eq_true rfl) ?_
  intro p e s m below meth c ls F hr hlocks C hout hl
  have hl : lv_has ls 2 [(0, .ref l0), (1, .int l1)] := hl
  obtain ⟨H, eH⟩ : ∃ z9, z9 = s.heap := ⟨_, rfl⟩
  obtain ⟨locs, eL⟩ : ∃ z9 : List Loc, z9 = [] := ⟨_, rfl⟩
  rw [← eH, ← eL] at C
  rw [← eH, ← eL]
  obtain ⟨σ0, e0⟩ : ∃ z9, z9 = σ := ⟨_, rfl⟩
  have C : kx_X G (xc σ0) s H locs σ := by rw [e0]; exact C
  suffices hgo : kx_W p l e (6) (82) (xc σ0) s m ([.ref l0, .int l1] : List Value).toArray below meth c H locs σ (vx_MQ below (kx_Q G σ0 (kx_rl Q)) (kx_XC G σ0 QX) ([.ref l0, .int l1] : List Value).toArray s (kx_N - xc σ0) (600 * (kx_N - xc σ0)) (kx_A G)) (F0 m 0 ls []) by rw [e0] at hgo; exact hgo
  clear e0
  refine lv_iload_n F.1 F.2.1 dX11_waters_0 rfl (lv_at hl 1 rfl) ?_
  refine lv_topi (fun v1 ev1 => ?_)
  replace h := h v1 ev1
  by_cases c2 : v1 = 0
  · replace h := h.1 c2
    refine lv_lookup (off := 27) (tgt := 28) F.1 F.2.1 dX11_waters_1 (by decide) (by rw [c2]; decide) (by decide) ?_
    refine lv_aload_n F.1 F.2.1 dX11_waters_28 rfl (lv_at hl 0 rfl) ?_
    obtain ⟨ht3, h⟩ := h
    refine xg_X11_melted F C ht3 ux_614 (fun _ h9 => h9) dX11_waters_29 ?_
    refine vx_ret ?_
    exact kx_lret F C hr hlocks h dX11_waters_32
  replace h := h.2
  by_cases c4 : v1 = 1
  · replace h := h.1 c4
    refine lv_lookup (off := 32) (tgt := 33) F.1 F.2.1 dX11_waters_1 (by decide) (by rw [c4]; decide) (by decide) ?_
    refine lv_aload_n F.1 F.2.1 dX11_waters_33 rfl (lv_at hl 0 rfl) ?_
    obtain ⟨ht5, h⟩ := h
    refine xg_X11_wentToSea F C ht5 ux_618 (fun _ h9 => h9) dX11_waters_34 ?_
    refine vx_ret ?_
    exact kx_lret F C hr hlocks h dX11_waters_37
  replace h := h.2
  replace h := h c2 c4
  refine lv_lookup (off := 37) (tgt := 38) F.1 F.2.1 dX11_waters_1 (by decide) (by rw [lv_osw c2 (by decide)]; rw [lv_osw c4 (by decide)]; rfl) (by decide) ?_
  obtain ⟨hn6, h⟩ := h
  exact kx_throwN (is := 385) hlt (text := "there are no such waters") (by decide +kernel) F C hn6 h hl.1 ux_504 ux_505 dX11_waters_38 dX11_waters_41 dX11_waters_42 dX11_waters_45 dX11_waters_48 hout (Nat.le_of_ble_eq_true rfl) (by simp [Value.category]) hlocks
section
variable {p : Program} {l : Launch} {e : Env} {fr lo c0 : Nat} {s : State} {m : MethodId} {args : Array Value} {below : List Frame} {meth : Method} {c : Code} {H : Heap} {locs : List Loc} {Q : State → Prop}
variable {cc : ByteArray} {pc nL index : Nat} {ls : Array Slot} {rest : List Value} {G : kx_G} {σ : kx_S} {own : String}
theorem xk_X11_waters {P : Int64 → kx_S → Prop} {PX : String → kx_S → Prop} (hlt : l.stackTraces = false) (F : CallFix p m c cc nL s args kt_ own) (C : kx_X G c0 s H locs σ) (l0 : Nat) (l1 : Int32) (ha : xt σ l0 = 13) (h : wX11_waters l0 l1 σ P PX) (hw : Cond.methodLink own index yX11_waters ∈ kt_) (h1 : (6) + 1 ≤ fr) (h2 : 8 + (2 + 11) + (82) ≤ lo) (hsz : ls.size = nL) (hW : (rest.map fun v => v.category).sum ≤ 8) (hdg : decode cc pc = .ok (.invokevirtual index, 3)) (kx : ∀ (E : String) (ce : Cell) (q9 : Addr) (u : kx_S) (H1 : Heap) (locs1 : List Loc), PX E u → kx_X G c0 s H1 locs1 u → H1[q9]? = some ce → ce.vm = .none → s.vm.findClass E = some ce.cls → vx_W p l e (kx_rm fr lo c0) s m args below meth c H1 locs1 (xc u - c0) (600 * (xc u - c0)) Q (F0 m pc ls rest) q9) (kk : ∀ (r : Int64) (u : kx_S) (H1 : Heap) (locs1 : List Loc), P r u → kx_X G c0 s H1 locs1 u → kx_W p l e fr lo c0 s m args below meth c H1 locs1 u Q (F0 m (pc + 3) ls (.long r :: rest))) : kx_W p l e fr lo c0 s m args below meth c H locs σ Q (F0 m pc ls (.int l1 :: .ref l0 :: rest)) :=
  kx_cVX (n := 1) (As := [.int l1]) (Cn := RX11) F C (hx_X11_waters l hlt G l0 l1 σ P PX h) (kt_V hw ux_716 ux_717 ux_117 ux_715) (by decide +kernel) ⟨h1, h2⟩ (kx_recv C (by rw [ha]; decide) (kx_e13 ha) rfl) rfl hsz hW hdg kx (fun v u H1 locs1 hP9 C9 => by obtain ⟨r, hv, hp⟩ := hP9; subst hv; exact kk r u H1 locs1 hp C9)
end
theorem dX11_board_0 : decode cX11_board 0 = .ok (.iconst 0, 1) := by decide +kernel
theorem dX11_board_1 : decode cX11_board 1 = .ok (.istore_n 2, 1) := by decide +kernel
theorem dX11_board_2 : decode cX11_board 2 = .ok (.iload_n 2, 1) := by decide +kernel
theorem dX11_board_3 : decode cX11_board 3 = .ok (.aload_n 0, 1) := by decide +kernel
theorem dX11_board_4 : decode cX11_board 4 = .ok (.getfield 16, 3) := by decide +kernel
theorem dX11_board_7 : decode cX11_board 7 = .ok (.invokeinterface 59 1, 5) := by decide +kernel
theorem dX11_board_12 : decode cX11_board 12 = .ok (.if_icmp .ge 55, 3) := by decide +kernel
theorem dX11_board_15 : decode cX11_board 15 = .ok (.aload_n 0, 1) := by decide +kernel
theorem dX11_board_16 : decode cX11_board 16 = .ok (.getfield 16, 3) := by decide +kernel
theorem dX11_board_19 : decode cX11_board 19 = .ok (.iload_n 2, 1) := by decide +kernel
theorem dX11_board_20 : decode cX11_board 20 = .ok (.invokeinterface 69 2, 5) := by decide +kernel
theorem dX11_board_25 : decode cX11_board 25 = .ok (.checkcast 187, 3) := by decide +kernel
theorem dX11_board_28 : decode cX11_board 28 = .ok (.astore_n 3, 1) := by decide +kernel
theorem dX11_board_29 : decode cX11_board 29 = .ok (.aload_n 3, 1) := by decide +kernel
theorem dX11_board_30 : decode cX11_board 30 = .ok (.getfield 366, 3) := by decide +kernel
theorem dX11_board_33 : decode cX11_board 33 = .ok (.iconst (-1), 1) := by decide +kernel
theorem dX11_board_34 : decode cX11_board 34 = .ok (.if_icmp .eq 27, 3) := by decide +kernel
theorem dX11_board_37 : decode cX11_board 37 = .ok (.iload_n 1, 1) := by decide +kernel
theorem dX11_board_38 : decode cX11_board 38 = .ok (.aload_n 3, 1) := by decide +kernel
theorem dX11_board_39 : decode cX11_board 39 = .ok (.getfield 366, 3) := by decide +kernel
theorem dX11_board_42 : decode cX11_board 42 = .ok (.aload_n 3, 1) := by decide +kernel
theorem dX11_board_43 : decode cX11_board 43 = .ok (.getfield 366, 3) := by decide +kernel
theorem dX11_board_46 : decode cX11_board 46 = .ok (.aload_n 3, 1) := by decide +kernel
theorem dX11_board_47 : decode cX11_board 47 = .ok (.getfield 348, 3) := by decide +kernel
theorem dX11_board_50 : decode cX11_board 50 = .ok (.iadd, 1) := by decide +kernel
theorem dX11_board_51 : decode cX11_board 51 = .ok (.iconst 1, 1) := by decide +kernel
theorem dX11_board_52 : decode cX11_board 52 = .ok (.isub, 1) := by decide +kernel
theorem dX11_board_53 : decode cX11_board 53 = .ok (.invokestatic 65, 3) := by decide +kernel
theorem dX11_board_56 : decode cX11_board 56 = .ok (.ifCond .eq 5, 3) := by decide +kernel
theorem dX11_board_59 : decode cX11_board 59 = .ok (.iload_n 2, 1) := by decide +kernel
theorem dX11_board_60 : decode cX11_board 60 = .ok (.ireturn, 1) := by decide +kernel
theorem dX11_board_61 : decode cX11_board 61 = .ok (.iinc 2 1, 3) := by decide +kernel
theorem dX11_board_64 : decode cX11_board 64 = .ok (.goto (-62), 3) := by decide +kernel
theorem dX11_board_67 : decode cX11_board 67 = .ok (.new 350, 3) := by decide +kernel
theorem dX11_board_70 : decode cX11_board 70 = .ok (.dup, 1) := by decide +kernel
theorem dX11_board_71 : decode cX11_board 71 = .ok (.ldc_w 387, 3) := by decide +kernel
theorem dX11_board_74 : decode cX11_board 74 = .ok (.invokespecial 354, 3) := by decide +kernel
theorem dX11_board_77 : decode cX11_board 77 = .ok (.athrow, 1) := by decide +kernel
def wX11_board_61 (k2 : Nat → Int32 → Int32 → kx_S → Prop) (Q : Int32 → kx_S → Prop) (QX : String → kx_S → Prop) (l0 : Nat) (l1 : Int32) (l2 : Int32) (σ : kx_S) : Prop := ∀ v1 : Int32, v1 = l2 + 1 → k2 l0 l1 v1 σ
def wX11_board_67 (Q : Int32 → kx_S → Prop) (QX : String → kx_S → Prop) (σ : kx_S) : Prop := xc σ < kx_N ∧ QX pz_N (xbump σ)
def wX11_board_2 (k67 : kx_S → Prop) (Q : Int32 → kx_S → Prop) (QX : String → kx_S → Prop) : Nat → Nat → Int32 → Int32 → kx_S → Prop
  | 0, _, _, _, _ => False
  | n + 1, l0, l1, l2, σ => xt σ l0 = 13 ∧ ∃ a4, xr σ 209 l0 = some a4 ∧ xt σ a4 = 1 ∧ wJx4a65c_size_8abf5 a4 σ (fun r7 σ6 => ((r7 ≤ l2 → k67 σ6) ∧
    (¬ (r7 ≤ l2) → xt σ6 l0 = 13 ∧ ∃ a11, xr σ6 209 l0 = some a11 ∧ xt σ6 a11 = 1 ∧ wJx4a65c_get_915e3 a11 l2 σ6 (fun q14 σ13 => ∃ a16, q14 = some a16 ∧ xt σ13 a16 = 8 ∧ (((xi σ13 136 a16) = (-1) → wX11_board_61 (wX11_board_2 k67 Q QX n) Q QX l0 l1 l2 σ13) ∧
      (¬ ((xi σ13 136 a16) = (-1)) → wX11_isWithin l1 (xi σ13 136 a16) (((xi σ13 136 a16) + (xi σ13 130 a16)) - 1) σ13 (fun r21 σ20 => ((r21 = 0 → wX11_board_61 (wX11_board_2 k67 Q QX n) Q QX l0 l1 l2 σ20) ∧
        (¬ (r21 = 0) → Q l2 σ20)))))))))
def wX11_board (l0 : Nat) (l1 : Int32) (σ : kx_S) (Q : Int32 → kx_S → Prop) (QX : String → kx_S → Prop) : Prop := ∃ j, wX11_board_2 (wX11_board_67 Q QX) Q QX j l0 l1 0 σ
set_option maxRecDepth 100000 in
set_option maxHeartbeats 4000000 in
theorem tX11_board_61 (l : Launch) (hlt : l.stackTraces = false) (G : kx_G) (σ0 : kx_S) {p : Program} {e : Env} {s : State} {m : MethodId} {args : Array Value} {below : List Frame} {meth : Method} {c : Code} (F : CallFix p m c cX11_board 4 s args kt_ RX11) (hr : meth.sig.returnType = (some .int)) (hlocks : meth.locks = false) (hout : ∀ x ∈ c.exceptionTable.toList, False) (Q : Int32 → kx_S → Prop) (QX : String → kx_S → Prop) (k2 : Nat → Int32 → Int32 → kx_S → Prop) (hk2 : ∀ (l0 : Nat) (l1 : Int32) (l2 : Int32) (σ : kx_S) (H : Heap) (locs : List Loc) (ls : Array Slot), k2 l0 l1 l2 σ → kx_X G (xc σ0) s H locs σ → lv_has ls 4 [(0, .ref l0), (1, .int l1), (2, .int l2)] → kx_W p l e (6) (82) (xc σ0) s m args below meth c H locs σ (vx_MQ below (kx_Q G σ0 (kx_ri Q)) (kx_XC G σ0 QX) args s (kx_N - xc σ0) (600 * (kx_N - xc σ0)) (kx_A G)) (F0 m 2 ls [])) : ∀ (l0 : Nat) (l1 : Int32) (l2 : Int32) (σ : kx_S) (H : Heap) (locs : List Loc) (ls : Array Slot), wX11_board_61 k2 Q QX l0 l1 l2 σ → kx_X G (xc σ0) s H locs σ → lv_has ls 4 [(0, .ref l0), (1, .int l1), (2, .int l2)] → kx_W p l e (6) (82) (xc σ0) s m args below meth c H locs σ (vx_MQ below (kx_Q G σ0 (kx_ri Q)) (kx_XC G σ0 QX) args s (kx_N - xc σ0) (600 * (kx_N - xc σ0)) (kx_A G)) (F0 m 61 ls []) := by
  intro l0 l1 l2 σ H locs ls h C hl
  obtain ⟨v1, ev1⟩ : ∃ z9 : Int32, z9 = l2 + 1 := ⟨_, rfl⟩
  replace h := h v1 ev1
  refine lv_iinc (v := v1) (lv' := [(2, .int v1), (0, .ref l0), (1, .int l1)]) F.1 F.2.1 dX11_board_61 hl (k := 2) rfl (by rw [ev1]; rfl) (by decide) rfl (fun ls hl => ?_)
  refine lv_goto (tgt := 2) F.1 F.2.1 dX11_board_64 (by decide) ?_
  exact hk2 l0 l1 v1 σ H locs ls h C (lv_sub hl [1, 2, 0] rfl)
set_option maxRecDepth 100000 in
set_option maxHeartbeats 4000000 in
theorem tX11_board_67 (l : Launch) (hlt : l.stackTraces = false) (G : kx_G) (σ0 : kx_S) {p : Program} {e : Env} {s : State} {m : MethodId} {args : Array Value} {below : List Frame} {meth : Method} {c : Code} (F : CallFix p m c cX11_board 4 s args kt_ RX11) (hr : meth.sig.returnType = (some .int)) (hlocks : meth.locks = false) (hout : ∀ x ∈ c.exceptionTable.toList, False) (Q : Int32 → kx_S → Prop) (QX : String → kx_S → Prop) : ∀ (σ : kx_S) (H : Heap) (locs : List Loc) (ls : Array Slot), wX11_board_67 Q QX  σ → kx_X G (xc σ0) s H locs σ → lv_has ls 4 [] → kx_W p l e (6) (82) (xc σ0) s m args below meth c H locs σ (vx_MQ below (kx_Q G σ0 (kx_ri Q)) (kx_XC G σ0 QX) args s (kx_N - xc σ0) (600 * (kx_N - xc σ0)) (kx_A G)) (F0 m 67 ls []) := by
  intro  σ H locs ls h C hl
  obtain ⟨hn2, h⟩ := h
  exact kx_throwN (is := 387) hlt (text := "no such board") (by decide +kernel) F C hn2 h hl.1 ux_504 ux_505 dX11_board_67 dX11_board_70 dX11_board_71 dX11_board_74 dX11_board_77 hout (Nat.le_of_ble_eq_true rfl) (by simp [Value.category]) hlocks
set_option maxRecDepth 100000 in
set_option maxHeartbeats 4000000 in
theorem tX11_board_2 (l : Launch) (hlt : l.stackTraces = false) (G : kx_G) (σ0 : kx_S) {p : Program} {e : Env} {s : State} {m : MethodId} {args : Array Value} {below : List Frame} {meth : Method} {c : Code} (F : CallFix p m c cX11_board 4 s args kt_ RX11) (hr : meth.sig.returnType = (some .int)) (hlocks : meth.locks = false) (hout : ∀ x ∈ c.exceptionTable.toList, False) (Q : Int32 → kx_S → Prop) (QX : String → kx_S → Prop) (k67 : kx_S → Prop) (hk67 : ∀  (σ : kx_S) (H : Heap) (locs : List Loc) (ls : Array Slot), k67  σ → kx_X G (xc σ0) s H locs σ → lv_has ls 4 [] → kx_W p l e (6) (82) (xc σ0) s m args below meth c H locs σ (vx_MQ below (kx_Q G σ0 (kx_ri Q)) (kx_XC G σ0 QX) args s (kx_N - xc σ0) (600 * (kx_N - xc σ0)) (kx_A G)) (F0 m 67 ls [])) : ∀ (n : Nat) (l0 : Nat) (l1 : Int32) (l2 : Int32) (σ : kx_S) (H : Heap) (locs : List Loc) (ls : Array Slot), wX11_board_2 k67 Q QX n l0 l1 l2 σ → kx_X G (xc σ0) s H locs σ → lv_has ls 4 [(0, .ref l0), (1, .int l1), (2, .int l2)] → kx_W p l e (6) (82) (xc σ0) s m args below meth c H locs σ (vx_MQ below (kx_Q G σ0 (kx_ri Q)) (kx_XC G σ0 QX) args s (kx_N - xc σ0) (600 * (kx_N - xc σ0)) (kx_A G)) (F0 m 2 ls []) := by
  intro n
  induction n with
  | zero => intro l0 l1 l2 σ H locs ls h; exact h.elim
  | succ n ih =>
    intro l0 l1 l2 σ H locs ls h C hl
    refine lv_iload_n F.1 F.2.1 dX11_board_2 rfl (lv_at hl 2 rfl) ?_
    refine lv_aload_n F.1 F.2.1 dX11_board_3 rfl (lv_at hl 0 rfl) ?_
    obtain ⟨ht3, h⟩ := h
    refine xg_X11_logs F C ht3 ux_480 (fun _ h9 => h9) dX11_board_4 ?_
    obtain ⟨a4, ea5, h⟩ := h
    refine xq_nn ea5 ?_
    obtain ⟨ht8, h⟩ := h
    refine xk_Jx4a65c_size_8abf5 F C a4 ht8 h ux_500 (Nat.le_of_ble_eq_true rfl) (Nat.le_of_ble_eq_true rfl) hl.1 (by simp [Value.category]) dX11_board_7 (fun r7 σ6 H locs h C => ?_)
    refine lv_icmp_ge (tgt := 67) F.1 F.2.1 dX11_board_12 (by decide) (fun c9 => ?_) (fun c9 => ?_)
    · replace h := h.1 c9
      exact hk67 σ6 H locs ls h C (lv_sub hl [] rfl)
    · replace h := h.2 c9
      refine lv_aload_n F.1 F.2.1 dX11_board_15 rfl (lv_at hl 0 rfl) ?_
      obtain ⟨ht10, h⟩ := h
      refine xg_X11_logs F C ht10 ux_480 (fun _ h9 => h9) dX11_board_16 ?_
      obtain ⟨a11, ea12, h⟩ := h
      refine xq_nn ea12 ?_
      refine lv_iload_n F.1 F.2.1 dX11_board_19 rfl (lv_at hl 2 rfl) ?_
      obtain ⟨ht15, h⟩ := h
      refine xk_Jx4a65c_get_915e3 F C a11 l2 ht15 h ux_502 (Nat.le_of_ble_eq_true rfl) (Nat.le_of_ble_eq_true rfl) hl.1 (by simp [Value.category]) dX11_board_20 (fun q14 σ13 H locs h C => ?_)
      obtain ⟨a16, ea17, h⟩ := h
      refine xq_nn ea17 ?_
      obtain ⟨ht18, h⟩ := h
      refine kx_cast F C (by rw [ht18]; decide) (kx_e8 ht18) rfl ux_509 dX11_board_25 ?_
      refine lv_astore_n (lv' := [(3, .ref a16), (0, .ref l0), (1, .int l1), (2, .int l2)]) F.1 F.2.1 dX11_board_28 rfl hl (by decide) rfl (fun ls hl => ?_)
      refine lv_aload_n F.1 F.2.1 dX11_board_29 rfl (lv_at hl 0 rfl) ?_
      refine xg_X6_firstBoard F C ht18 ux_696 (fun _ h9 => h9) dX11_board_30 ?_
      refine lv_iconst (v := (-1)) F.1 F.2.1 dX11_board_33 (by decide) ?_
      refine lv_icmp_eq (tgt := 61) F.1 F.2.1 dX11_board_34 (by decide) (fun c19 => ?_) (fun c19 => ?_)
      · replace h := h.1 c19
        exact tX11_board_61 l hlt G σ0 F hr hlocks hout Q QX (wX11_board_2 k67 Q QX n) (fun l0 l1 l2 σ9 H locs ls h C hl => ih l0 l1 l2 σ9 H locs ls h C hl) l0 l1 l2 σ13 H locs ls h C (lv_sub hl [1, 2, 3] rfl)
      · replace h := h.2 c19
        refine lv_iload_n F.1 F.2.1 dX11_board_37 rfl (lv_at hl 2 rfl) ?_
        refine lv_aload_n F.1 F.2.1 dX11_board_38 rfl (lv_at hl 0 rfl) ?_
        refine xg_X6_firstBoard F C ht18 ux_696 (fun _ h9 => h9) dX11_board_39 ?_
        refine lv_aload_n F.1 F.2.1 dX11_board_42 rfl (lv_at hl 0 rfl) ?_
        refine xg_X6_firstBoard F C ht18 ux_696 (fun _ h9 => h9) dX11_board_43 ?_
        refine lv_aload_n F.1 F.2.1 dX11_board_46 rfl (lv_at hl 0 rfl) ?_
        refine xg_X6_size F C ht18 ux_669 (fun _ h9 => h9) dX11_board_47 ?_
        refine lv_iadd (x := xi σ13 136 a16) (y := xi σ13 130 a16) F.1 F.2.1 dX11_board_50 ?_
        refine lv_iconst (v := 1) F.1 F.2.1 dX11_board_51 (by decide) ?_
        refine lv_isub (x := (xi σ13 136 a16) + (xi σ13 130 a16)) (y := 1) F.1 F.2.1 dX11_board_52 ?_
        refine xk_X11_isWithin F C l1 (xi σ13 136 a16) (((xi σ13 136 a16) + (xi σ13 130 a16)) - 1) h ux_501 (Nat.le_of_ble_eq_true rfl) (Nat.le_of_ble_eq_true rfl) hl.1 (by simp [Value.category]) dX11_board_53 (fun r21 σ20 H locs h C => ?_)
        refine lv_if_eq (tgt := 61) F.1 F.2.1 dX11_board_56 (by decide) (fun c22 => ?_) (fun c22 => ?_)
        · replace h := h.1 c22
          exact tX11_board_61 l hlt G σ0 F hr hlocks hout Q QX (wX11_board_2 k67 Q QX n) (fun l0 l1 l2 σ9 H locs ls h C hl => ih l0 l1 l2 σ9 H locs ls h C hl) l0 l1 l2 σ20 H locs ls h C (lv_sub hl [1, 2, 3] rfl)
        · replace h := h.2 c22
          refine lv_iload_n F.1 F.2.1 dX11_board_59 rfl (lv_at hl 3 rfl) ?_
          refine vx_ret ?_
          exact kx_iret F C hr hlocks h dX11_board_60
set_option maxRecDepth 100000 in
set_option maxHeartbeats 4000000 in
theorem hx_X11_board (l : Launch) (hlt : l.stackTraces = false) (G : kx_G) (l0 : Nat) (l1 : Int32) (σ : kx_S) (Q : Int32 → kx_S → Prop) (QX : String → kx_S → Prop) (h : wX11_board l0 l1 σ Q QX) : kx_MX l G yX11_board cX11_board 4 (some .int) (6) (82) [.ref l0, .int l1] σ (kx_ri Q) QX := by
  refine kx_enterX (by decide) rfl (Nat.le_of_ble_eq_true rfl) ?_
  intro p e s m below meth c ls F hr hlocks C hout hl
  have hl : lv_has ls 4 [(0, .ref l0), (1, .int l1)] := hl
  obtain ⟨H, eH⟩ : ∃ z9, z9 = s.heap := ⟨_, rfl⟩
  obtain ⟨locs, eL⟩ : ∃ z9 : List Loc, z9 = [] := ⟨_, rfl⟩
  rw [← eH, ← eL] at C
  rw [← eH, ← eL]
  obtain ⟨σ0, e0⟩ : ∃ z9, z9 = σ := ⟨_, rfl⟩
  have C : kx_X G (xc σ0) s H locs σ := by rw [e0]; exact C
  suffices hgo : kx_W p l e (6) (82) (xc σ0) s m ([.ref l0, .int l1] : List Value).toArray below meth c H locs σ (vx_MQ below (kx_Q G σ0 (kx_ri Q)) (kx_XC G σ0 QX) ([.ref l0, .int l1] : List Value).toArray s (kx_N - xc σ0) (600 * (kx_N - xc σ0)) (kx_A G)) (F0 m 0 ls []) by rw [e0] at hgo; exact hgo
  clear e0
  refine lv_iconst (v := 0) F.1 F.2.1 dX11_board_0 (by decide) ?_
  refine lv_istore_n (lv' := [(2, .int 0), (0, .ref l0), (1, .int l1)]) F.1 F.2.1 dX11_board_1 rfl hl (by decide) rfl (fun ls hl => ?_)
  obtain ⟨n23, h⟩ := h
  exact tX11_board_2 l hlt G σ0 F hr hlocks hout Q QX (wX11_board_67 Q QX) (tX11_board_67 l hlt G σ0 F hr hlocks hout Q QX) n23 l0 l1 0 σ H locs ls h C (lv_sub hl [1, 2, 0] rfl)
section
variable {p : Program} {l : Launch} {e : Env} {fr lo c0 : Nat} {s : State} {m : MethodId} {args : Array Value} {below : List Frame} {meth : Method} {c : Code} {H : Heap} {locs : List Loc} {Q : State → Prop}
variable {cc : ByteArray} {pc nL index : Nat} {ls : Array Slot} {rest : List Value} {G : kx_G} {σ : kx_S} {own : String}
theorem xk_X11_board {P : Int32 → kx_S → Prop} {PX : String → kx_S → Prop} (hlt : l.stackTraces = false) (F : CallFix p m c cc nL s args kt_ own) (C : kx_X G c0 s H locs σ) (l0 : Nat) (l1 : Int32) (ha : xt σ l0 = 13) (h : wX11_board l0 l1 σ P PX) (hw : Cond.methodLink own index yX11_board ∈ kt_) (h1 : (6) + 1 ≤ fr) (h2 : 8 + (4 + 11) + (82) ≤ lo) (hsz : ls.size = nL) (hW : (rest.map fun v => v.category).sum ≤ 8) (hdg : decode cc pc = .ok (.invokevirtual index, 3)) (kx : ∀ (E : String) (ce : Cell) (q9 : Addr) (u : kx_S) (H1 : Heap) (locs1 : List Loc), PX E u → kx_X G c0 s H1 locs1 u → H1[q9]? = some ce → ce.vm = .none → s.vm.findClass E = some ce.cls → vx_W p l e (kx_rm fr lo c0) s m args below meth c H1 locs1 (xc u - c0) (600 * (xc u - c0)) Q (F0 m pc ls rest) q9) (kk : ∀ (r : Int32) (u : kx_S) (H1 : Heap) (locs1 : List Loc), P r u → kx_X G c0 s H1 locs1 u → kx_W p l e fr lo c0 s m args below meth c H1 locs1 u Q (F0 m (pc + 3) ls (.int r :: rest))) : kx_W p l e fr lo c0 s m args below meth c H locs σ Q (F0 m pc ls (.int l1 :: .ref l0 :: rest)) :=
  kx_cVX (n := 1) (As := [.int l1]) (Cn := RX11) F C (hx_X11_board l hlt G l0 l1 σ P PX h) (kt_V hw ux_719 ux_720 ux_117 ux_718) (by decide +kernel) ⟨h1, h2⟩ (kx_recv C (by rw [ha]; decide) (kx_e13 ha) rfl) rfl hsz hW hdg kx (fun v u H1 locs1 hP9 C9 => by obtain ⟨r, hv, hp⟩ := hP9; subst hv; exact kk r u H1 locs1 hp C9)
end
theorem dX11_paid_0 : decode cX11_paid 0 = .ok (.iload_n 1, 1) := by decide +kernel
theorem dX11_paid_1 : decode cX11_paid 1 = .ok (.iconst 0, 1) := by decide +kernel
theorem dX11_paid_2 : decode cX11_paid 2 = .ok (.bipush 15, 2) := by decide +kernel
theorem dX11_paid_4 : decode cX11_paid 4 = .ok (.invokestatic 65, 3) := by decide +kernel
theorem dX11_paid_7 : decode cX11_paid 7 = .ok (.ifCond .ne 14, 3) := by decide +kernel
theorem dX11_paid_10 : decode cX11_paid 10 = .ok (.new 350, 3) := by decide +kernel
theorem dX11_paid_13 : decode cX11_paid 13 = .ok (.dup, 1) := by decide +kernel
theorem dX11_paid_14 : decode cX11_paid 14 = .ok (.ldc_w 389, 3) := by decide +kernel
theorem dX11_paid_17 : decode cX11_paid 17 = .ok (.invokespecial 354, 3) := by decide +kernel
theorem dX11_paid_20 : decode cX11_paid 20 = .ok (.athrow, 1) := by decide +kernel
theorem dX11_paid_21 : decode cX11_paid 21 = .ok (.aload_n 0, 1) := by decide +kernel
theorem dX11_paid_22 : decode cX11_paid 22 = .ok (.getfield 51, 3) := by decide +kernel
theorem dX11_paid_25 : decode cX11_paid 25 = .ok (.iload_n 1, 1) := by decide +kernel
theorem dX11_paid_26 : decode cX11_paid 26 = .ok (.laload, 1) := by decide +kernel
theorem dX11_paid_27 : decode cX11_paid 27 = .ok (.lreturn, 1) := by decide +kernel
def wX11_paid (l0 : Nat) (l1 : Int32) (σ : kx_S) (Q : Int64 → kx_S → Prop) (QX : String → kx_S → Prop) : Prop := wX11_isWithin l1 0 15 σ (fun r2 σ1 => ((¬ r2 = 0 → xt σ1 l0 = 13 ∧ ∃ a5, xr σ1 216 l0 = some a5 ∧ xt σ1 a5 = 21 ∧ vp_in l1 (xn σ1 a5) ∧ Q (xal σ1 a5 l1.toNatClampNeg) σ1) ∧
  (r2 = 0 → xc σ1 < kx_N ∧ QX pz_N (xbump σ1))))
set_option maxRecDepth 100000 in
set_option maxHeartbeats 4000000 in
theorem hx_X11_paid (l : Launch) (hlt : l.stackTraces = false) (G : kx_G) (l0 : Nat) (l1 : Int32) (σ : kx_S) (Q : Int64 → kx_S → Prop) (QX : String → kx_S → Prop) (h : wX11_paid l0 l1 σ Q QX) : kx_MX l G yX11_paid cX11_paid 2 (some .long) (6) (82) [.ref l0, .int l1] σ (kx_rl Q) QX := by
  refine kx_enterX (by decide) rfl (Nat.le_of_ble_eq_true rfl) ?_
  intro p e s m below meth c ls F hr hlocks C hout hl
  have hl : lv_has ls 2 [(0, .ref l0), (1, .int l1)] := hl
  obtain ⟨H, eH⟩ : ∃ z9, z9 = s.heap := ⟨_, rfl⟩
  obtain ⟨locs, eL⟩ : ∃ z9 : List Loc, z9 = [] := ⟨_, rfl⟩
  rw [← eH, ← eL] at C
  rw [← eH, ← eL]
  obtain ⟨σ0, e0⟩ : ∃ z9, z9 = σ := ⟨_, rfl⟩
  have C : kx_X G (xc σ0) s H locs σ := by rw [e0]; exact C
  suffices hgo : kx_W p l e (6) (82) (xc σ0) s m ([.ref l0, .int l1] : List Value).toArray below meth c H locs σ (vx_MQ below (kx_Q G σ0 (kx_rl Q)) (kx_XC G σ0 QX) ([.ref l0, .int l1] : List Value).toArray s (kx_N - xc σ0) (600 * (kx_N - xc σ0)) (kx_A G)) (F0 m 0 ls []) by rw [e0] at hgo; exact hgo
  clear e0
  refine lv_iload_n F.1 F.2.1 dX11_paid_0 rfl (lv_at hl 1 rfl) ?_
  refine lv_iconst (v := 0) F.1 F.2.1 dX11_paid_1 (by decide) ?_
  refine lv_bipush (v := 15) F.1 F.2.1 dX11_paid_2 (by decide) ?_
  refine xk_X11_isWithin F C l1 0 15 h ux_501 (Nat.le_of_ble_eq_true rfl) (Nat.le_of_ble_eq_true rfl) hl.1 (by simp [Value.category]) dX11_paid_4 (fun r2 σ1 H locs h C => ?_)
  refine lv_if_ne (tgt := 21) F.1 F.2.1 dX11_paid_7 (by decide) (fun c3 => ?_) (fun c3 => ?_)
  · replace h := h.1 c3
    refine lv_aload_n F.1 F.2.1 dX11_paid_21 rfl (lv_at hl 0 rfl) ?_
    obtain ⟨ht4, h⟩ := h
    refine xg_X11_accounts F C ht4 ux_494 (fun _ h9 => h9) dX11_paid_22 ?_
    obtain ⟨a5, ea6, h⟩ := h
    refine xq_nn ea6 ?_
    refine lv_iload_n F.1 F.2.1 dX11_paid_25 rfl (lv_at hl 1 rfl) ?_
    obtain ⟨ht7, h⟩ := h
    obtain ⟨hn8, h⟩ := h
    refine kx_lald F C ht7 hn8 dX11_paid_26 ?_
    refine vx_ret ?_
    exact kx_lret F C hr hlocks h dX11_paid_27
  · replace h := h.2 c3
    obtain ⟨hn9, h⟩ := h
    exact kx_throwN (is := 389) hlt (text := "no such mark") (by decide +kernel) F C hn9 h hl.1 ux_504 ux_505 dX11_paid_10 dX11_paid_13 dX11_paid_14 dX11_paid_17 dX11_paid_20 hout (Nat.le_of_ble_eq_true rfl) (by simp [Value.category]) hlocks
section
variable {p : Program} {l : Launch} {e : Env} {fr lo c0 : Nat} {s : State} {m : MethodId} {args : Array Value} {below : List Frame} {meth : Method} {c : Code} {H : Heap} {locs : List Loc} {Q : State → Prop}
variable {cc : ByteArray} {pc nL index : Nat} {ls : Array Slot} {rest : List Value} {G : kx_G} {σ : kx_S} {own : String}
theorem xk_X11_paid {P : Int64 → kx_S → Prop} {PX : String → kx_S → Prop} (hlt : l.stackTraces = false) (F : CallFix p m c cc nL s args kt_ own) (C : kx_X G c0 s H locs σ) (l0 : Nat) (l1 : Int32) (ha : xt σ l0 = 13) (h : wX11_paid l0 l1 σ P PX) (hw : Cond.methodLink own index yX11_paid ∈ kt_) (h1 : (6) + 1 ≤ fr) (h2 : 8 + (2 + 11) + (82) ≤ lo) (hsz : ls.size = nL) (hW : (rest.map fun v => v.category).sum ≤ 8) (hdg : decode cc pc = .ok (.invokevirtual index, 3)) (kx : ∀ (E : String) (ce : Cell) (q9 : Addr) (u : kx_S) (H1 : Heap) (locs1 : List Loc), PX E u → kx_X G c0 s H1 locs1 u → H1[q9]? = some ce → ce.vm = .none → s.vm.findClass E = some ce.cls → vx_W p l e (kx_rm fr lo c0) s m args below meth c H1 locs1 (xc u - c0) (600 * (xc u - c0)) Q (F0 m pc ls rest) q9) (kk : ∀ (r : Int64) (u : kx_S) (H1 : Heap) (locs1 : List Loc), P r u → kx_X G c0 s H1 locs1 u → kx_W p l e fr lo c0 s m args below meth c H1 locs1 u Q (F0 m (pc + 3) ls (.long r :: rest))) : kx_W p l e fr lo c0 s m args below meth c H locs σ Q (F0 m pc ls (.int l1 :: .ref l0 :: rest)) :=
  kx_cVX (n := 1) (As := [.int l1]) (Cn := RX11) F C (hx_X11_paid l hlt G l0 l1 σ P PX h) (kt_V hw ux_722 ux_723 ux_117 ux_721) (by decide +kernel) ⟨h1, h2⟩ (kx_recv C (by rw [ha]; decide) (kx_e13 ha) rfl) rfl hsz hW hdg kx (fun v u H1 locs1 hP9 C9 => by obtain ⟨r, hv, hp⟩ := hP9; subst hv; exact kk r u H1 locs1 hp C9)
end
theorem dX11_countJams_0 : decode cX11_countJams 0 = .ok (.iconst 0, 1) := by decide +kernel
theorem dX11_countJams_1 : decode cX11_countJams 1 = .ok (.istore_n 2, 1) := by decide +kernel
theorem dX11_countJams_2 : decode cX11_countJams 2 = .ok (.iconst 0, 1) := by decide +kernel
theorem dX11_countJams_3 : decode cX11_countJams 3 = .ok (.istore_n 3, 1) := by decide +kernel
theorem dX11_countJams_4 : decode cX11_countJams 4 = .ok (.iload_n 3, 1) := by decide +kernel
theorem dX11_countJams_5 : decode cX11_countJams 5 = .ok (.aload_n 0, 1) := by decide +kernel
theorem dX11_countJams_6 : decode cX11_countJams 6 = .ok (.getfield 10, 3) := by decide +kernel
theorem dX11_countJams_9 : decode cX11_countJams 9 = .ok (.invokeinterface 59 1, 5) := by decide +kernel
theorem dX11_countJams_14 : decode cX11_countJams 14 = .ok (.if_icmp .ge 91, 3) := by decide +kernel
theorem dX11_countJams_17 : decode cX11_countJams 17 = .ok (.aload_n 0, 1) := by decide +kernel
theorem dX11_countJams_18 : decode cX11_countJams 18 = .ok (.getfield 10, 3) := by decide +kernel
theorem dX11_countJams_21 : decode cX11_countJams 21 = .ok (.iload_n 3, 1) := by decide +kernel
theorem dX11_countJams_22 : decode cX11_countJams 22 = .ok (.invokeinterface 69 2, 5) := by decide +kernel
theorem dX11_countJams_27 : decode cX11_countJams 27 = .ok (.checkcast 73, 3) := by decide +kernel
theorem dX11_countJams_30 : decode cX11_countJams 30 = .ok (.astore 4, 2) := by decide +kernel
theorem dX11_countJams_32 : decode cX11_countJams 32 = .ok (.iconst 0, 1) := by decide +kernel
theorem dX11_countJams_33 : decode cX11_countJams 33 = .ok (.istore 5, 2) := by decide +kernel
theorem dX11_countJams_35 : decode cX11_countJams 35 = .ok (.iload 5, 2) := by decide +kernel
theorem dX11_countJams_37 : decode cX11_countJams 37 = .ok (.aload 4, 2) := by decide +kernel
theorem dX11_countJams_39 : decode cX11_countJams 39 = .ok (.getfield 78, 3) := by decide +kernel
theorem dX11_countJams_42 : decode cX11_countJams 42 = .ok (.invokeinterface 59 1, 5) := by decide +kernel
theorem dX11_countJams_47 : decode cX11_countJams 47 = .ok (.if_icmp .ge 52, 3) := by decide +kernel
theorem dX11_countJams_50 : decode cX11_countJams 50 = .ok (.aload 4, 2) := by decide +kernel
theorem dX11_countJams_52 : decode cX11_countJams 52 = .ok (.getfield 78, 3) := by decide +kernel
theorem dX11_countJams_55 : decode cX11_countJams 55 = .ok (.iload 5, 2) := by decide +kernel
theorem dX11_countJams_57 : decode cX11_countJams 57 = .ok (.invokeinterface 69 2, 5) := by decide +kernel
theorem dX11_countJams_62 : decode cX11_countJams 62 = .ok (.checkcast 81, 3) := by decide +kernel
theorem dX11_countJams_65 : decode cX11_countJams 65 = .ok (.astore 6, 2) := by decide +kernel
theorem dX11_countJams_67 : decode cX11_countJams 67 = .ok (.iload_n 1, 1) := by decide +kernel
theorem dX11_countJams_68 : decode cX11_countJams 68 = .ok (.ifCond .eq 14, 3) := by decide +kernel
theorem dX11_countJams_71 : decode cX11_countJams 71 = .ok (.aload 6, 2) := by decide +kernel
theorem dX11_countJams_73 : decode cX11_countJams 73 = .ok (.getfield 371, 3) := by decide +kernel
theorem dX11_countJams_76 : decode cX11_countJams 76 = .ok (.ifCond .eq 17, 3) := by decide +kernel
theorem dX11_countJams_79 : decode cX11_countJams 79 = .ok (.goto 11, 3) := by decide +kernel
theorem dX11_countJams_82 : decode cX11_countJams 82 = .ok (.aload 6, 2) := by decide +kernel
theorem dX11_countJams_84 : decode cX11_countJams 84 = .ok (.getfield 276, 3) := by decide +kernel
theorem dX11_countJams_87 : decode cX11_countJams 87 = .ok (.ifCond .eq 6, 3) := by decide +kernel
theorem dX11_countJams_90 : decode cX11_countJams 90 = .ok (.iinc 2 1, 3) := by decide +kernel
theorem dX11_countJams_93 : decode cX11_countJams 93 = .ok (.iinc 5 1, 3) := by decide +kernel
theorem dX11_countJams_96 : decode cX11_countJams 96 = .ok (.goto (-61), 3) := by decide +kernel
theorem dX11_countJams_99 : decode cX11_countJams 99 = .ok (.iinc 3 1, 3) := by decide +kernel
theorem dX11_countJams_102 : decode cX11_countJams 102 = .ok (.goto (-98), 3) := by decide +kernel
theorem dX11_countJams_105 : decode cX11_countJams 105 = .ok (.iload_n 2, 1) := by decide +kernel
theorem dX11_countJams_106 : decode cX11_countJams 106 = .ok (.ireturn, 1) := by decide +kernel
def wX11_countJams_90 (k93 : Nat → Int32 → Int32 → Int32 → Nat → Int32 → kx_S → Prop) (Q : Int32 → kx_S → Prop) (l0 : Nat) (l1 : Int32) (l2 : Int32) (l3 : Int32) (l4 : Nat) (l5 : Int32) (σ : kx_S) : Prop := ∀ v1 : Int32, v1 = l2 + 1 → k93 l0 l1 v1 l3 l4 l5 σ
def wX11_countJams_99 (k4 : Nat → Int32 → Int32 → Int32 → kx_S → Prop) (Q : Int32 → kx_S → Prop) (l0 : Nat) (l1 : Int32) (l2 : Int32) (l3 : Int32) (σ : kx_S) : Prop := ∀ v2 : Int32, v2 = l3 + 1 → k4 l0 l1 l2 v2 σ
def wX11_countJams_93 (k35 : Nat → Int32 → Int32 → Int32 → Nat → Int32 → kx_S → Prop) (Q : Int32 → kx_S → Prop) (l0 : Nat) (l1 : Int32) (l2 : Int32) (l3 : Int32) (l4 : Nat) (l5 : Int32) (σ : kx_S) : Prop := ∀ v3 : Int32, v3 = l5 + 1 → k35 l0 l1 l2 l3 l4 v3 σ
def wX11_countJams_35 (k99 : Nat → Int32 → Int32 → Int32 → kx_S → Prop) (Q : Int32 → kx_S → Prop) : Nat → Nat → Int32 → Int32 → Int32 → Nat → Int32 → kx_S → Prop
  | 0, _, _, _, _, _, _, _ => False
  | n + 1, l0, l1, l2, l3, l4, l5, σ => xt σ l4 = 10 ∧ ∃ a5, xr σ 163 l4 = some a5 ∧ xt σ a5 = 1 ∧ wJx4a65c_size_8abf5 a5 σ (fun r8 σ7 => ((r8 ≤ l5 → k99 l0 l1 l2 l3 σ7) ∧
    (¬ (r8 ≤ l5) → xt σ7 l4 = 10 ∧ ∃ a12, xr σ7 163 l4 = some a12 ∧ xt σ7 a12 = 1 ∧ wJx4a65c_get_915e3 a12 l5 σ7 (fun q15 σ14 => ∃ a17, q15 = some a17 ∧ xt σ14 a17 = 3 ∧ ((l1 = 0 → (((xi σ14 50 a17) = 0 → wX11_countJams_93 (wX11_countJams_35 k99 Q n) Q l0 l1 l2 l3 l4 l5 σ14) ∧
        (¬ ((xi σ14 50 a17) = 0) → wX11_countJams_90 (wX11_countJams_93 (wX11_countJams_35 k99 Q n) Q) Q l0 l1 l2 l3 l4 l5 σ14))) ∧
      (¬ (l1 = 0) → (((xi σ14 51 a17) = 0 → wX11_countJams_93 (wX11_countJams_35 k99 Q n) Q l0 l1 l2 l3 l4 l5 σ14) ∧
        (¬ ((xi σ14 51 a17) = 0) → wX11_countJams_90 (wX11_countJams_93 (wX11_countJams_35 k99 Q n) Q) Q l0 l1 l2 l3 l4 l5 σ14))))))))
def wX11_countJams_4 (Q : Int32 → kx_S → Prop) : Nat → Nat → Int32 → Int32 → Int32 → kx_S → Prop
  | 0, _, _, _, _, _ => False
  | n + 1, l0, l1, l2, l3, σ => xt σ l0 = 13 ∧ ∃ a24, xr σ 208 l0 = some a24 ∧ xt σ a24 = 1 ∧ wJx4a65c_size_8abf5 a24 σ (fun r27 σ26 => ((r27 ≤ l3 → Q l2 σ26) ∧
    (¬ (r27 ≤ l3) → xt σ26 l0 = 13 ∧ ∃ a31, xr σ26 208 l0 = some a31 ∧ xt σ26 a31 = 1 ∧ wJx4a65c_get_915e3 a31 l3 σ26 (fun q34 σ33 => ∃ a36, q34 = some a36 ∧ xt σ33 a36 = 10 ∧ ∃ j, wX11_countJams_35 (wX11_countJams_99 (wX11_countJams_4 Q n) Q) Q j l0 l1 l2 l3 a36 0 σ33))))
def wX11_countJams (l0 : Nat) (l1 : Int32) (σ : kx_S) (Q : Int32 → kx_S → Prop) : Prop := ∃ j, wX11_countJams_4 Q j l0 l1 0 0 σ
set_option maxRecDepth 100000 in
set_option maxHeartbeats 4000000 in
theorem tX11_countJams_90 (l : Launch) (G : kx_G) (σ0 : kx_S) {p : Program} {e : Env} {s : State} {m : MethodId} {args : Array Value} {below : List Frame} {meth : Method} {c : Code} (F : CallFix p m c cX11_countJams 7 s args kt_ RX11) (hr : meth.sig.returnType = (some .int)) (hlocks : meth.locks = false) (Q : Int32 → kx_S → Prop) (k93 : Nat → Int32 → Int32 → Int32 → Nat → Int32 → kx_S → Prop) (hk93 : ∀ (l0 : Nat) (l1 : Int32) (l2 : Int32) (l3 : Int32) (l4 : Nat) (l5 : Int32) (σ : kx_S) (H : Heap) (locs : List Loc) (ls : Array Slot), k93 l0 l1 l2 l3 l4 l5 σ → kx_X G (xc σ0) s H locs σ → lv_has ls 7 [(0, .ref l0), (1, .int l1), (2, .int l2), (3, .int l3), (4, .ref l4), (5, .int l5)] → kx_W p l e (3) (64) (xc σ0) s m args below meth c H locs σ (MQ below (kx_Q G σ0 (kx_ri Q)) args s (kx_N - xc σ0) (600 * (kx_N - xc σ0)) (kx_A G)) (F0 m 93 ls [])) : ∀ (l0 : Nat) (l1 : Int32) (l2 : Int32) (l3 : Int32) (l4 : Nat) (l5 : Int32) (σ : kx_S) (H : Heap) (locs : List Loc) (ls : Array Slot), wX11_countJams_90 k93 Q l0 l1 l2 l3 l4 l5 σ → kx_X G (xc σ0) s H locs σ → lv_has ls 7 [(0, .ref l0), (1, .int l1), (2, .int l2), (3, .int l3), (4, .ref l4), (5, .int l5)] → kx_W p l e (3) (64) (xc σ0) s m args below meth c H locs σ (MQ below (kx_Q G σ0 (kx_ri Q)) args s (kx_N - xc σ0) (600 * (kx_N - xc σ0)) (kx_A G)) (F0 m 90 ls []) := by
  intro l0 l1 l2 l3 l4 l5 σ H locs ls h C hl
  obtain ⟨v1, ev1⟩ : ∃ z9 : Int32, z9 = l2 + 1 := ⟨_, rfl⟩
  replace h := h v1 ev1
  refine lv_iinc (v := v1) (lv' := [(2, .int v1), (0, .ref l0), (1, .int l1), (3, .int l3), (4, .ref l4), (5, .int l5)]) F.1 F.2.1 dX11_countJams_90 hl (k := 2) rfl (by rw [ev1]; rfl) (by decide) rfl (fun ls hl => ?_)
  exact hk93 l0 l1 v1 l3 l4 l5 σ H locs ls h C (lv_sub hl [1, 2, 0, 3, 4, 5] rfl)
set_option maxRecDepth 100000 in
set_option maxHeartbeats 4000000 in
theorem tX11_countJams_99 (l : Launch) (G : kx_G) (σ0 : kx_S) {p : Program} {e : Env} {s : State} {m : MethodId} {args : Array Value} {below : List Frame} {meth : Method} {c : Code} (F : CallFix p m c cX11_countJams 7 s args kt_ RX11) (hr : meth.sig.returnType = (some .int)) (hlocks : meth.locks = false) (Q : Int32 → kx_S → Prop) (k4 : Nat → Int32 → Int32 → Int32 → kx_S → Prop) (hk4 : ∀ (l0 : Nat) (l1 : Int32) (l2 : Int32) (l3 : Int32) (σ : kx_S) (H : Heap) (locs : List Loc) (ls : Array Slot), k4 l0 l1 l2 l3 σ → kx_X G (xc σ0) s H locs σ → lv_has ls 7 [(0, .ref l0), (1, .int l1), (2, .int l2), (3, .int l3)] → kx_W p l e (3) (64) (xc σ0) s m args below meth c H locs σ (MQ below (kx_Q G σ0 (kx_ri Q)) args s (kx_N - xc σ0) (600 * (kx_N - xc σ0)) (kx_A G)) (F0 m 4 ls [])) : ∀ (l0 : Nat) (l1 : Int32) (l2 : Int32) (l3 : Int32) (σ : kx_S) (H : Heap) (locs : List Loc) (ls : Array Slot), wX11_countJams_99 k4 Q l0 l1 l2 l3 σ → kx_X G (xc σ0) s H locs σ → lv_has ls 7 [(0, .ref l0), (1, .int l1), (2, .int l2), (3, .int l3)] → kx_W p l e (3) (64) (xc σ0) s m args below meth c H locs σ (MQ below (kx_Q G σ0 (kx_ri Q)) args s (kx_N - xc σ0) (600 * (kx_N - xc σ0)) (kx_A G)) (F0 m 99 ls []) := by
  intro l0 l1 l2 l3 σ H locs ls h C hl
  obtain ⟨v2, ev2⟩ : ∃ z9 : Int32, z9 = l3 + 1 := ⟨_, rfl⟩
  replace h := h v2 ev2
  refine lv_iinc (v := v2) (lv' := [(3, .int v2), (0, .ref l0), (1, .int l1), (2, .int l2)]) F.1 F.2.1 dX11_countJams_99 hl (k := 3) rfl (by rw [ev2]; rfl) (by decide) rfl (fun ls hl => ?_)
  refine lv_goto (tgt := 4) F.1 F.2.1 dX11_countJams_102 (by decide) ?_
  exact hk4 l0 l1 l2 v2 σ H locs ls h C (lv_sub hl [1, 2, 3, 0] rfl)
set_option maxRecDepth 100000 in
set_option maxHeartbeats 4000000 in
theorem tX11_countJams_93 (l : Launch) (G : kx_G) (σ0 : kx_S) {p : Program} {e : Env} {s : State} {m : MethodId} {args : Array Value} {below : List Frame} {meth : Method} {c : Code} (F : CallFix p m c cX11_countJams 7 s args kt_ RX11) (hr : meth.sig.returnType = (some .int)) (hlocks : meth.locks = false) (Q : Int32 → kx_S → Prop) (k35 : Nat → Int32 → Int32 → Int32 → Nat → Int32 → kx_S → Prop) (hk35 : ∀ (l0 : Nat) (l1 : Int32) (l2 : Int32) (l3 : Int32) (l4 : Nat) (l5 : Int32) (σ : kx_S) (H : Heap) (locs : List Loc) (ls : Array Slot), k35 l0 l1 l2 l3 l4 l5 σ → kx_X G (xc σ0) s H locs σ → lv_has ls 7 [(0, .ref l0), (1, .int l1), (2, .int l2), (3, .int l3), (4, .ref l4), (5, .int l5)] → kx_W p l e (3) (64) (xc σ0) s m args below meth c H locs σ (MQ below (kx_Q G σ0 (kx_ri Q)) args s (kx_N - xc σ0) (600 * (kx_N - xc σ0)) (kx_A G)) (F0 m 35 ls [])) : ∀ (l0 : Nat) (l1 : Int32) (l2 : Int32) (l3 : Int32) (l4 : Nat) (l5 : Int32) (σ : kx_S) (H : Heap) (locs : List Loc) (ls : Array Slot), wX11_countJams_93 k35 Q l0 l1 l2 l3 l4 l5 σ → kx_X G (xc σ0) s H locs σ → lv_has ls 7 [(0, .ref l0), (1, .int l1), (2, .int l2), (3, .int l3), (4, .ref l4), (5, .int l5)] → kx_W p l e (3) (64) (xc σ0) s m args below meth c H locs σ (MQ below (kx_Q G σ0 (kx_ri Q)) args s (kx_N - xc σ0) (600 * (kx_N - xc σ0)) (kx_A G)) (F0 m 93 ls []) := by
  intro l0 l1 l2 l3 l4 l5 σ H locs ls h C hl
  obtain ⟨v3, ev3⟩ : ∃ z9 : Int32, z9 = l5 + 1 := ⟨_, rfl⟩
  replace h := h v3 ev3
  refine lv_iinc (v := v3) (lv' := [(5, .int v3), (0, .ref l0), (1, .int l1), (2, .int l2), (3, .int l3), (4, .ref l4)]) F.1 F.2.1 dX11_countJams_93 hl (k := 5) rfl (by rw [ev3]; rfl) (by decide) rfl (fun ls hl => ?_)
  refine lv_goto (tgt := 35) F.1 F.2.1 dX11_countJams_96 (by decide) ?_
  exact hk35 l0 l1 l2 l3 l4 v3 σ H locs ls h C (lv_sub hl [1, 2, 3, 4, 5, 0] rfl)
set_option maxRecDepth 100000 in
set_option maxHeartbeats 4000000 in
theorem tX11_countJams_35 (l : Launch) (G : kx_G) (σ0 : kx_S) {p : Program} {e : Env} {s : State} {m : MethodId} {args : Array Value} {below : List Frame} {meth : Method} {c : Code} (F : CallFix p m c cX11_countJams 7 s args kt_ RX11) (hr : meth.sig.returnType = (some .int)) (hlocks : meth.locks = false) (Q : Int32 → kx_S → Prop) (k99 : Nat → Int32 → Int32 → Int32 → kx_S → Prop) (hk99 : ∀ (l0 : Nat) (l1 : Int32) (l2 : Int32) (l3 : Int32) (σ : kx_S) (H : Heap) (locs : List Loc) (ls : Array Slot), k99 l0 l1 l2 l3 σ → kx_X G (xc σ0) s H locs σ → lv_has ls 7 [(0, .ref l0), (1, .int l1), (2, .int l2), (3, .int l3)] → kx_W p l e (3) (64) (xc σ0) s m args below meth c H locs σ (MQ below (kx_Q G σ0 (kx_ri Q)) args s (kx_N - xc σ0) (600 * (kx_N - xc σ0)) (kx_A G)) (F0 m 99 ls [])) : ∀ (n : Nat) (l0 : Nat) (l1 : Int32) (l2 : Int32) (l3 : Int32) (l4 : Nat) (l5 : Int32) (σ : kx_S) (H : Heap) (locs : List Loc) (ls : Array Slot), wX11_countJams_35 k99 Q n l0 l1 l2 l3 l4 l5 σ → kx_X G (xc σ0) s H locs σ → lv_has ls 7 [(0, .ref l0), (1, .int l1), (2, .int l2), (3, .int l3), (4, .ref l4), (5, .int l5)] → kx_W p l e (3) (64) (xc σ0) s m args below meth c H locs σ (MQ below (kx_Q G σ0 (kx_ri Q)) args s (kx_N - xc σ0) (600 * (kx_N - xc σ0)) (kx_A G)) (F0 m 35 ls []) := by
  intro n
  induction n with
  | zero => intro l0 l1 l2 l3 l4 l5 σ H locs ls h; exact h.elim
  | succ n ih =>
    intro l0 l1 l2 l3 l4 l5 σ H locs ls h C hl
    refine lv_iload F.1 F.2.1 dX11_countJams_35 (lv_at hl 5 rfl) ?_
    refine lv_aload F.1 F.2.1 dX11_countJams_37 (lv_at hl 4 rfl) ?_
    obtain ⟨ht4, h⟩ := h
    refine xg_X8_cells F C ht4 ux_513 (fun _ h9 => h9) dX11_countJams_39 ?_
    obtain ⟨a5, ea6, h⟩ := h
    refine xq_nn ea6 ?_
    obtain ⟨ht9, h⟩ := h
    refine xk_Jx4a65c_size_8abf5 F C a5 ht9 h ux_500 (Nat.le_of_ble_eq_true rfl) (Nat.le_of_ble_eq_true rfl) hl.1 (by simp [Value.category]) dX11_countJams_42 (fun r8 σ7 H locs h C => ?_)
    refine lv_icmp_ge (tgt := 99) F.1 F.2.1 dX11_countJams_47 (by decide) (fun c10 => ?_) (fun c10 => ?_)
    · replace h := h.1 c10
      exact hk99 l0 l1 l2 l3 σ7 H locs ls h C (lv_sub hl [0, 1, 2, 3] rfl)
    · replace h := h.2 c10
      refine lv_aload F.1 F.2.1 dX11_countJams_50 (lv_at hl 4 rfl) ?_
      obtain ⟨ht11, h⟩ := h
      refine xg_X8_cells F C ht11 ux_513 (fun _ h9 => h9) dX11_countJams_52 ?_
      obtain ⟨a12, ea13, h⟩ := h
      refine xq_nn ea13 ?_
      refine lv_iload F.1 F.2.1 dX11_countJams_55 (lv_at hl 5 rfl) ?_
      obtain ⟨ht16, h⟩ := h
      refine xk_Jx4a65c_get_915e3 F C a12 l5 ht16 h ux_502 (Nat.le_of_ble_eq_true rfl) (Nat.le_of_ble_eq_true rfl) hl.1 (by simp [Value.category]) dX11_countJams_57 (fun q15 σ14 H locs h C => ?_)
      obtain ⟨a17, ea18, h⟩ := h
      refine xq_nn ea18 ?_
      obtain ⟨ht19, h⟩ := h
      refine kx_cast F C (by rw [ht19]; decide) (kx_e3 ht19) rfl ux_521 dX11_countJams_62 ?_
      refine lv_astore (lv' := [(6, .ref a17), (0, .ref l0), (1, .int l1), (2, .int l2), (3, .int l3), (4, .ref l4), (5, .int l5)]) F.1 F.2.1 dX11_countJams_65 hl (by decide) rfl (fun ls hl => ?_)
      refine lv_iload_n F.1 F.2.1 dX11_countJams_67 rfl (lv_at hl 2 rfl) ?_
      refine lv_if_eq (tgt := 82) F.1 F.2.1 dX11_countJams_68 (by decide) (fun c20 => ?_) (fun c20 => ?_)
      · replace h := h.1 c20
        refine lv_aload F.1 F.2.1 dX11_countJams_82 (lv_at hl 0 rfl) ?_
        refine xg_X1_jammed F C ht19 ux_639 (fun _ h9 => h9) dX11_countJams_84 ?_
        refine lv_if_eq (tgt := 93) F.1 F.2.1 dX11_countJams_87 (by decide) (fun c21 => ?_) (fun c21 => ?_)
        · replace h := h.1 c21
          exact tX11_countJams_93 l G σ0 F hr hlocks Q (wX11_countJams_35 k99 Q n) (fun l0 l1 l2 l3 l4 l5 σ9 H locs ls h C hl => ih l0 l1 l2 l3 l4 l5 σ9 H locs ls h C hl) l0 l1 l2 l3 l4 l5 σ14 H locs ls h C (lv_sub hl [1, 2, 3, 4, 5, 6] rfl)
        · replace h := h.2 c21
          exact tX11_countJams_90 l G σ0 F hr hlocks Q (wX11_countJams_93 (wX11_countJams_35 k99 Q n) Q) (tX11_countJams_93 l G σ0 F hr hlocks Q (wX11_countJams_35 k99 Q n) (fun l0 l1 l2 l3 l4 l5 σ9 H locs ls h C hl => ih l0 l1 l2 l3 l4 l5 σ9 H locs ls h C hl)) l0 l1 l2 l3 l4 l5 σ14 H locs ls h C (lv_sub hl [1, 2, 3, 4, 5, 6] rfl)
      · replace h := h.2 c20
        refine lv_aload F.1 F.2.1 dX11_countJams_71 (lv_at hl 0 rfl) ?_
        refine xg_X1_known F C ht19 ux_700 (fun _ h9 => h9) dX11_countJams_73 ?_
        refine lv_if_eq (tgt := 93) F.1 F.2.1 dX11_countJams_76 (by decide) (fun c22 => ?_) (fun c22 => ?_)
        · replace h := h.1 c22
          exact tX11_countJams_93 l G σ0 F hr hlocks Q (wX11_countJams_35 k99 Q n) (fun l0 l1 l2 l3 l4 l5 σ9 H locs ls h C hl => ih l0 l1 l2 l3 l4 l5 σ9 H locs ls h C hl) l0 l1 l2 l3 l4 l5 σ14 H locs ls h C (lv_sub hl [1, 2, 3, 4, 5, 6] rfl)
        · replace h := h.2 c22
          refine lv_goto (tgt := 90) F.1 F.2.1 dX11_countJams_79 (by decide) ?_
          exact tX11_countJams_90 l G σ0 F hr hlocks Q (wX11_countJams_93 (wX11_countJams_35 k99 Q n) Q) (tX11_countJams_93 l G σ0 F hr hlocks Q (wX11_countJams_35 k99 Q n) (fun l0 l1 l2 l3 l4 l5 σ9 H locs ls h C hl => ih l0 l1 l2 l3 l4 l5 σ9 H locs ls h C hl)) l0 l1 l2 l3 l4 l5 σ14 H locs ls h C (lv_sub hl [1, 2, 3, 4, 5, 6] rfl)
set_option maxRecDepth 100000 in
set_option maxHeartbeats 4000000 in
theorem tX11_countJams_4 (l : Launch) (G : kx_G) (σ0 : kx_S) {p : Program} {e : Env} {s : State} {m : MethodId} {args : Array Value} {below : List Frame} {meth : Method} {c : Code} (F : CallFix p m c cX11_countJams 7 s args kt_ RX11) (hr : meth.sig.returnType = (some .int)) (hlocks : meth.locks = false) (Q : Int32 → kx_S → Prop) : ∀ (n : Nat) (l0 : Nat) (l1 : Int32) (l2 : Int32) (l3 : Int32) (σ : kx_S) (H : Heap) (locs : List Loc) (ls : Array Slot), wX11_countJams_4 Q n l0 l1 l2 l3 σ → kx_X G (xc σ0) s H locs σ → lv_has ls 7 [(0, .ref l0), (1, .int l1), (2, .int l2), (3, .int l3)] → kx_W p l e (3) (64) (xc σ0) s m args below meth c H locs σ (MQ below (kx_Q G σ0 (kx_ri Q)) args s (kx_N - xc σ0) (600 * (kx_N - xc σ0)) (kx_A G)) (F0 m 4 ls []) := by
  intro n
  induction n with
  | zero => intro l0 l1 l2 l3 σ H locs ls h; exact h.elim
  | succ n ih =>
    intro l0 l1 l2 l3 σ H locs ls h C hl
    refine lv_iload_n F.1 F.2.1 dX11_countJams_4 rfl (lv_at hl 3 rfl) ?_
    refine lv_aload_n F.1 F.2.1 dX11_countJams_5 rfl (lv_at hl 0 rfl) ?_
    obtain ⟨ht23, h⟩ := h
    refine xg_X11_reaches F C ht23 ux_479 (fun _ h9 => h9) dX11_countJams_6 ?_
    obtain ⟨a24, ea25, h⟩ := h
    refine xq_nn ea25 ?_
    obtain ⟨ht28, h⟩ := h
    refine xk_Jx4a65c_size_8abf5 F C a24 ht28 h ux_500 (Nat.le_of_ble_eq_true rfl) (Nat.le_of_ble_eq_true rfl) hl.1 (by simp [Value.category]) dX11_countJams_9 (fun r27 σ26 H locs h C => ?_)
    refine lv_icmp_ge (tgt := 105) F.1 F.2.1 dX11_countJams_14 (by decide) (fun c29 => ?_) (fun c29 => ?_)
    · replace h := h.1 c29
      refine lv_iload_n F.1 F.2.1 dX11_countJams_105 rfl (lv_at hl 2 rfl) ?_
      exact kx_iret F C hr hlocks h dX11_countJams_106
    · replace h := h.2 c29
      refine lv_aload_n F.1 F.2.1 dX11_countJams_17 rfl (lv_at hl 0 rfl) ?_
      obtain ⟨ht30, h⟩ := h
      refine xg_X11_reaches F C ht30 ux_479 (fun _ h9 => h9) dX11_countJams_18 ?_
      obtain ⟨a31, ea32, h⟩ := h
      refine xq_nn ea32 ?_
      refine lv_iload_n F.1 F.2.1 dX11_countJams_21 rfl (lv_at hl 3 rfl) ?_
      obtain ⟨ht35, h⟩ := h
      refine xk_Jx4a65c_get_915e3 F C a31 l3 ht35 h ux_502 (Nat.le_of_ble_eq_true rfl) (Nat.le_of_ble_eq_true rfl) hl.1 (by simp [Value.category]) dX11_countJams_22 (fun q34 σ33 H locs h C => ?_)
      obtain ⟨a36, ea37, h⟩ := h
      refine xq_nn ea37 ?_
      obtain ⟨ht38, h⟩ := h
      refine kx_cast F C (by rw [ht38]; decide) (kx_e10 ht38) rfl ux_503 dX11_countJams_27 ?_
      refine lv_astore (lv' := [(4, .ref a36), (0, .ref l0), (1, .int l1), (2, .int l2), (3, .int l3)]) F.1 F.2.1 dX11_countJams_30 hl (by decide) rfl (fun ls hl => ?_)
      refine lv_iconst (v := 0) F.1 F.2.1 dX11_countJams_32 (by decide) ?_
      refine lv_istore (lv' := [(5, .int 0), (4, .ref a36), (0, .ref l0), (1, .int l1), (2, .int l2), (3, .int l3)]) F.1 F.2.1 dX11_countJams_33 hl (by decide) rfl (fun ls hl => ?_)
      obtain ⟨n39, h⟩ := h
      exact tX11_countJams_35 l G σ0 F hr hlocks Q (wX11_countJams_99 (wX11_countJams_4 Q n) Q) (tX11_countJams_99 l G σ0 F hr hlocks Q (wX11_countJams_4 Q n) (fun l0 l1 l2 l3 σ9 H locs ls h C hl => ih l0 l1 l2 l3 σ9 H locs ls h C hl)) n39 l0 l1 l2 l3 a36 0 σ33 H locs ls h C (lv_sub hl [2, 3, 4, 5, 1, 0] rfl)
set_option maxRecDepth 100000 in
set_option maxHeartbeats 4000000 in
theorem hx_X11_countJams (l : Launch) (G : kx_G) (l0 : Nat) (l1 : Int32) (σ : kx_S) (Q : Int32 → kx_S → Prop) (h : wX11_countJams l0 l1 σ Q) : kx_M l G yX11_countJams cX11_countJams 7 (some .int) (3) (64) [.ref l0, .int l1] σ (kx_ri Q) := by
  refine kx_enter (by decide) rfl (Nat.le_of_ble_eq_true rfl) ?_
  intro p e s m below meth c ls F hr hlocks C hname hl
  have hl : lv_has ls 7 [(0, .ref l0), (1, .int l1)] := hl
  obtain ⟨H, eH⟩ : ∃ z9, z9 = s.heap := ⟨_, rfl⟩
  obtain ⟨locs, eL⟩ : ∃ z9 : List Loc, z9 = [] := ⟨_, rfl⟩
  rw [← eH, ← eL] at C
  rw [← eH, ← eL]
  obtain ⟨σ0, e0⟩ : ∃ z9, z9 = σ := ⟨_, rfl⟩
  have C : kx_X G (xc σ0) s H locs σ := by rw [e0]; exact C
  suffices hgo : kx_W p l e (3) (64) (xc σ0) s m ([.ref l0, .int l1] : List Value).toArray below meth c H locs σ (MQ below (kx_Q G σ0 (kx_ri Q)) ([.ref l0, .int l1] : List Value).toArray s (kx_N - xc σ0) (600 * (kx_N - xc σ0)) (kx_A G)) (F0 m 0 ls []) by rw [e0] at hgo; exact hgo
  clear e0
  refine lv_iconst (v := 0) F.1 F.2.1 dX11_countJams_0 (by decide) ?_
  refine lv_istore_n (lv' := [(2, .int 0), (0, .ref l0), (1, .int l1)]) F.1 F.2.1 dX11_countJams_1 rfl hl (by decide) rfl (fun ls hl => ?_)
  refine lv_iconst (v := 0) F.1 F.2.1 dX11_countJams_2 (by decide) ?_
  refine lv_istore_n (lv' := [(3, .int 0), (2, .int 0), (0, .ref l0), (1, .int l1)]) F.1 F.2.1 dX11_countJams_3 rfl hl (by decide) rfl (fun ls hl => ?_)
  obtain ⟨n40, h⟩ := h
  exact tX11_countJams_4 l G σ0 F hr hlocks Q n40 l0 l1 0 0 σ H locs ls h C (lv_sub hl [2, 3, 1, 0] rfl)
section
variable {p : Program} {l : Launch} {e : Env} {fr lo c0 : Nat} {s : State} {m : MethodId} {args : Array Value} {below : List Frame} {meth : Method} {c : Code} {H : Heap} {locs : List Loc} {Q : State → Prop}
variable {cc : ByteArray} {pc nL index : Nat} {ls : Array Slot} {rest : List Value} {G : kx_G} {σ : kx_S} {own : String}
theorem xk_X11_countJams {P : Int32 → kx_S → Prop} (F : CallFix p m c cc nL s args kt_ own) (C : kx_X G c0 s H locs σ) (l0 : Nat) (l1 : Int32) (ha : xt σ l0 = 13) (h : wX11_countJams l0 l1 σ P) (hw : Cond.methodLink own index yX11_countJams ∈ kt_) (h1 : (3) + 1 ≤ fr) (h2 : 8 + (7 + 11) + (64) ≤ lo) (hsz : ls.size = nL) (hW : (rest.map fun v => v.category).sum ≤ 8) (hdg : decode cc pc = .ok (.invokevirtual index, 3)) (kk : ∀ (r : Int32) (u : kx_S) (H1 : Heap) (locs1 : List Loc), P r u → kx_X G c0 s H1 locs1 u → kx_W p l e fr lo c0 s m args below meth c H1 locs1 u Q (F0 m (pc + 3) ls (.int r :: rest))) : kx_W p l e fr lo c0 s m args below meth c H locs σ Q (F0 m pc ls (.int l1 :: .ref l0 :: rest)) :=
  kx_cV (n := 1) (As := [.int l1]) (Cn := RX11) F C (hx_X11_countJams l G l0 l1 σ P h) (kt_V hw ux_725 ux_726 ux_117 ux_724) (by decide +kernel) ⟨h1, h2⟩ (kx_recv C (by rw [ha]; decide) (kx_e13 ha) rfl) rfl hsz hW hdg (fun v u H1 locs1 hP9 C9 => by obtain ⟨r, hv, hp⟩ := hP9; subst hv; exact kk r u H1 locs1 hp C9)
end
theorem dX11_count_0 : decode cX11_count 0 = .ok (.iload_n 1, 1) := by decide +kernel
theorem dX11_count_1 : decode cX11_count 1 = .ok (.tableswitch 135 0 9 #[55, 60, 70, 80, 90, 95, 105, 111, 117, 127], 55) := by decide +kernel
theorem dX11_count_56 : decode cX11_count 56 = .ok (.aload_n 0, 1) := by decide +kernel
theorem dX11_count_57 : decode cX11_count 57 = .ok (.getfield 136, 3) := by decide +kernel
theorem dX11_count_60 : decode cX11_count 60 = .ok (.ireturn, 1) := by decide +kernel
theorem dX11_count_61 : decode cX11_count 61 = .ok (.aload_n 0, 1) := by decide +kernel
theorem dX11_count_62 : decode cX11_count 62 = .ok (.getfield 10, 3) := by decide +kernel
theorem dX11_count_65 : decode cX11_count 65 = .ok (.invokeinterface 59 1, 5) := by decide +kernel
theorem dX11_count_70 : decode cX11_count 70 = .ok (.ireturn, 1) := by decide +kernel
theorem dX11_count_71 : decode cX11_count 71 = .ok (.aload_n 0, 1) := by decide +kernel
theorem dX11_count_72 : decode cX11_count 72 = .ok (.getfield 16, 3) := by decide +kernel
theorem dX11_count_75 : decode cX11_count 75 = .ok (.invokeinterface 59 1, 5) := by decide +kernel
theorem dX11_count_80 : decode cX11_count 80 = .ok (.ireturn, 1) := by decide +kernel
theorem dX11_count_81 : decode cX11_count 81 = .ok (.aload_n 0, 1) := by decide +kernel
theorem dX11_count_82 : decode cX11_count 82 = .ok (.getfield 19, 3) := by decide +kernel
theorem dX11_count_85 : decode cX11_count 85 = .ok (.invokeinterface 59 1, 5) := by decide +kernel
theorem dX11_count_90 : decode cX11_count 90 = .ok (.ireturn, 1) := by decide +kernel
theorem dX11_count_91 : decode cX11_count 91 = .ok (.aload_n 0, 1) := by decide +kernel
theorem dX11_count_92 : decode cX11_count 92 = .ok (.getfield 342, 3) := by decide +kernel
theorem dX11_count_95 : decode cX11_count 95 = .ok (.ireturn, 1) := by decide +kernel
theorem dX11_count_96 : decode cX11_count 96 = .ok (.aload_n 0, 1) := by decide +kernel
theorem dX11_count_97 : decode cX11_count 97 = .ok (.getfield 22, 3) := by decide +kernel
theorem dX11_count_100 : decode cX11_count 100 = .ok (.invokeinterface 59 1, 5) := by decide +kernel
theorem dX11_count_105 : decode cX11_count 105 = .ok (.ireturn, 1) := by decide +kernel
theorem dX11_count_106 : decode cX11_count 106 = .ok (.aload_n 0, 1) := by decide +kernel
theorem dX11_count_107 : decode cX11_count 107 = .ok (.iconst 0, 1) := by decide +kernel
theorem dX11_count_108 : decode cX11_count 108 = .ok (.invokevirtual 391, 3) := by decide +kernel
theorem dX11_count_111 : decode cX11_count 111 = .ok (.ireturn, 1) := by decide +kernel
theorem dX11_count_112 : decode cX11_count 112 = .ok (.aload_n 0, 1) := by decide +kernel
theorem dX11_count_113 : decode cX11_count 113 = .ok (.iconst 1, 1) := by decide +kernel
theorem dX11_count_114 : decode cX11_count 114 = .ok (.invokevirtual 391, 3) := by decide +kernel
theorem dX11_count_117 : decode cX11_count 117 = .ok (.ireturn, 1) := by decide +kernel
theorem dX11_count_118 : decode cX11_count 118 = .ok (.aload_n 0, 1) := by decide +kernel
theorem dX11_count_119 : decode cX11_count 119 = .ok (.getfield 25, 3) := by decide +kernel
theorem dX11_count_122 : decode cX11_count 122 = .ok (.invokeinterface 59 1, 5) := by decide +kernel
theorem dX11_count_127 : decode cX11_count 127 = .ok (.ireturn, 1) := by decide +kernel
theorem dX11_count_128 : decode cX11_count 128 = .ok (.aload_n 0, 1) := by decide +kernel
theorem dX11_count_129 : decode cX11_count 129 = .ok (.getfield 31, 3) := by decide +kernel
theorem dX11_count_132 : decode cX11_count 132 = .ok (.getfield 145, 3) := by decide +kernel
theorem dX11_count_135 : decode cX11_count 135 = .ok (.ireturn, 1) := by decide +kernel
theorem dX11_count_136 : decode cX11_count 136 = .ok (.new 350, 3) := by decide +kernel
theorem dX11_count_139 : decode cX11_count 139 = .ok (.dup, 1) := by decide +kernel
theorem dX11_count_140 : decode cX11_count 140 = .ok (.ldc_w 395, 3) := by decide +kernel
theorem dX11_count_143 : decode cX11_count 143 = .ok (.invokespecial 354, 3) := by decide +kernel
theorem dX11_count_146 : decode cX11_count 146 = .ok (.athrow, 1) := by decide +kernel
def wX11_count (l0 : Nat) (l1 : Int32) (σ : kx_S) (Q : Int32 → kx_S → Prop) (QX : String → kx_S → Prop) : Prop := ∀ v1, v1 = l1 → ((v1 = 0 → xt σ l0 = 13 ∧ Q (xi σ 217 l0) σ) ∧
  ((v1 = 1 → xt σ l0 = 13 ∧ ∃ a6, xr σ 208 l0 = some a6 ∧ xt σ a6 = 1 ∧ wJx4a65c_size_8abf5 a6 σ (fun r9 σ8 => Q r9 σ8)) ∧
  ((v1 = 2 → xt σ l0 = 13 ∧ ∃ a13, xr σ 209 l0 = some a13 ∧ xt σ a13 = 1 ∧ wJx4a65c_size_8abf5 a13 σ (fun r16 σ15 => Q r16 σ15)) ∧
  ((v1 = 3 → xt σ l0 = 13 ∧ ∃ a20, xr σ 210 l0 = some a20 ∧ xt σ a20 = 1 ∧ wJx4a65c_size_8abf5 a20 σ (fun r23 σ22 => Q r23 σ22)) ∧
  ((v1 = 4 → xt σ l0 = 13 ∧ Q (xi σ 218 l0) σ) ∧
  ((v1 = 5 → xt σ l0 = 13 ∧ ∃ a29, xr σ 211 l0 = some a29 ∧ xt σ a29 = 1 ∧ wJx4a65c_size_8abf5 a29 σ (fun r32 σ31 => Q r32 σ31)) ∧
  ((v1 = 6 → xt σ l0 = 13 ∧ wX11_countJams l0 0 σ (fun r36 σ35 => Q r36 σ35)) ∧
  ((v1 = 7 → xt σ l0 = 13 ∧ wX11_countJams l0 1 σ (fun r40 σ39 => Q r40 σ39)) ∧
  ((v1 = 8 → xt σ l0 = 13 ∧ ∃ a44, xr σ 212 l0 = some a44 ∧ xt σ a44 = 1 ∧ wJx4a65c_size_8abf5 a44 σ (fun r47 σ46 => Q r47 σ46)) ∧
  ((v1 = 9 → xt σ l0 = 13 ∧ ∃ a51, xr σ 213 l0 = some a51 ∧ xt σ a51 = 11 ∧ Q (xi σ 177 a51) σ) ∧
  (¬ v1 = 0 → ¬ v1 = 1 → ¬ v1 = 2 → ¬ v1 = 3 → ¬ v1 = 4 → ¬ v1 = 5 → ¬ v1 = 6 → ¬ v1 = 7 → ¬ v1 = 8 → ¬ v1 = 9 → xc σ < kx_N ∧ QX pz_N (xbump σ))))))))))))
set_option maxRecDepth 100000 in
set_option maxHeartbeats 4000000 in
theorem hx_X11_count (l : Launch) (hlt : l.stackTraces = false) (G : kx_G) (l0 : Nat) (l1 : Int32) (σ : kx_S) (Q : Int32 → kx_S → Prop) (QX : String → kx_S → Prop) (h : wX11_count l0 l1 σ Q QX) : kx_MX l G yX11_count cX11_count 2 (some .int) (6) (90) [.ref l0, .int l1] σ (kx_ri Q) QX := by
  refine kx_enterX (by decide) rfl (Nat.le_of_ble_eq_true rfl) ?_
  intro p e s m below meth c ls F hr hlocks C hout hl
  have hl : lv_has ls 2 [(0, .ref l0), (1, .int l1)] := hl
  obtain ⟨H, eH⟩ : ∃ z9, z9 = s.heap := ⟨_, rfl⟩
  obtain ⟨locs, eL⟩ : ∃ z9 : List Loc, z9 = [] := ⟨_, rfl⟩
  rw [← eH, ← eL] at C
  rw [← eH, ← eL]
  obtain ⟨σ0, e0⟩ : ∃ z9, z9 = σ := ⟨_, rfl⟩
  have C : kx_X G (xc σ0) s H locs σ := by rw [e0]; exact C
  suffices hgo : kx_W p l e (6) (90) (xc σ0) s m ([.ref l0, .int l1] : List Value).toArray below meth c H locs σ (vx_MQ below (kx_Q G σ0 (kx_ri Q)) (kx_XC G σ0 QX) ([.ref l0, .int l1] : List Value).toArray s (kx_N - xc σ0) (600 * (kx_N - xc σ0)) (kx_A G)) (F0 m 0 ls []) by rw [e0] at hgo; exact hgo
  clear e0
  refine lv_iload_n F.1 F.2.1 dX11_count_0 rfl (lv_at hl 1 rfl) ?_
  refine lv_topi (fun v1 ev1 => ?_)
  replace h := h v1 ev1
  by_cases c2 : v1 = 0
  · replace h := h.1 c2
    refine lv_tableIn (off := 55) (tgt := 56) F.1 F.2.1 dX11_count_1 (by rw [c2]; decide) (by rw [c2]; decide) (by rw [c2]; decide) (by decide) ?_
    refine lv_aload_n F.1 F.2.1 dX11_count_56 rfl (lv_at hl 0 rfl) ?_
    obtain ⟨ht3, h⟩ := h
    refine xg_X11_hour F C ht3 ux_556 (fun _ h9 => h9) dX11_count_57 ?_
    refine vx_ret ?_
    exact kx_iret F C hr hlocks h dX11_count_60
  replace h := h.2
  by_cases c4 : v1 = 1
  · replace h := h.1 c4
    refine lv_tableIn (off := 60) (tgt := 61) F.1 F.2.1 dX11_count_1 (by rw [c4]; decide) (by rw [c4]; decide) (by rw [c4]; decide) (by decide) ?_
    refine lv_aload_n F.1 F.2.1 dX11_count_61 rfl (lv_at hl 0 rfl) ?_
    obtain ⟨ht5, h⟩ := h
    refine xg_X11_reaches F C ht5 ux_479 (fun _ h9 => h9) dX11_count_62 ?_
    obtain ⟨a6, ea7, h⟩ := h
    refine xq_nn ea7 ?_
    obtain ⟨ht10, h⟩ := h
    refine xk_Jx4a65c_size_8abf5 F C a6 ht10 h ux_500 (Nat.le_of_ble_eq_true rfl) (Nat.le_of_ble_eq_true rfl) hl.1 (by simp [Value.category]) dX11_count_65 (fun r9 σ8 H locs h C => ?_)
    refine vx_ret ?_
    exact kx_iret F C hr hlocks h dX11_count_70
  replace h := h.2
  by_cases c11 : v1 = 2
  · replace h := h.1 c11
    refine lv_tableIn (off := 70) (tgt := 71) F.1 F.2.1 dX11_count_1 (by rw [c11]; decide) (by rw [c11]; decide) (by rw [c11]; decide) (by decide) ?_
    refine lv_aload_n F.1 F.2.1 dX11_count_71 rfl (lv_at hl 0 rfl) ?_
    obtain ⟨ht12, h⟩ := h
    refine xg_X11_logs F C ht12 ux_480 (fun _ h9 => h9) dX11_count_72 ?_
    obtain ⟨a13, ea14, h⟩ := h
    refine xq_nn ea14 ?_
    obtain ⟨ht17, h⟩ := h
    refine xk_Jx4a65c_size_8abf5 F C a13 ht17 h ux_500 (Nat.le_of_ble_eq_true rfl) (Nat.le_of_ble_eq_true rfl) hl.1 (by simp [Value.category]) dX11_count_75 (fun r16 σ15 H locs h C => ?_)
    refine vx_ret ?_
    exact kx_iret F C hr hlocks h dX11_count_80
  replace h := h.2
  by_cases c18 : v1 = 3
  · replace h := h.1 c18
    refine lv_tableIn (off := 80) (tgt := 81) F.1 F.2.1 dX11_count_1 (by rw [c18]; decide) (by rw [c18]; decide) (by rw [c18]; decide) (by decide) ?_
    refine lv_aload_n F.1 F.2.1 dX11_count_81 rfl (lv_at hl 0 rfl) ?_
    obtain ⟨ht19, h⟩ := h
    refine xg_X11_laws F C ht19 ux_481 (fun _ h9 => h9) dX11_count_82 ?_
    obtain ⟨a20, ea21, h⟩ := h
    refine xq_nn ea21 ?_
    obtain ⟨ht24, h⟩ := h
    refine xk_Jx4a65c_size_8abf5 F C a20 ht24 h ux_500 (Nat.le_of_ble_eq_true rfl) (Nat.le_of_ble_eq_true rfl) hl.1 (by simp [Value.category]) dX11_count_85 (fun r23 σ22 H locs h C => ?_)
    refine vx_ret ?_
    exact kx_iret F C hr hlocks h dX11_count_90
  replace h := h.2
  by_cases c25 : v1 = 4
  · replace h := h.1 c25
    refine lv_tableIn (off := 90) (tgt := 91) F.1 F.2.1 dX11_count_1 (by rw [c25]; decide) (by rw [c25]; decide) (by rw [c25]; decide) (by decide) ?_
    refine lv_aload_n F.1 F.2.1 dX11_count_91 rfl (lv_at hl 0 rfl) ?_
    obtain ⟨ht26, h⟩ := h
    refine xg_X11_boards F C ht26 ux_667 (fun _ h9 => h9) dX11_count_92 ?_
    refine vx_ret ?_
    exact kx_iret F C hr hlocks h dX11_count_95
  replace h := h.2
  by_cases c27 : v1 = 5
  · replace h := h.1 c27
    refine lv_tableIn (off := 95) (tgt := 96) F.1 F.2.1 dX11_count_1 (by rw [c27]; decide) (by rw [c27]; decide) (by rw [c27]; decide) (by decide) ?_
    refine lv_aload_n F.1 F.2.1 dX11_count_96 rfl (lv_at hl 0 rfl) ?_
    obtain ⟨ht28, h⟩ := h
    refine xg_X11_crews F C ht28 ux_482 (fun _ h9 => h9) dX11_count_97 ?_
    obtain ⟨a29, ea30, h⟩ := h
    refine xq_nn ea30 ?_
    obtain ⟨ht33, h⟩ := h
    refine xk_Jx4a65c_size_8abf5 F C a29 ht33 h ux_500 (Nat.le_of_ble_eq_true rfl) (Nat.le_of_ble_eq_true rfl) hl.1 (by simp [Value.category]) dX11_count_100 (fun r32 σ31 H locs h C => ?_)
    refine vx_ret ?_
    exact kx_iret F C hr hlocks h dX11_count_105
  replace h := h.2
  by_cases c34 : v1 = 6
  · replace h := h.1 c34
    refine lv_tableIn (off := 105) (tgt := 106) F.1 F.2.1 dX11_count_1 (by rw [c34]; decide) (by rw [c34]; decide) (by rw [c34]; decide) (by decide) ?_
    refine lv_aload_n F.1 F.2.1 dX11_count_106 rfl (lv_at hl 0 rfl) ?_
    refine lv_iconst (v := 0) F.1 F.2.1 dX11_count_107 (by decide) ?_
    obtain ⟨ht37, h⟩ := h
    refine xk_X11_countJams F C l0 0 ht37 h ux_727 (Nat.le_of_ble_eq_true rfl) (Nat.le_of_ble_eq_true rfl) hl.1 (by simp [Value.category]) dX11_count_108 (fun r36 σ35 H locs h C => ?_)
    refine vx_ret ?_
    exact kx_iret F C hr hlocks h dX11_count_111
  replace h := h.2
  by_cases c38 : v1 = 7
  · replace h := h.1 c38
    refine lv_tableIn (off := 111) (tgt := 112) F.1 F.2.1 dX11_count_1 (by rw [c38]; decide) (by rw [c38]; decide) (by rw [c38]; decide) (by decide) ?_
    refine lv_aload_n F.1 F.2.1 dX11_count_112 rfl (lv_at hl 0 rfl) ?_
    refine lv_iconst (v := 1) F.1 F.2.1 dX11_count_113 (by decide) ?_
    obtain ⟨ht41, h⟩ := h
    refine xk_X11_countJams F C l0 1 ht41 h ux_727 (Nat.le_of_ble_eq_true rfl) (Nat.le_of_ble_eq_true rfl) hl.1 (by simp [Value.category]) dX11_count_114 (fun r40 σ39 H locs h C => ?_)
    refine vx_ret ?_
    exact kx_iret F C hr hlocks h dX11_count_117
  replace h := h.2
  by_cases c42 : v1 = 8
  · replace h := h.1 c42
    refine lv_tableIn (off := 117) (tgt := 118) F.1 F.2.1 dX11_count_1 (by rw [c42]; decide) (by rw [c42]; decide) (by rw [c42]; decide) (by decide) ?_
    refine lv_aload_n F.1 F.2.1 dX11_count_118 rfl (lv_at hl 0 rfl) ?_
    obtain ⟨ht43, h⟩ := h
    refine xg_X11_orders F C ht43 ux_483 (fun _ h9 => h9) dX11_count_119 ?_
    obtain ⟨a44, ea45, h⟩ := h
    refine xq_nn ea45 ?_
    obtain ⟨ht48, h⟩ := h
    refine xk_Jx4a65c_size_8abf5 F C a44 ht48 h ux_500 (Nat.le_of_ble_eq_true rfl) (Nat.le_of_ble_eq_true rfl) hl.1 (by simp [Value.category]) dX11_count_122 (fun r47 σ46 H locs h C => ?_)
    refine vx_ret ?_
    exact kx_iret F C hr hlocks h dX11_count_127
  replace h := h.2
  by_cases c49 : v1 = 9
  · replace h := h.1 c49
    refine lv_tableIn (off := 127) (tgt := 128) F.1 F.2.1 dX11_count_1 (by rw [c49]; decide) (by rw [c49]; decide) (by rw [c49]; decide) (by decide) ?_
    refine lv_aload_n F.1 F.2.1 dX11_count_128 rfl (lv_at hl 0 rfl) ?_
    obtain ⟨ht50, h⟩ := h
    refine xg_X11_tape F C ht50 ux_486 (fun _ h9 => h9) dX11_count_129 ?_
    obtain ⟨a51, ea52, h⟩ := h
    refine xq_nn ea52 ?_
    obtain ⟨ht53, h⟩ := h
    refine xg_X9_length F C ht53 ux_567 (fun _ h9 => h9) dX11_count_132 ?_
    refine vx_ret ?_
    exact kx_iret F C hr hlocks h dX11_count_135
  replace h := h.2
  have ic2 : v1.toInt ≠ 0 := fun h9 => c2 (Int32.toInt_inj.mp (h9.trans (by decide)))
  have ic4 : v1.toInt ≠ 1 := fun h9 => c4 (Int32.toInt_inj.mp (h9.trans (by decide)))
  have ic11 : v1.toInt ≠ 2 := fun h9 => c11 (Int32.toInt_inj.mp (h9.trans (by decide)))
  have ic18 : v1.toInt ≠ 3 := fun h9 => c18 (Int32.toInt_inj.mp (h9.trans (by decide)))
  have ic25 : v1.toInt ≠ 4 := fun h9 => c25 (Int32.toInt_inj.mp (h9.trans (by decide)))
  have ic27 : v1.toInt ≠ 5 := fun h9 => c27 (Int32.toInt_inj.mp (h9.trans (by decide)))
  have ic34 : v1.toInt ≠ 6 := fun h9 => c34 (Int32.toInt_inj.mp (h9.trans (by decide)))
  have ic38 : v1.toInt ≠ 7 := fun h9 => c38 (Int32.toInt_inj.mp (h9.trans (by decide)))
  have ic42 : v1.toInt ≠ 8 := fun h9 => c42 (Int32.toInt_inj.mp (h9.trans (by decide)))
  have ic49 : v1.toInt ≠ 9 := fun h9 => c49 (Int32.toInt_inj.mp (h9.trans (by decide)))
  replace h := h c2 c4 c11 c18 c25 c27 c34 c38 c42 c49
  refine lv_tableOut (tgt := 136) F.1 F.2.1 dX11_count_1 (by omega) (by decide) ?_
  obtain ⟨hn54, h⟩ := h
  exact kx_throwN (is := 395) hlt (text := "nothing of that kind is counted") (by decide +kernel) F C hn54 h hl.1 ux_504 ux_505 dX11_count_136 dX11_count_139 dX11_count_140 dX11_count_143 dX11_count_146 hout (Nat.le_of_ble_eq_true rfl) (by simp [Value.category]) hlocks
section
variable {p : Program} {l : Launch} {e : Env} {fr lo c0 : Nat} {s : State} {m : MethodId} {args : Array Value} {below : List Frame} {meth : Method} {c : Code} {H : Heap} {locs : List Loc} {Q : State → Prop}
variable {cc : ByteArray} {pc nL index : Nat} {ls : Array Slot} {rest : List Value} {G : kx_G} {σ : kx_S} {own : String}
theorem xk_X11_count {P : Int32 → kx_S → Prop} {PX : String → kx_S → Prop} (hlt : l.stackTraces = false) (F : CallFix p m c cc nL s args kt_ own) (C : kx_X G c0 s H locs σ) (l0 : Nat) (l1 : Int32) (ha : xt σ l0 = 13) (h : wX11_count l0 l1 σ P PX) (hw : Cond.methodLink own index yX11_count ∈ kt_) (h1 : (6) + 1 ≤ fr) (h2 : 8 + (2 + 11) + (90) ≤ lo) (hsz : ls.size = nL) (hW : (rest.map fun v => v.category).sum ≤ 8) (hdg : decode cc pc = .ok (.invokevirtual index, 3)) (kx : ∀ (E : String) (ce : Cell) (q9 : Addr) (u : kx_S) (H1 : Heap) (locs1 : List Loc), PX E u → kx_X G c0 s H1 locs1 u → H1[q9]? = some ce → ce.vm = .none → s.vm.findClass E = some ce.cls → vx_W p l e (kx_rm fr lo c0) s m args below meth c H1 locs1 (xc u - c0) (600 * (xc u - c0)) Q (F0 m pc ls rest) q9) (kk : ∀ (r : Int32) (u : kx_S) (H1 : Heap) (locs1 : List Loc), P r u → kx_X G c0 s H1 locs1 u → kx_W p l e fr lo c0 s m args below meth c H1 locs1 u Q (F0 m (pc + 3) ls (.int r :: rest))) : kx_W p l e fr lo c0 s m args below meth c H locs σ Q (F0 m pc ls (.int l1 :: .ref l0 :: rest)) :=
  kx_cVX (n := 1) (As := [.int l1]) (Cn := RX11) F C (hx_X11_count l hlt G l0 l1 σ P PX h) (kt_V hw ux_729 ux_730 ux_117 ux_728) (by decide +kernel) ⟨h1, h2⟩ (kx_recv C (by rw [ha]; decide) (kx_e13 ha) rfl) rfl hsz hW hdg kx (fun v u H1 locs1 hP9 C9 => by obtain ⟨r, hv, hp⟩ := hP9; subst hv; exact kk r u H1 locs1 hp C9)
end
